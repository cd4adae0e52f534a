/-! THE LAW'S HELPERS -/
theorem va_all (ws : va_W) : (List.range ws.length).map (fun i => ws[i]?) = ws.map some := by
  apply List.ext_getElem?
  intro t
  rw [List.getElem?_map, List.getElem?_map]
  by_cases h : t < ws.length
  · rw [List.getElem?_range h]
    show some ws[t]? = Option.map some ws[t]?
    rw [List.getElem?_eq_getElem h]; rfl
  · rw [List.getElem?_eq_none (by rw [List.length_range]; omega), List.getElem?_eq_none (by omega)]; rfl
theorem va_nd_of : ∀ {l : List Nat}, l.Nodup → va_nd l = true
  | [], _ => rfl
  | a :: l, h => by
    rw [List.nodup_cons] at h
    show (decide (a ∉ l) && va_nd l) = true
    rw [va_nd_of h.2, decide_eq_true h.1]; rfl
theorem va_nd_range (n : Nat) : va_nd (List.range n) = true := va_nd_of List.nodup_range
theorem in01 : vp_in 0 1 := by unfold vp_in; decide
abbrev rmH : Room := { frames := 10, cells := 6, slots := 60, locals := 390 }
def okrm (rm : Room) : Prop := rm.frames ≤ 9 ∧ rm.locals ≤ 336 ∧ rm.cells ≤ 6 ∧ rm.slots ≤ 60
theorem okO_X4_mount : okO RX4 yX4_mount cX4_mount 3 (some .int) 1 := okX4_mount
set_option maxRecDepth 100000 in
set_option maxHeartbeats 4000000 in
theorem ch_mount_ok (l : Launch) (D : mG) (x xa oa : Nat) (ov : Nat → Int64) (I : Nat → Nat → Nat) (N : Nat) (M : MSt) (p0 : Int32) {rm : Room} (hrm : okrm rm) {S : Type} {v : S → Int32} {I1 : S → Nat → Nat → Nat} {N1 : Nat} {M1 : MSt} (h : cZ l D yX4_mount cX4_mount 3 (some .int) rm (WS D x xa oa ov I N M) (fun _ => True) [.ref x, .int p0] (fun u => some (.int (v u))) (fun u => WS D x xa oa ov (I1 u) N1 M1)) : cH l D yL_mount cL_mount 4 [(0, 9, 12, 13), (0, 9, 15, 15)] rmH (WS D x xa oa ov I N M) [.ref x, .int p0, .ref oa] (fun _ : S => some (.int 0)) (fun u => WS D x xa oa (vp_updL ov 0 (v u).toInt64) (I1 u) N1 M1) := by
  refine cH_of (by decide) (Nat.le_of_ble_eq_true rfl) ?_
  intro p e s m below meth c ls A hx hb hr hlocks htab G hgf hz hA hP hD hS hl
  have hP : va_P D.1 vwCl (WS D x xa oa ov I N M) s.heap := hP
  have hD : va_D A (WS D x xa oa ov I N M) := hD
  have hl : lv_has ls 4 [(0, .ref x), (1, .int p0), (2, .ref oa)] := hl
  refine lv_aload_n hx hb dL_mount_0 rfl (lv_at hl 2 rfl) ?_
  refine lv_iconst (v := 0) hx hb dL_mount_1 (by decide) ?_
  refine lv_aload_n hx hb dL_mount_2 rfl (lv_at hl 0 rfl) ?_
  refine lv_iload_n hx hb dL_mount_3 rfl (lv_at hl 1 rfl) ?_
  refine kZ (C := RX4) (wr := []) (rest := [.int 0, .ref oa]) G h okO_X4_mount hgf hP hD hS hA trivial (List.range (WS D x xa oa ov I N M).length) [] (va_nd_range _) (va_all _) rfl rfl (fun _ h => nomatch h) (mw_recv hgf (hP 0 _ rfl) rfl) qw1_54 ⟨by have := hrm.1; show rm.frames + 1 ≤ 10; omega, by have := hrm.2.1; show 8 + (3 + 11) + rm.locals ≤ 390; omega⟩ ⟨by have := hrm.2.2.1; show 0 + rm.cells ≤ 6; omega, by have := hrm.2.2.2; show 0 + rm.slots ≤ 60; omega⟩ hl.1 (Nat.le_of_ble_eq_true rfl) rfl dL_mount_4 (fun u H locs hP hD hS => ?_)
  have hP : va_P D.1 vwCl (WS D x xa oa ov (I1 u) N1 M1) H := hP
  have hD : va_D A (WS D x xa oa ov (I1 u) N1 M1) := hD
  refine lv_i2l hx hb dL_mount_7 rfl ?_
  refine mw_last (f := ov) (w1 := WS D x xa oa (vp_updL ov 0 ((v u).toInt64)) (I1 u) N1 M1) G hgf hP hD hS 2 rfl in01 rfl dL_mount_8 (fun H locs hP hD hS => ?_)
  refine lv_goto (tgt := 18) hx hb dL_mount_9 (by decide) ?_
  refine lv_iconst (v := 0) hx hb dL_mount_18 (by decide) ?_
  exact mw_widen (k := 6) (n := 60) (by have := hrm.2.2.1; omega) (by have := hrm.2.2.2; omega) (mE_iret u rfl hx hb hr hlocks hP hD hS dL_mount_19)
set_option maxRecDepth 100000 in
set_option maxHeartbeats 4000000 in
theorem ch_mount_t1 (l : Launch) (D : mG) (x xa oa : Nat) (ov : Nat → Int64) (I : Nat → Nat → Nat) (N : Nat) (M : MSt) (p0 : Int32) {k : Nat} (hk : k ≤ 8) (h : cT l D yX4_mount cX4_mount 3 .int k (fun H => va_P D.1 vwCl (WS D x xa oa ov I N M) H) [.ref x, .int p0] "java/lang/IllegalArgumentException") : cH l D yL_mount cL_mount 4 [(0, 9, 12, 13), (0, 9, 15, 15)] rmH (WS D x xa oa ov I N M) [.ref x, .int p0, .ref oa] (fun _ : Unit => some (.int 1)) (fun _ => WS D x xa oa ov I N M) := by
  refine cH_of (by decide) (Nat.le_of_ble_eq_true rfl) ?_
  intro p e s m below meth c ls A hx hb hr hlocks htab G hgf hz hA hP hD hS hl
  have hP : va_P D.1 vwCl (WS D x xa oa ov I N M) s.heap := hP
  have hD : va_D A (WS D x xa oa ov I N M) := hD
  have hl : lv_has ls 4 [(0, .ref x), (1, .int p0), (2, .ref oa)] := hl
  refine lv_aload_n hx hb dL_mount_0 rfl (lv_at hl 2 rfl) ?_
  refine lv_iconst (v := 0) hx hb dL_mount_1 (by decide) ?_
  refine lv_aload_n hx hb dL_mount_2 rfl (lv_at hl 0 rfl) ?_
  refine lv_iload_n hx hb dL_mount_3 rfl (lv_at hl 1 rfl) ?_
  refine kTC (C := RX4) (rest := [.int 0, .ref oa]) G h okX4_mount hgf hz hP hS hP (mw_recv hgf (hP 0 _ rfl) rfl) qw1_54 ⟨by show k + 1 ≤ 10; omega, by show 8 + (3 + 11) + 42 * k ≤ 390; omega⟩ ⟨Nat.le_of_ble_eq_true rfl, Nat.le_of_ble_eq_true rfl⟩ hl.1 (Nat.le_of_ble_eq_true rfl) rfl dL_mount_4 (tableOf []) ⟨0, 9, 12, 13⟩ (tableOf [(0, 9, 15, 15)]) (htab.trans rfl) (fun z hz => nomatch hz) rfl (by decide) qw1_52 (by decide +kernel) (fun q H locs hP hS => ?_)
  refine lv_astore_n (lv' := [(3, .ref q), (0, .ref x), (1, .int p0), (2, .ref oa)]) hx hb dL_mount_12 rfl hl (by decide) rfl (fun ls hl => ?_)
  refine lv_iconst (v := 1) hx hb dL_mount_13 (by decide) ?_
  exact mw_widen (k := 6) (n := 60) (Nat.le_of_ble_eq_true rfl) (Nat.le_of_ble_eq_true rfl) (mE_iret () rfl hx hb hr hlocks hP hD hS dL_mount_14)
set_option maxRecDepth 100000 in
set_option maxHeartbeats 4000000 in
theorem ch_mount_t2 (l : Launch) (D : mG) (x xa oa : Nat) (ov : Nat → Int64) (I : Nat → Nat → Nat) (N : Nat) (M : MSt) (p0 : Int32) {k : Nat} (hk : k ≤ 8) (h : cT l D yX4_mount cX4_mount 3 .int k (fun H => va_P D.1 vwCl (WS D x xa oa ov I N M) H) [.ref x, .int p0] "java/lang/UnsupportedOperationException") : cH l D yL_mount cL_mount 4 [(0, 9, 12, 13), (0, 9, 15, 15)] rmH (WS D x xa oa ov I N M) [.ref x, .int p0, .ref oa] (fun _ : Unit => some (.int 2)) (fun _ => WS D x xa oa ov I N M) := by
  refine cH_of (by decide) (Nat.le_of_ble_eq_true rfl) ?_
  intro p e s m below meth c ls A hx hb hr hlocks htab G hgf hz hA hP hD hS hl
  have hP : va_P D.1 vwCl (WS D x xa oa ov I N M) s.heap := hP
  have hD : va_D A (WS D x xa oa ov I N M) := hD
  have hl : lv_has ls 4 [(0, .ref x), (1, .int p0), (2, .ref oa)] := hl
  refine lv_aload_n hx hb dL_mount_0 rfl (lv_at hl 2 rfl) ?_
  refine lv_iconst (v := 0) hx hb dL_mount_1 (by decide) ?_
  refine lv_aload_n hx hb dL_mount_2 rfl (lv_at hl 0 rfl) ?_
  refine lv_iload_n hx hb dL_mount_3 rfl (lv_at hl 1 rfl) ?_
  refine kTC (C := RX4) (rest := [.int 0, .ref oa]) G h okX4_mount hgf hz hP hS hP (mw_recv hgf (hP 0 _ rfl) rfl) qw1_54 ⟨by show k + 1 ≤ 10; omega, by show 8 + (3 + 11) + 42 * k ≤ 390; omega⟩ ⟨Nat.le_of_ble_eq_true rfl, Nat.le_of_ble_eq_true rfl⟩ hl.1 (Nat.le_of_ble_eq_true rfl) rfl dL_mount_4 (tableOf [(0, 9, 12, 13)]) ⟨0, 9, 15, 15⟩ (tableOf []) (htab.trans rfl) (fun z hz => by obtain rfl := List.mem_singleton.mp hz; exact ⟨by decide, "java/lang/IllegalArgumentException", qw1_52, by decide +kernel⟩) rfl (by decide) qw1_53 (by decide +kernel) (fun q H locs hP hS => ?_)
  refine lv_astore_n (lv' := [(3, .ref q), (0, .ref x), (1, .int p0), (2, .ref oa)]) hx hb dL_mount_15 rfl hl (by decide) rfl (fun ls hl => ?_)
  refine lv_iconst (v := 2) hx hb dL_mount_16 (by decide) ?_
  exact mw_widen (k := 6) (n := 60) (Nat.le_of_ble_eq_true rfl) (Nat.le_of_ble_eq_true rfl) (mE_iret () rfl hx hb hr hlocks hP hD hS dL_mount_17)
theorem okO_X4_step : okO RX4 yX4_step cX4_step 9 (some .int) 3 := okX4_step
set_option maxRecDepth 100000 in
set_option maxHeartbeats 4000000 in
theorem ch_step_ok (l : Launch) (D : mG) (x xa oa : Nat) (ov : Nat → Int64) (I : Nat → Nat → Nat) (N : Nat) (M : MSt) (p0 : Int32) (p1 : Int32) (p2 : Int64) {rm : Room} (hrm : okrm rm) {S : Type} {v : S → Int32} {I1 : S → Nat → Nat → Nat} {N1 : Nat} {M1 : MSt} (h : cZ l D yX4_step cX4_step 9 (some .int) rm (WS D x xa oa ov I N M) (fun _ => True) [.ref x, .int p0, .int p1, .long p2] (fun u => some (.int (v u))) (fun u => WS D x xa oa ov (I1 u) N1 M1)) : cH l D yL_step cL_step 7 [(0, 12, 15, 21), (0, 12, 19, 13), (0, 12, 23, 23)] rmH (WS D x xa oa ov I N M) [.ref x, .int p0, .int p1, .long p2, .ref oa] (fun _ : S => some (.int 0)) (fun u => WS D x xa oa (vp_updL ov 0 (v u).toInt64) (I1 u) N1 M1) := by
  refine cH_of (by decide) (Nat.le_of_ble_eq_true rfl) ?_
  intro p e s m below meth c ls A hx hb hr hlocks htab G hgf hz hA hP hD hS hl
  have hP : va_P D.1 vwCl (WS D x xa oa ov I N M) s.heap := hP
  have hD : va_D A (WS D x xa oa ov I N M) := hD
  have hl : lv_has ls 7 [(0, .ref x), (1, .int p0), (2, .int p1), (3, .long p2), (5, .ref oa)] := hl
  refine lv_aload hx hb dL_step_0 (lv_at hl 4 rfl) ?_
  refine lv_iconst (v := 0) hx hb dL_step_2 (by decide) ?_
  refine lv_aload_n hx hb dL_step_3 rfl (lv_at hl 0 rfl) ?_
  refine lv_iload_n hx hb dL_step_4 rfl (lv_at hl 1 rfl) ?_
  refine lv_iload_n hx hb dL_step_5 rfl (lv_at hl 2 rfl) ?_
  refine lv_lload_n hx hb dL_step_6 rfl (lv_at hl 3 rfl) ?_
  refine kZ (C := RX4) (wr := []) (rest := [.int 0, .ref oa]) G h okO_X4_step hgf hP hD hS hA trivial (List.range (WS D x xa oa ov I N M).length) [] (va_nd_range _) (va_all _) rfl rfl (fun _ h => nomatch h) (mw_recv hgf (hP 0 _ rfl) rfl) qw2_39 ⟨by have := hrm.1; show rm.frames + 1 ≤ 10; omega, by have := hrm.2.1; show 8 + (9 + 11) + rm.locals ≤ 390; omega⟩ ⟨by have := hrm.2.2.1; show 0 + rm.cells ≤ 6; omega, by have := hrm.2.2.2; show 0 + rm.slots ≤ 60; omega⟩ hl.1 (Nat.le_of_ble_eq_true rfl) rfl dL_step_7 (fun u H locs hP hD hS => ?_)
  have hP : va_P D.1 vwCl (WS D x xa oa ov (I1 u) N1 M1) H := hP
  have hD : va_D A (WS D x xa oa ov (I1 u) N1 M1) := hD
  refine lv_i2l hx hb dL_step_10 rfl ?_
  refine mw_last (f := ov) (w1 := WS D x xa oa (vp_updL ov 0 ((v u).toInt64)) (I1 u) N1 M1) G hgf hP hD hS 2 rfl in01 rfl dL_step_11 (fun H locs hP hD hS => ?_)
  refine lv_goto (tgt := 27) hx hb dL_step_12 (by decide) ?_
  refine lv_iconst (v := 0) hx hb dL_step_27 (by decide) ?_
  exact mw_widen (k := 6) (n := 60) (by have := hrm.2.2.1; omega) (by have := hrm.2.2.2; omega) (mE_iret u rfl hx hb hr hlocks hP hD hS dL_step_28)
set_option maxRecDepth 100000 in
set_option maxHeartbeats 4000000 in
theorem ch_step_t1 (l : Launch) (D : mG) (x xa oa : Nat) (ov : Nat → Int64) (I : Nat → Nat → Nat) (N : Nat) (M : MSt) (p0 : Int32) (p1 : Int32) (p2 : Int64) {k : Nat} (hk : k ≤ 8) (h : cT l D yX4_step cX4_step 9 .int k (fun H => va_P D.1 vwCl (WS D x xa oa ov I N M) H) [.ref x, .int p0, .int p1, .long p2] "java/lang/IndexOutOfBoundsException") : cH l D yL_step cL_step 7 [(0, 12, 15, 21), (0, 12, 19, 13), (0, 12, 23, 23)] rmH (WS D x xa oa ov I N M) [.ref x, .int p0, .int p1, .long p2, .ref oa] (fun _ : Unit => some (.int 1)) (fun _ => WS D x xa oa ov I N M) := by
  refine cH_of (by decide) (Nat.le_of_ble_eq_true rfl) ?_
  intro p e s m below meth c ls A hx hb hr hlocks htab G hgf hz hA hP hD hS hl
  have hP : va_P D.1 vwCl (WS D x xa oa ov I N M) s.heap := hP
  have hD : va_D A (WS D x xa oa ov I N M) := hD
  have hl : lv_has ls 7 [(0, .ref x), (1, .int p0), (2, .int p1), (3, .long p2), (5, .ref oa)] := hl
  refine lv_aload hx hb dL_step_0 (lv_at hl 4 rfl) ?_
  refine lv_iconst (v := 0) hx hb dL_step_2 (by decide) ?_
  refine lv_aload_n hx hb dL_step_3 rfl (lv_at hl 0 rfl) ?_
  refine lv_iload_n hx hb dL_step_4 rfl (lv_at hl 1 rfl) ?_
  refine lv_iload_n hx hb dL_step_5 rfl (lv_at hl 2 rfl) ?_
  refine lv_lload_n hx hb dL_step_6 rfl (lv_at hl 3 rfl) ?_
  refine kTC (C := RX4) (rest := [.int 0, .ref oa]) G h okX4_step hgf hz hP hS hP (mw_recv hgf (hP 0 _ rfl) rfl) qw2_39 ⟨by show k + 1 ≤ 10; omega, by show 8 + (9 + 11) + 42 * k ≤ 390; omega⟩ ⟨Nat.le_of_ble_eq_true rfl, Nat.le_of_ble_eq_true rfl⟩ hl.1 (Nat.le_of_ble_eq_true rfl) rfl dL_step_7 (tableOf []) ⟨0, 12, 15, 21⟩ (tableOf [(0, 12, 19, 13), (0, 12, 23, 23)]) (htab.trans rfl) (fun z hz => nomatch hz) rfl (by decide) qw2_37 (by decide +kernel) (fun q H locs hP hS => ?_)
  refine lv_astore (lv' := [(6, .ref q), (0, .ref x), (1, .int p0), (2, .int p1), (3, .long p2), (5, .ref oa)]) hx hb dL_step_15 hl (by decide) rfl (fun ls hl => ?_)
  refine lv_iconst (v := 1) hx hb dL_step_17 (by decide) ?_
  exact mw_widen (k := 6) (n := 60) (Nat.le_of_ble_eq_true rfl) (Nat.le_of_ble_eq_true rfl) (mE_iret () rfl hx hb hr hlocks hP hD hS dL_step_18)
set_option maxRecDepth 100000 in
set_option maxHeartbeats 4000000 in
theorem ch_step_t2 (l : Launch) (D : mG) (x xa oa : Nat) (ov : Nat → Int64) (I : Nat → Nat → Nat) (N : Nat) (M : MSt) (p0 : Int32) (p1 : Int32) (p2 : Int64) {k : Nat} (hk : k ≤ 8) (h : cT l D yX4_step cX4_step 9 .int k (fun H => va_P D.1 vwCl (WS D x xa oa ov I N M) H) [.ref x, .int p0, .int p1, .long p2] "java/lang/IllegalArgumentException") : cH l D yL_step cL_step 7 [(0, 12, 15, 21), (0, 12, 19, 13), (0, 12, 23, 23)] rmH (WS D x xa oa ov I N M) [.ref x, .int p0, .int p1, .long p2, .ref oa] (fun _ : Unit => some (.int 2)) (fun _ => WS D x xa oa ov I N M) := by
  refine cH_of (by decide) (Nat.le_of_ble_eq_true rfl) ?_
  intro p e s m below meth c ls A hx hb hr hlocks htab G hgf hz hA hP hD hS hl
  have hP : va_P D.1 vwCl (WS D x xa oa ov I N M) s.heap := hP
  have hD : va_D A (WS D x xa oa ov I N M) := hD
  have hl : lv_has ls 7 [(0, .ref x), (1, .int p0), (2, .int p1), (3, .long p2), (5, .ref oa)] := hl
  refine lv_aload hx hb dL_step_0 (lv_at hl 4 rfl) ?_
  refine lv_iconst (v := 0) hx hb dL_step_2 (by decide) ?_
  refine lv_aload_n hx hb dL_step_3 rfl (lv_at hl 0 rfl) ?_
  refine lv_iload_n hx hb dL_step_4 rfl (lv_at hl 1 rfl) ?_
  refine lv_iload_n hx hb dL_step_5 rfl (lv_at hl 2 rfl) ?_
  refine lv_lload_n hx hb dL_step_6 rfl (lv_at hl 3 rfl) ?_
  refine kTC (C := RX4) (rest := [.int 0, .ref oa]) G h okX4_step hgf hz hP hS hP (mw_recv hgf (hP 0 _ rfl) rfl) qw2_39 ⟨by show k + 1 ≤ 10; omega, by show 8 + (9 + 11) + 42 * k ≤ 390; omega⟩ ⟨Nat.le_of_ble_eq_true rfl, Nat.le_of_ble_eq_true rfl⟩ hl.1 (Nat.le_of_ble_eq_true rfl) rfl dL_step_7 (tableOf [(0, 12, 15, 21)]) ⟨0, 12, 19, 13⟩ (tableOf [(0, 12, 23, 23)]) (htab.trans rfl) (fun z hz => by obtain rfl := List.mem_singleton.mp hz; exact ⟨by decide, "java/lang/IndexOutOfBoundsException", qw2_37, by decide +kernel⟩) rfl (by decide) qw1_52 (by decide +kernel) (fun q H locs hP hS => ?_)
  refine lv_astore (lv' := [(6, .ref q), (0, .ref x), (1, .int p0), (2, .int p1), (3, .long p2), (5, .ref oa)]) hx hb dL_step_19 hl (by decide) rfl (fun ls hl => ?_)
  refine lv_iconst (v := 2) hx hb dL_step_21 (by decide) ?_
  exact mw_widen (k := 6) (n := 60) (Nat.le_of_ble_eq_true rfl) (Nat.le_of_ble_eq_true rfl) (mE_iret () rfl hx hb hr hlocks hP hD hS dL_step_22)
set_option maxRecDepth 100000 in
set_option maxHeartbeats 4000000 in
theorem ch_step_t3 (l : Launch) (D : mG) (x xa oa : Nat) (ov : Nat → Int64) (I : Nat → Nat → Nat) (N : Nat) (M : MSt) (p0 : Int32) (p1 : Int32) (p2 : Int64) {k : Nat} (hk : k ≤ 8) (h : cT l D yX4_step cX4_step 9 .int k (fun H => va_P D.1 vwCl (WS D x xa oa ov I N M) H) [.ref x, .int p0, .int p1, .long p2] "java/lang/IllegalStateException") : cH l D yL_step cL_step 7 [(0, 12, 15, 21), (0, 12, 19, 13), (0, 12, 23, 23)] rmH (WS D x xa oa ov I N M) [.ref x, .int p0, .int p1, .long p2, .ref oa] (fun _ : Unit => some (.int 3)) (fun _ => WS D x xa oa ov I N M) := by
  refine cH_of (by decide) (Nat.le_of_ble_eq_true rfl) ?_
  intro p e s m below meth c ls A hx hb hr hlocks htab G hgf hz hA hP hD hS hl
  have hP : va_P D.1 vwCl (WS D x xa oa ov I N M) s.heap := hP
  have hD : va_D A (WS D x xa oa ov I N M) := hD
  have hl : lv_has ls 7 [(0, .ref x), (1, .int p0), (2, .int p1), (3, .long p2), (5, .ref oa)] := hl
  refine lv_aload hx hb dL_step_0 (lv_at hl 4 rfl) ?_
  refine lv_iconst (v := 0) hx hb dL_step_2 (by decide) ?_
  refine lv_aload_n hx hb dL_step_3 rfl (lv_at hl 0 rfl) ?_
  refine lv_iload_n hx hb dL_step_4 rfl (lv_at hl 1 rfl) ?_
  refine lv_iload_n hx hb dL_step_5 rfl (lv_at hl 2 rfl) ?_
  refine lv_lload_n hx hb dL_step_6 rfl (lv_at hl 3 rfl) ?_
  refine kTC (C := RX4) (rest := [.int 0, .ref oa]) G h okX4_step hgf hz hP hS hP (mw_recv hgf (hP 0 _ rfl) rfl) qw2_39 ⟨by show k + 1 ≤ 10; omega, by show 8 + (9 + 11) + 42 * k ≤ 390; omega⟩ ⟨Nat.le_of_ble_eq_true rfl, Nat.le_of_ble_eq_true rfl⟩ hl.1 (Nat.le_of_ble_eq_true rfl) rfl dL_step_7 (tableOf [(0, 12, 15, 21), (0, 12, 19, 13)]) ⟨0, 12, 23, 23⟩ (tableOf []) (htab.trans rfl) (fun z hz => by rcases List.mem_cons.mp hz with rfl | hz; exact ⟨by decide, "java/lang/IndexOutOfBoundsException", qw2_37, by decide +kernel⟩; obtain rfl := List.mem_singleton.mp hz; exact ⟨by decide, "java/lang/IllegalArgumentException", qw1_52, by decide +kernel⟩) rfl (by decide) qw2_38 (by decide +kernel) (fun q H locs hP hS => ?_)
  refine lv_astore (lv' := [(6, .ref q), (0, .ref x), (1, .int p0), (2, .int p1), (3, .long p2), (5, .ref oa)]) hx hb dL_step_23 hl (by decide) rfl (fun ls hl => ?_)
  refine lv_iconst (v := 3) hx hb dL_step_25 (by decide) ?_
  exact mw_widen (k := 6) (n := 60) (Nat.le_of_ble_eq_true rfl) (Nat.le_of_ble_eq_true rfl) (mE_iret () rfl hx hb hr hlocks hP hD hS dL_step_26)
theorem okO_X4_follow : okO RX4 yX4_follow cX4_follow 6 (some .int) 3 := okX4_follow
set_option maxRecDepth 100000 in
set_option maxHeartbeats 4000000 in
theorem ch_follow_ok (l : Launch) (D : mG) (x xa oa : Nat) (ov : Nat → Int64) (I : Nat → Nat → Nat) (N : Nat) (M : MSt) (p0 : Int32) (p1 : Int32) (p2 : Int32) {rm : Room} (hrm : okrm rm) {S : Type} {v : S → Int32} {I1 : S → Nat → Nat → Nat} {N1 : Nat} {M1 : MSt} (h : cZ l D yX4_follow cX4_follow 6 (some .int) rm (WS D x xa oa ov I N M) (fun _ => True) [.ref x, .int p0, .int p1, .int p2] (fun u => some (.int (v u))) (fun u => WS D x xa oa ov (I1 u) N1 M1)) : cH l D yL_follow cL_follow 6 [(0, 12, 15, 21), (0, 12, 19, 13), (0, 12, 23, 23)] rmH (WS D x xa oa ov I N M) [.ref x, .int p0, .int p1, .int p2, .ref oa] (fun _ : S => some (.int 0)) (fun u => WS D x xa oa (vp_updL ov 0 (v u).toInt64) (I1 u) N1 M1) := by
  refine cH_of (by decide) (Nat.le_of_ble_eq_true rfl) ?_
  intro p e s m below meth c ls A hx hb hr hlocks htab G hgf hz hA hP hD hS hl
  have hP : va_P D.1 vwCl (WS D x xa oa ov I N M) s.heap := hP
  have hD : va_D A (WS D x xa oa ov I N M) := hD
  have hl : lv_has ls 6 [(0, .ref x), (1, .int p0), (2, .int p1), (3, .int p2), (4, .ref oa)] := hl
  refine lv_aload hx hb dL_follow_0 (lv_at hl 4 rfl) ?_
  refine lv_iconst (v := 0) hx hb dL_follow_2 (by decide) ?_
  refine lv_aload_n hx hb dL_follow_3 rfl (lv_at hl 0 rfl) ?_
  refine lv_iload_n hx hb dL_follow_4 rfl (lv_at hl 1 rfl) ?_
  refine lv_iload_n hx hb dL_follow_5 rfl (lv_at hl 2 rfl) ?_
  refine lv_iload_n hx hb dL_follow_6 rfl (lv_at hl 3 rfl) ?_
  refine kZ (C := RX4) (wr := []) (rest := [.int 0, .ref oa]) G h okO_X4_follow hgf hP hD hS hA trivial (List.range (WS D x xa oa ov I N M).length) [] (va_nd_range _) (va_all _) rfl rfl (fun _ h => nomatch h) (mw_recv hgf (hP 0 _ rfl) rfl) qw2_121 ⟨by have := hrm.1; show rm.frames + 1 ≤ 10; omega, by have := hrm.2.1; show 8 + (6 + 11) + rm.locals ≤ 390; omega⟩ ⟨by have := hrm.2.2.1; show 0 + rm.cells ≤ 6; omega, by have := hrm.2.2.2; show 0 + rm.slots ≤ 60; omega⟩ hl.1 (Nat.le_of_ble_eq_true rfl) rfl dL_follow_7 (fun u H locs hP hD hS => ?_)
  have hP : va_P D.1 vwCl (WS D x xa oa ov (I1 u) N1 M1) H := hP
  have hD : va_D A (WS D x xa oa ov (I1 u) N1 M1) := hD
  refine lv_i2l hx hb dL_follow_10 rfl ?_
  refine mw_last (f := ov) (w1 := WS D x xa oa (vp_updL ov 0 ((v u).toInt64)) (I1 u) N1 M1) G hgf hP hD hS 2 rfl in01 rfl dL_follow_11 (fun H locs hP hD hS => ?_)
  refine lv_goto (tgt := 27) hx hb dL_follow_12 (by decide) ?_
  refine lv_iconst (v := 0) hx hb dL_follow_27 (by decide) ?_
  exact mw_widen (k := 6) (n := 60) (by have := hrm.2.2.1; omega) (by have := hrm.2.2.2; omega) (mE_iret u rfl hx hb hr hlocks hP hD hS dL_follow_28)
set_option maxRecDepth 100000 in
set_option maxHeartbeats 4000000 in
theorem ch_follow_t1 (l : Launch) (D : mG) (x xa oa : Nat) (ov : Nat → Int64) (I : Nat → Nat → Nat) (N : Nat) (M : MSt) (p0 : Int32) (p1 : Int32) (p2 : Int32) {k : Nat} (hk : k ≤ 8) (h : cT l D yX4_follow cX4_follow 6 .int k (fun H => va_P D.1 vwCl (WS D x xa oa ov I N M) H) [.ref x, .int p0, .int p1, .int p2] "java/lang/IndexOutOfBoundsException") : cH l D yL_follow cL_follow 6 [(0, 12, 15, 21), (0, 12, 19, 13), (0, 12, 23, 23)] rmH (WS D x xa oa ov I N M) [.ref x, .int p0, .int p1, .int p2, .ref oa] (fun _ : Unit => some (.int 1)) (fun _ => WS D x xa oa ov I N M) := by
  refine cH_of (by decide) (Nat.le_of_ble_eq_true rfl) ?_
  intro p e s m below meth c ls A hx hb hr hlocks htab G hgf hz hA hP hD hS hl
  have hP : va_P D.1 vwCl (WS D x xa oa ov I N M) s.heap := hP
  have hD : va_D A (WS D x xa oa ov I N M) := hD
  have hl : lv_has ls 6 [(0, .ref x), (1, .int p0), (2, .int p1), (3, .int p2), (4, .ref oa)] := hl
  refine lv_aload hx hb dL_follow_0 (lv_at hl 4 rfl) ?_
  refine lv_iconst (v := 0) hx hb dL_follow_2 (by decide) ?_
  refine lv_aload_n hx hb dL_follow_3 rfl (lv_at hl 0 rfl) ?_
  refine lv_iload_n hx hb dL_follow_4 rfl (lv_at hl 1 rfl) ?_
  refine lv_iload_n hx hb dL_follow_5 rfl (lv_at hl 2 rfl) ?_
  refine lv_iload_n hx hb dL_follow_6 rfl (lv_at hl 3 rfl) ?_
  refine kTC (C := RX4) (rest := [.int 0, .ref oa]) G h okX4_follow hgf hz hP hS hP (mw_recv hgf (hP 0 _ rfl) rfl) qw2_121 ⟨by show k + 1 ≤ 10; omega, by show 8 + (6 + 11) + 42 * k ≤ 390; omega⟩ ⟨Nat.le_of_ble_eq_true rfl, Nat.le_of_ble_eq_true rfl⟩ hl.1 (Nat.le_of_ble_eq_true rfl) rfl dL_follow_7 (tableOf []) ⟨0, 12, 15, 21⟩ (tableOf [(0, 12, 19, 13), (0, 12, 23, 23)]) (htab.trans rfl) (fun z hz => nomatch hz) rfl (by decide) qw2_37 (by decide +kernel) (fun q H locs hP hS => ?_)
  refine lv_astore (lv' := [(5, .ref q), (0, .ref x), (1, .int p0), (2, .int p1), (3, .int p2), (4, .ref oa)]) hx hb dL_follow_15 hl (by decide) rfl (fun ls hl => ?_)
  refine lv_iconst (v := 1) hx hb dL_follow_17 (by decide) ?_
  exact mw_widen (k := 6) (n := 60) (Nat.le_of_ble_eq_true rfl) (Nat.le_of_ble_eq_true rfl) (mE_iret () rfl hx hb hr hlocks hP hD hS dL_follow_18)
set_option maxRecDepth 100000 in
set_option maxHeartbeats 4000000 in
theorem ch_follow_t2 (l : Launch) (D : mG) (x xa oa : Nat) (ov : Nat → Int64) (I : Nat → Nat → Nat) (N : Nat) (M : MSt) (p0 : Int32) (p1 : Int32) (p2 : Int32) {k : Nat} (hk : k ≤ 8) (h : cT l D yX4_follow cX4_follow 6 .int k (fun H => va_P D.1 vwCl (WS D x xa oa ov I N M) H) [.ref x, .int p0, .int p1, .int p2] "java/lang/IllegalArgumentException") : cH l D yL_follow cL_follow 6 [(0, 12, 15, 21), (0, 12, 19, 13), (0, 12, 23, 23)] rmH (WS D x xa oa ov I N M) [.ref x, .int p0, .int p1, .int p2, .ref oa] (fun _ : Unit => some (.int 2)) (fun _ => WS D x xa oa ov I N M) := by
  refine cH_of (by decide) (Nat.le_of_ble_eq_true rfl) ?_
  intro p e s m below meth c ls A hx hb hr hlocks htab G hgf hz hA hP hD hS hl
  have hP : va_P D.1 vwCl (WS D x xa oa ov I N M) s.heap := hP
  have hD : va_D A (WS D x xa oa ov I N M) := hD
  have hl : lv_has ls 6 [(0, .ref x), (1, .int p0), (2, .int p1), (3, .int p2), (4, .ref oa)] := hl
  refine lv_aload hx hb dL_follow_0 (lv_at hl 4 rfl) ?_
  refine lv_iconst (v := 0) hx hb dL_follow_2 (by decide) ?_
  refine lv_aload_n hx hb dL_follow_3 rfl (lv_at hl 0 rfl) ?_
  refine lv_iload_n hx hb dL_follow_4 rfl (lv_at hl 1 rfl) ?_
  refine lv_iload_n hx hb dL_follow_5 rfl (lv_at hl 2 rfl) ?_
  refine lv_iload_n hx hb dL_follow_6 rfl (lv_at hl 3 rfl) ?_
  refine kTC (C := RX4) (rest := [.int 0, .ref oa]) G h okX4_follow hgf hz hP hS hP (mw_recv hgf (hP 0 _ rfl) rfl) qw2_121 ⟨by show k + 1 ≤ 10; omega, by show 8 + (6 + 11) + 42 * k ≤ 390; omega⟩ ⟨Nat.le_of_ble_eq_true rfl, Nat.le_of_ble_eq_true rfl⟩ hl.1 (Nat.le_of_ble_eq_true rfl) rfl dL_follow_7 (tableOf [(0, 12, 15, 21)]) ⟨0, 12, 19, 13⟩ (tableOf [(0, 12, 23, 23)]) (htab.trans rfl) (fun z hz => by obtain rfl := List.mem_singleton.mp hz; exact ⟨by decide, "java/lang/IndexOutOfBoundsException", qw2_37, by decide +kernel⟩) rfl (by decide) qw1_52 (by decide +kernel) (fun q H locs hP hS => ?_)
  refine lv_astore (lv' := [(5, .ref q), (0, .ref x), (1, .int p0), (2, .int p1), (3, .int p2), (4, .ref oa)]) hx hb dL_follow_19 hl (by decide) rfl (fun ls hl => ?_)
  refine lv_iconst (v := 2) hx hb dL_follow_21 (by decide) ?_
  exact mw_widen (k := 6) (n := 60) (Nat.le_of_ble_eq_true rfl) (Nat.le_of_ble_eq_true rfl) (mE_iret () rfl hx hb hr hlocks hP hD hS dL_follow_22)
set_option maxRecDepth 100000 in
set_option maxHeartbeats 4000000 in
theorem ch_follow_t3 (l : Launch) (D : mG) (x xa oa : Nat) (ov : Nat → Int64) (I : Nat → Nat → Nat) (N : Nat) (M : MSt) (p0 : Int32) (p1 : Int32) (p2 : Int32) {k : Nat} (hk : k ≤ 8) (h : cT l D yX4_follow cX4_follow 6 .int k (fun H => va_P D.1 vwCl (WS D x xa oa ov I N M) H) [.ref x, .int p0, .int p1, .int p2] "java/lang/IllegalStateException") : cH l D yL_follow cL_follow 6 [(0, 12, 15, 21), (0, 12, 19, 13), (0, 12, 23, 23)] rmH (WS D x xa oa ov I N M) [.ref x, .int p0, .int p1, .int p2, .ref oa] (fun _ : Unit => some (.int 3)) (fun _ => WS D x xa oa ov I N M) := by
  refine cH_of (by decide) (Nat.le_of_ble_eq_true rfl) ?_
  intro p e s m below meth c ls A hx hb hr hlocks htab G hgf hz hA hP hD hS hl
  have hP : va_P D.1 vwCl (WS D x xa oa ov I N M) s.heap := hP
  have hD : va_D A (WS D x xa oa ov I N M) := hD
  have hl : lv_has ls 6 [(0, .ref x), (1, .int p0), (2, .int p1), (3, .int p2), (4, .ref oa)] := hl
  refine lv_aload hx hb dL_follow_0 (lv_at hl 4 rfl) ?_
  refine lv_iconst (v := 0) hx hb dL_follow_2 (by decide) ?_
  refine lv_aload_n hx hb dL_follow_3 rfl (lv_at hl 0 rfl) ?_
  refine lv_iload_n hx hb dL_follow_4 rfl (lv_at hl 1 rfl) ?_
  refine lv_iload_n hx hb dL_follow_5 rfl (lv_at hl 2 rfl) ?_
  refine lv_iload_n hx hb dL_follow_6 rfl (lv_at hl 3 rfl) ?_
  refine kTC (C := RX4) (rest := [.int 0, .ref oa]) G h okX4_follow hgf hz hP hS hP (mw_recv hgf (hP 0 _ rfl) rfl) qw2_121 ⟨by show k + 1 ≤ 10; omega, by show 8 + (6 + 11) + 42 * k ≤ 390; omega⟩ ⟨Nat.le_of_ble_eq_true rfl, Nat.le_of_ble_eq_true rfl⟩ hl.1 (Nat.le_of_ble_eq_true rfl) rfl dL_follow_7 (tableOf [(0, 12, 15, 21), (0, 12, 19, 13)]) ⟨0, 12, 23, 23⟩ (tableOf []) (htab.trans rfl) (fun z hz => by rcases List.mem_cons.mp hz with rfl | hz; exact ⟨by decide, "java/lang/IndexOutOfBoundsException", qw2_37, by decide +kernel⟩; obtain rfl := List.mem_singleton.mp hz; exact ⟨by decide, "java/lang/IllegalArgumentException", qw1_52, by decide +kernel⟩) rfl (by decide) qw2_38 (by decide +kernel) (fun q H locs hP hS => ?_)
  refine lv_astore (lv' := [(5, .ref q), (0, .ref x), (1, .int p0), (2, .int p1), (3, .int p2), (4, .ref oa)]) hx hb dL_follow_23 hl (by decide) rfl (fun ls hl => ?_)
  refine lv_iconst (v := 3) hx hb dL_follow_25 (by decide) ?_
  exact mw_widen (k := 6) (n := 60) (Nat.le_of_ble_eq_true rfl) (Nat.le_of_ble_eq_true rfl) (mE_iret () rfl hx hb hr hlocks hP hD hS dL_follow_26)
theorem okO_X4_read : okO RX4 yX4_read cX4_read 9 (some .long) 2 := okX4_read
set_option maxRecDepth 100000 in
set_option maxHeartbeats 4000000 in
theorem ch_read_ok (l : Launch) (D : mG) (x xa oa : Nat) (ov : Nat → Int64) (I : Nat → Nat → Nat) (N : Nat) (M : MSt) (p0 : Int32) (p1 : Int64) {rm : Room} (hrm : okrm rm) {S : Type} {v : S → Int64} {I1 : S → Nat → Nat → Nat} {N1 : Nat} {M1 : MSt} (h : cZ l D yX4_read cX4_read 9 (some .long) rm (WS D x xa oa ov I N M) (fun _ => True) [.ref x, .int p0, .long p1] (fun u => some (.long (v u))) (fun u => WS D x xa oa ov (I1 u) N1 M1)) : cH l D yL_read cL_read 6 [(0, 10, 13, 21), (0, 10, 17, 13)] rmH (WS D x xa oa ov I N M) [.ref x, .int p0, .long p1, .ref oa] (fun _ : S => some (.int 0)) (fun u => WS D x xa oa (vp_updL ov 0 (v u)) (I1 u) N1 M1) := by
  refine cH_of (by decide) (Nat.le_of_ble_eq_true rfl) ?_
  intro p e s m below meth c ls A hx hb hr hlocks htab G hgf hz hA hP hD hS hl
  have hP : va_P D.1 vwCl (WS D x xa oa ov I N M) s.heap := hP
  have hD : va_D A (WS D x xa oa ov I N M) := hD
  have hl : lv_has ls 6 [(0, .ref x), (1, .int p0), (2, .long p1), (4, .ref oa)] := hl
  refine lv_aload hx hb dL_read_0 (lv_at hl 3 rfl) ?_
  refine lv_iconst (v := 0) hx hb dL_read_2 (by decide) ?_
  refine lv_aload_n hx hb dL_read_3 rfl (lv_at hl 0 rfl) ?_
  refine lv_iload_n hx hb dL_read_4 rfl (lv_at hl 1 rfl) ?_
  refine lv_lload_n hx hb dL_read_5 rfl (lv_at hl 2 rfl) ?_
  refine kZ (C := RX4) (wr := []) (rest := [.int 0, .ref oa]) G h okO_X4_read hgf hP hD hS hA trivial (List.range (WS D x xa oa ov I N M).length) [] (va_nd_range _) (va_all _) rfl rfl (fun _ h => nomatch h) (mw_recv hgf (hP 0 _ rfl) rfl) qw2_130 ⟨by have := hrm.1; show rm.frames + 1 ≤ 10; omega, by have := hrm.2.1; show 8 + (9 + 11) + rm.locals ≤ 390; omega⟩ ⟨by have := hrm.2.2.1; show 0 + rm.cells ≤ 6; omega, by have := hrm.2.2.2; show 0 + rm.slots ≤ 60; omega⟩ hl.1 (Nat.le_of_ble_eq_true rfl) rfl dL_read_6 (fun u H locs hP hD hS => ?_)
  have hP : va_P D.1 vwCl (WS D x xa oa ov (I1 u) N1 M1) H := hP
  have hD : va_D A (WS D x xa oa ov (I1 u) N1 M1) := hD
  refine mw_last (f := ov) (w1 := WS D x xa oa (vp_updL ov 0 (v u)) (I1 u) N1 M1) G hgf hP hD hS 2 rfl in01 rfl dL_read_9 (fun H locs hP hD hS => ?_)
  refine lv_goto (tgt := 21) hx hb dL_read_10 (by decide) ?_
  refine lv_iconst (v := 0) hx hb dL_read_21 (by decide) ?_
  exact mw_widen (k := 6) (n := 60) (by have := hrm.2.2.1; omega) (by have := hrm.2.2.2; omega) (mE_iret u rfl hx hb hr hlocks hP hD hS dL_read_22)
set_option maxRecDepth 100000 in
set_option maxHeartbeats 4000000 in
theorem ch_read_t1 (l : Launch) (D : mG) (x xa oa : Nat) (ov : Nat → Int64) (I : Nat → Nat → Nat) (N : Nat) (M : MSt) (p0 : Int32) (p1 : Int64) {k : Nat} (hk : k ≤ 8) (h : cT l D yX4_read cX4_read 9 .long k (fun H => va_P D.1 vwCl (WS D x xa oa ov I N M) H) [.ref x, .int p0, .long p1] "java/lang/IndexOutOfBoundsException") : cH l D yL_read cL_read 6 [(0, 10, 13, 21), (0, 10, 17, 13)] rmH (WS D x xa oa ov I N M) [.ref x, .int p0, .long p1, .ref oa] (fun _ : Unit => some (.int 1)) (fun _ => WS D x xa oa ov I N M) := by
  refine cH_of (by decide) (Nat.le_of_ble_eq_true rfl) ?_
  intro p e s m below meth c ls A hx hb hr hlocks htab G hgf hz hA hP hD hS hl
  have hP : va_P D.1 vwCl (WS D x xa oa ov I N M) s.heap := hP
  have hD : va_D A (WS D x xa oa ov I N M) := hD
  have hl : lv_has ls 6 [(0, .ref x), (1, .int p0), (2, .long p1), (4, .ref oa)] := hl
  refine lv_aload hx hb dL_read_0 (lv_at hl 3 rfl) ?_
  refine lv_iconst (v := 0) hx hb dL_read_2 (by decide) ?_
  refine lv_aload_n hx hb dL_read_3 rfl (lv_at hl 0 rfl) ?_
  refine lv_iload_n hx hb dL_read_4 rfl (lv_at hl 1 rfl) ?_
  refine lv_lload_n hx hb dL_read_5 rfl (lv_at hl 2 rfl) ?_
  refine kTC (C := RX4) (rest := [.int 0, .ref oa]) G h okX4_read hgf hz hP hS hP (mw_recv hgf (hP 0 _ rfl) rfl) qw2_130 ⟨by show k + 1 ≤ 10; omega, by show 8 + (9 + 11) + 42 * k ≤ 390; omega⟩ ⟨Nat.le_of_ble_eq_true rfl, Nat.le_of_ble_eq_true rfl⟩ hl.1 (Nat.le_of_ble_eq_true rfl) rfl dL_read_6 (tableOf []) ⟨0, 10, 13, 21⟩ (tableOf [(0, 10, 17, 13)]) (htab.trans rfl) (fun z hz => nomatch hz) rfl (by decide) qw2_37 (by decide +kernel) (fun q H locs hP hS => ?_)
  refine lv_astore (lv' := [(5, .ref q), (0, .ref x), (1, .int p0), (2, .long p1), (4, .ref oa)]) hx hb dL_read_13 hl (by decide) rfl (fun ls hl => ?_)
  refine lv_iconst (v := 1) hx hb dL_read_15 (by decide) ?_
  exact mw_widen (k := 6) (n := 60) (Nat.le_of_ble_eq_true rfl) (Nat.le_of_ble_eq_true rfl) (mE_iret () rfl hx hb hr hlocks hP hD hS dL_read_16)
set_option maxRecDepth 100000 in
set_option maxHeartbeats 4000000 in
theorem ch_read_t2 (l : Launch) (D : mG) (x xa oa : Nat) (ov : Nat → Int64) (I : Nat → Nat → Nat) (N : Nat) (M : MSt) (p0 : Int32) (p1 : Int64) {k : Nat} (hk : k ≤ 8) (h : cT l D yX4_read cX4_read 9 .long k (fun H => va_P D.1 vwCl (WS D x xa oa ov I N M) H) [.ref x, .int p0, .long p1] "java/lang/IllegalArgumentException") : cH l D yL_read cL_read 6 [(0, 10, 13, 21), (0, 10, 17, 13)] rmH (WS D x xa oa ov I N M) [.ref x, .int p0, .long p1, .ref oa] (fun _ : Unit => some (.int 2)) (fun _ => WS D x xa oa ov I N M) := by
  refine cH_of (by decide) (Nat.le_of_ble_eq_true rfl) ?_
  intro p e s m below meth c ls A hx hb hr hlocks htab G hgf hz hA hP hD hS hl
  have hP : va_P D.1 vwCl (WS D x xa oa ov I N M) s.heap := hP
  have hD : va_D A (WS D x xa oa ov I N M) := hD
  have hl : lv_has ls 6 [(0, .ref x), (1, .int p0), (2, .long p1), (4, .ref oa)] := hl
  refine lv_aload hx hb dL_read_0 (lv_at hl 3 rfl) ?_
  refine lv_iconst (v := 0) hx hb dL_read_2 (by decide) ?_
  refine lv_aload_n hx hb dL_read_3 rfl (lv_at hl 0 rfl) ?_
  refine lv_iload_n hx hb dL_read_4 rfl (lv_at hl 1 rfl) ?_
  refine lv_lload_n hx hb dL_read_5 rfl (lv_at hl 2 rfl) ?_
  refine kTC (C := RX4) (rest := [.int 0, .ref oa]) G h okX4_read hgf hz hP hS hP (mw_recv hgf (hP 0 _ rfl) rfl) qw2_130 ⟨by show k + 1 ≤ 10; omega, by show 8 + (9 + 11) + 42 * k ≤ 390; omega⟩ ⟨Nat.le_of_ble_eq_true rfl, Nat.le_of_ble_eq_true rfl⟩ hl.1 (Nat.le_of_ble_eq_true rfl) rfl dL_read_6 (tableOf [(0, 10, 13, 21)]) ⟨0, 10, 17, 13⟩ (tableOf []) (htab.trans rfl) (fun z hz => by obtain rfl := List.mem_singleton.mp hz; exact ⟨by decide, "java/lang/IndexOutOfBoundsException", qw2_37, by decide +kernel⟩) rfl (by decide) qw1_52 (by decide +kernel) (fun q H locs hP hS => ?_)
  refine lv_astore (lv' := [(5, .ref q), (0, .ref x), (1, .int p0), (2, .long p1), (4, .ref oa)]) hx hb dL_read_17 hl (by decide) rfl (fun ls hl => ?_)
  refine lv_iconst (v := 2) hx hb dL_read_19 (by decide) ?_
  exact mw_widen (k := 6) (n := 60) (Nat.le_of_ble_eq_true rfl) (Nat.le_of_ble_eq_true rfl) (mE_iret () rfl hx hb hr hlocks hP hD hS dL_read_20)
theorem okO_X4_reading : okO RX4 yX4_reading cX4_reading 4 (some .long) 2 := okX4_reading
set_option maxRecDepth 100000 in
set_option maxHeartbeats 4000000 in
theorem ch_reading_ok (l : Launch) (D : mG) (x xa oa : Nat) (ov : Nat → Int64) (I : Nat → Nat → Nat) (N : Nat) (M : MSt) (p0 : Int32) (p1 : Int32) {rm : Room} (hrm : okrm rm) {S : Type} {v : S → Int64} {I1 : S → Nat → Nat → Nat} {N1 : Nat} {M1 : MSt} (h : cZ l D yX4_reading cX4_reading 4 (some .long) rm (WS D x xa oa ov I N M) (fun _ => True) [.ref x, .int p0, .int p1] (fun u => some (.long (v u))) (fun u => WS D x xa oa ov (I1 u) N1 M1)) : cH l D yL_reading cL_reading 5 [(0, 9, 12, 21), (0, 9, 16, 37)] rmH (WS D x xa oa ov I N M) [.ref x, .int p0, .int p1, .ref oa] (fun _ : S => some (.int 0)) (fun u => WS D x xa oa (vp_updL ov 0 (v u)) (I1 u) N1 M1) := by
  refine cH_of (by decide) (Nat.le_of_ble_eq_true rfl) ?_
  intro p e s m below meth c ls A hx hb hr hlocks htab G hgf hz hA hP hD hS hl
  have hP : va_P D.1 vwCl (WS D x xa oa ov I N M) s.heap := hP
  have hD : va_D A (WS D x xa oa ov I N M) := hD
  have hl : lv_has ls 5 [(0, .ref x), (1, .int p0), (2, .int p1), (3, .ref oa)] := hl
  refine lv_aload_n hx hb dL_reading_0 rfl (lv_at hl 3 rfl) ?_
  refine lv_iconst (v := 0) hx hb dL_reading_1 (by decide) ?_
  refine lv_aload_n hx hb dL_reading_2 rfl (lv_at hl 0 rfl) ?_
  refine lv_iload_n hx hb dL_reading_3 rfl (lv_at hl 1 rfl) ?_
  refine lv_iload_n hx hb dL_reading_4 rfl (lv_at hl 2 rfl) ?_
  refine kZ (C := RX4) (wr := []) (rest := [.int 0, .ref oa]) G h okO_X4_reading hgf hP hD hS hA trivial (List.range (WS D x xa oa ov I N M).length) [] (va_nd_range _) (va_all _) rfl rfl (fun _ h => nomatch h) (mw_recv hgf (hP 0 _ rfl) rfl) qw3_63 ⟨by have := hrm.1; show rm.frames + 1 ≤ 10; omega, by have := hrm.2.1; show 8 + (4 + 11) + rm.locals ≤ 390; omega⟩ ⟨by have := hrm.2.2.1; show 0 + rm.cells ≤ 6; omega, by have := hrm.2.2.2; show 0 + rm.slots ≤ 60; omega⟩ hl.1 (Nat.le_of_ble_eq_true rfl) rfl dL_reading_5 (fun u H locs hP hD hS => ?_)
  have hP : va_P D.1 vwCl (WS D x xa oa ov (I1 u) N1 M1) H := hP
  have hD : va_D A (WS D x xa oa ov (I1 u) N1 M1) := hD
  refine mw_last (f := ov) (w1 := WS D x xa oa (vp_updL ov 0 (v u)) (I1 u) N1 M1) G hgf hP hD hS 2 rfl in01 rfl dL_reading_8 (fun H locs hP hD hS => ?_)
  refine lv_goto (tgt := 20) hx hb dL_reading_9 (by decide) ?_
  refine lv_iconst (v := 0) hx hb dL_reading_20 (by decide) ?_
  exact mw_widen (k := 6) (n := 60) (by have := hrm.2.2.1; omega) (by have := hrm.2.2.2; omega) (mE_iret u rfl hx hb hr hlocks hP hD hS dL_reading_21)
set_option maxRecDepth 100000 in
set_option maxHeartbeats 4000000 in
theorem ch_reading_t1 (l : Launch) (D : mG) (x xa oa : Nat) (ov : Nat → Int64) (I : Nat → Nat → Nat) (N : Nat) (M : MSt) (p0 : Int32) (p1 : Int32) {k : Nat} (hk : k ≤ 8) (h : cT l D yX4_reading cX4_reading 4 .long k (fun H => va_P D.1 vwCl (WS D x xa oa ov I N M) H) [.ref x, .int p0, .int p1] "java/lang/IndexOutOfBoundsException") : cH l D yL_reading cL_reading 5 [(0, 9, 12, 21), (0, 9, 16, 37)] rmH (WS D x xa oa ov I N M) [.ref x, .int p0, .int p1, .ref oa] (fun _ : Unit => some (.int 1)) (fun _ => WS D x xa oa ov I N M) := by
  refine cH_of (by decide) (Nat.le_of_ble_eq_true rfl) ?_
  intro p e s m below meth c ls A hx hb hr hlocks htab G hgf hz hA hP hD hS hl
  have hP : va_P D.1 vwCl (WS D x xa oa ov I N M) s.heap := hP
  have hD : va_D A (WS D x xa oa ov I N M) := hD
  have hl : lv_has ls 5 [(0, .ref x), (1, .int p0), (2, .int p1), (3, .ref oa)] := hl
  refine lv_aload_n hx hb dL_reading_0 rfl (lv_at hl 3 rfl) ?_
  refine lv_iconst (v := 0) hx hb dL_reading_1 (by decide) ?_
  refine lv_aload_n hx hb dL_reading_2 rfl (lv_at hl 0 rfl) ?_
  refine lv_iload_n hx hb dL_reading_3 rfl (lv_at hl 1 rfl) ?_
  refine lv_iload_n hx hb dL_reading_4 rfl (lv_at hl 2 rfl) ?_
  refine kTC (C := RX4) (rest := [.int 0, .ref oa]) G h okX4_reading hgf hz hP hS hP (mw_recv hgf (hP 0 _ rfl) rfl) qw3_63 ⟨by show k + 1 ≤ 10; omega, by show 8 + (4 + 11) + 42 * k ≤ 390; omega⟩ ⟨Nat.le_of_ble_eq_true rfl, Nat.le_of_ble_eq_true rfl⟩ hl.1 (Nat.le_of_ble_eq_true rfl) rfl dL_reading_5 (tableOf []) ⟨0, 9, 12, 21⟩ (tableOf [(0, 9, 16, 37)]) (htab.trans rfl) (fun z hz => nomatch hz) rfl (by decide) qw2_37 (by decide +kernel) (fun q H locs hP hS => ?_)
  refine lv_astore (lv' := [(4, .ref q), (0, .ref x), (1, .int p0), (2, .int p1), (3, .ref oa)]) hx hb dL_reading_12 hl (by decide) rfl (fun ls hl => ?_)
  refine lv_iconst (v := 1) hx hb dL_reading_14 (by decide) ?_
  exact mw_widen (k := 6) (n := 60) (Nat.le_of_ble_eq_true rfl) (Nat.le_of_ble_eq_true rfl) (mE_iret () rfl hx hb hr hlocks hP hD hS dL_reading_15)
set_option maxRecDepth 100000 in
set_option maxHeartbeats 4000000 in
theorem ch_reading_t2 (l : Launch) (D : mG) (x xa oa : Nat) (ov : Nat → Int64) (I : Nat → Nat → Nat) (N : Nat) (M : MSt) (p0 : Int32) (p1 : Int32) {k : Nat} (hk : k ≤ 8) (h : cT l D yX4_reading cX4_reading 4 .long k (fun H => va_P D.1 vwCl (WS D x xa oa ov I N M) H) [.ref x, .int p0, .int p1] "java/util/NoSuchElementException") : cH l D yL_reading cL_reading 5 [(0, 9, 12, 21), (0, 9, 16, 37)] rmH (WS D x xa oa ov I N M) [.ref x, .int p0, .int p1, .ref oa] (fun _ : Unit => some (.int 2)) (fun _ => WS D x xa oa ov I N M) := by
  refine cH_of (by decide) (Nat.le_of_ble_eq_true rfl) ?_
  intro p e s m below meth c ls A hx hb hr hlocks htab G hgf hz hA hP hD hS hl
  have hP : va_P D.1 vwCl (WS D x xa oa ov I N M) s.heap := hP
  have hD : va_D A (WS D x xa oa ov I N M) := hD
  have hl : lv_has ls 5 [(0, .ref x), (1, .int p0), (2, .int p1), (3, .ref oa)] := hl
  refine lv_aload_n hx hb dL_reading_0 rfl (lv_at hl 3 rfl) ?_
  refine lv_iconst (v := 0) hx hb dL_reading_1 (by decide) ?_
  refine lv_aload_n hx hb dL_reading_2 rfl (lv_at hl 0 rfl) ?_
  refine lv_iload_n hx hb dL_reading_3 rfl (lv_at hl 1 rfl) ?_
  refine lv_iload_n hx hb dL_reading_4 rfl (lv_at hl 2 rfl) ?_
  refine kTC (C := RX4) (rest := [.int 0, .ref oa]) G h okX4_reading hgf hz hP hS hP (mw_recv hgf (hP 0 _ rfl) rfl) qw3_63 ⟨by show k + 1 ≤ 10; omega, by show 8 + (4 + 11) + 42 * k ≤ 390; omega⟩ ⟨Nat.le_of_ble_eq_true rfl, Nat.le_of_ble_eq_true rfl⟩ hl.1 (Nat.le_of_ble_eq_true rfl) rfl dL_reading_5 (tableOf [(0, 9, 12, 21)]) ⟨0, 9, 16, 37⟩ (tableOf []) (htab.trans rfl) (fun z hz => by obtain rfl := List.mem_singleton.mp hz; exact ⟨by decide, "java/lang/IndexOutOfBoundsException", qw2_37, by decide +kernel⟩) rfl (by decide) qw3_62 (by decide +kernel) (fun q H locs hP hS => ?_)
  refine lv_astore (lv' := [(4, .ref q), (0, .ref x), (1, .int p0), (2, .int p1), (3, .ref oa)]) hx hb dL_reading_16 hl (by decide) rfl (fun ls hl => ?_)
  refine lv_iconst (v := 2) hx hb dL_reading_18 (by decide) ?_
  exact mw_widen (k := 6) (n := 60) (Nat.le_of_ble_eq_true rfl) (Nat.le_of_ble_eq_true rfl) (mE_iret () rfl hx hb hr hlocks hP hD hS dL_reading_19)
theorem okO_X4_tell : okO RX4 yX4_tell cX4_tell 4 (some .long) 2 := okX4_tell
set_option maxRecDepth 100000 in
set_option maxHeartbeats 4000000 in
theorem ch_tell_ok (l : Launch) (D : mG) (x xa oa : Nat) (ov : Nat → Int64) (I : Nat → Nat → Nat) (N : Nat) (M : MSt) (p0 : Int32) (p1 : Int32) {rm : Room} (hrm : okrm rm) {S : Type} {v : S → Int64} {I1 : S → Nat → Nat → Nat} {N1 : Nat} {M1 : MSt} (h : cZ l D yX4_tell cX4_tell 4 (some .long) rm (WS D x xa oa ov I N M) (fun _ => True) [.ref x, .int p0, .int p1] (fun u => some (.long (v u))) (fun u => WS D x xa oa ov (I1 u) N1 M1)) : cH l D yL_tell cL_tell 5 [(0, 9, 12, 21), (0, 9, 16, 13), (0, 9, 20, 37)] rmH (WS D x xa oa ov I N M) [.ref x, .int p0, .int p1, .ref oa] (fun _ : S => some (.int 0)) (fun u => WS D x xa oa (vp_updL ov 0 (v u)) (I1 u) N1 M1) := by
  refine cH_of (by decide) (Nat.le_of_ble_eq_true rfl) ?_
  intro p e s m below meth c ls A hx hb hr hlocks htab G hgf hz hA hP hD hS hl
  have hP : va_P D.1 vwCl (WS D x xa oa ov I N M) s.heap := hP
  have hD : va_D A (WS D x xa oa ov I N M) := hD
  have hl : lv_has ls 5 [(0, .ref x), (1, .int p0), (2, .int p1), (3, .ref oa)] := hl
  refine lv_aload_n hx hb dL_tell_0 rfl (lv_at hl 3 rfl) ?_
  refine lv_iconst (v := 0) hx hb dL_tell_1 (by decide) ?_
  refine lv_aload_n hx hb dL_tell_2 rfl (lv_at hl 0 rfl) ?_
  refine lv_iload_n hx hb dL_tell_3 rfl (lv_at hl 1 rfl) ?_
  refine lv_iload_n hx hb dL_tell_4 rfl (lv_at hl 2 rfl) ?_
  refine kZ (C := RX4) (wr := []) (rest := [.int 0, .ref oa]) G h okO_X4_tell hgf hP hD hS hA trivial (List.range (WS D x xa oa ov I N M).length) [] (va_nd_range _) (va_all _) rfl rfl (fun _ h => nomatch h) (mw_recv hgf (hP 0 _ rfl) rfl) qw3_91 ⟨by have := hrm.1; show rm.frames + 1 ≤ 10; omega, by have := hrm.2.1; show 8 + (4 + 11) + rm.locals ≤ 390; omega⟩ ⟨by have := hrm.2.2.1; show 0 + rm.cells ≤ 6; omega, by have := hrm.2.2.2; show 0 + rm.slots ≤ 60; omega⟩ hl.1 (Nat.le_of_ble_eq_true rfl) rfl dL_tell_5 (fun u H locs hP hD hS => ?_)
  have hP : va_P D.1 vwCl (WS D x xa oa ov (I1 u) N1 M1) H := hP
  have hD : va_D A (WS D x xa oa ov (I1 u) N1 M1) := hD
  refine mw_last (f := ov) (w1 := WS D x xa oa (vp_updL ov 0 (v u)) (I1 u) N1 M1) G hgf hP hD hS 2 rfl in01 rfl dL_tell_8 (fun H locs hP hD hS => ?_)
  refine lv_goto (tgt := 24) hx hb dL_tell_9 (by decide) ?_
  refine lv_iconst (v := 0) hx hb dL_tell_24 (by decide) ?_
  exact mw_widen (k := 6) (n := 60) (by have := hrm.2.2.1; omega) (by have := hrm.2.2.2; omega) (mE_iret u rfl hx hb hr hlocks hP hD hS dL_tell_25)
set_option maxRecDepth 100000 in
set_option maxHeartbeats 4000000 in
theorem ch_tell_t1 (l : Launch) (D : mG) (x xa oa : Nat) (ov : Nat → Int64) (I : Nat → Nat → Nat) (N : Nat) (M : MSt) (p0 : Int32) (p1 : Int32) {k : Nat} (hk : k ≤ 8) (h : cT l D yX4_tell cX4_tell 4 .long k (fun H => va_P D.1 vwCl (WS D x xa oa ov I N M) H) [.ref x, .int p0, .int p1] "java/lang/IndexOutOfBoundsException") : cH l D yL_tell cL_tell 5 [(0, 9, 12, 21), (0, 9, 16, 13), (0, 9, 20, 37)] rmH (WS D x xa oa ov I N M) [.ref x, .int p0, .int p1, .ref oa] (fun _ : Unit => some (.int 1)) (fun _ => WS D x xa oa ov I N M) := by
  refine cH_of (by decide) (Nat.le_of_ble_eq_true rfl) ?_
  intro p e s m below meth c ls A hx hb hr hlocks htab G hgf hz hA hP hD hS hl
  have hP : va_P D.1 vwCl (WS D x xa oa ov I N M) s.heap := hP
  have hD : va_D A (WS D x xa oa ov I N M) := hD
  have hl : lv_has ls 5 [(0, .ref x), (1, .int p0), (2, .int p1), (3, .ref oa)] := hl
  refine lv_aload_n hx hb dL_tell_0 rfl (lv_at hl 3 rfl) ?_
  refine lv_iconst (v := 0) hx hb dL_tell_1 (by decide) ?_
  refine lv_aload_n hx hb dL_tell_2 rfl (lv_at hl 0 rfl) ?_
  refine lv_iload_n hx hb dL_tell_3 rfl (lv_at hl 1 rfl) ?_
  refine lv_iload_n hx hb dL_tell_4 rfl (lv_at hl 2 rfl) ?_
  refine kTC (C := RX4) (rest := [.int 0, .ref oa]) G h okX4_tell hgf hz hP hS hP (mw_recv hgf (hP 0 _ rfl) rfl) qw3_91 ⟨by show k + 1 ≤ 10; omega, by show 8 + (4 + 11) + 42 * k ≤ 390; omega⟩ ⟨Nat.le_of_ble_eq_true rfl, Nat.le_of_ble_eq_true rfl⟩ hl.1 (Nat.le_of_ble_eq_true rfl) rfl dL_tell_5 (tableOf []) ⟨0, 9, 12, 21⟩ (tableOf [(0, 9, 16, 13), (0, 9, 20, 37)]) (htab.trans rfl) (fun z hz => nomatch hz) rfl (by decide) qw2_37 (by decide +kernel) (fun q H locs hP hS => ?_)
  refine lv_astore (lv' := [(4, .ref q), (0, .ref x), (1, .int p0), (2, .int p1), (3, .ref oa)]) hx hb dL_tell_12 hl (by decide) rfl (fun ls hl => ?_)
  refine lv_iconst (v := 1) hx hb dL_tell_14 (by decide) ?_
  exact mw_widen (k := 6) (n := 60) (Nat.le_of_ble_eq_true rfl) (Nat.le_of_ble_eq_true rfl) (mE_iret () rfl hx hb hr hlocks hP hD hS dL_tell_15)
set_option maxRecDepth 100000 in
set_option maxHeartbeats 4000000 in
theorem ch_tell_t2 (l : Launch) (D : mG) (x xa oa : Nat) (ov : Nat → Int64) (I : Nat → Nat → Nat) (N : Nat) (M : MSt) (p0 : Int32) (p1 : Int32) {k : Nat} (hk : k ≤ 8) (h : cT l D yX4_tell cX4_tell 4 .long k (fun H => va_P D.1 vwCl (WS D x xa oa ov I N M) H) [.ref x, .int p0, .int p1] "java/lang/IllegalArgumentException") : cH l D yL_tell cL_tell 5 [(0, 9, 12, 21), (0, 9, 16, 13), (0, 9, 20, 37)] rmH (WS D x xa oa ov I N M) [.ref x, .int p0, .int p1, .ref oa] (fun _ : Unit => some (.int 2)) (fun _ => WS D x xa oa ov I N M) := by
  refine cH_of (by decide) (Nat.le_of_ble_eq_true rfl) ?_
  intro p e s m below meth c ls A hx hb hr hlocks htab G hgf hz hA hP hD hS hl
  have hP : va_P D.1 vwCl (WS D x xa oa ov I N M) s.heap := hP
  have hD : va_D A (WS D x xa oa ov I N M) := hD
  have hl : lv_has ls 5 [(0, .ref x), (1, .int p0), (2, .int p1), (3, .ref oa)] := hl
  refine lv_aload_n hx hb dL_tell_0 rfl (lv_at hl 3 rfl) ?_
  refine lv_iconst (v := 0) hx hb dL_tell_1 (by decide) ?_
  refine lv_aload_n hx hb dL_tell_2 rfl (lv_at hl 0 rfl) ?_
  refine lv_iload_n hx hb dL_tell_3 rfl (lv_at hl 1 rfl) ?_
  refine lv_iload_n hx hb dL_tell_4 rfl (lv_at hl 2 rfl) ?_
  refine kTC (C := RX4) (rest := [.int 0, .ref oa]) G h okX4_tell hgf hz hP hS hP (mw_recv hgf (hP 0 _ rfl) rfl) qw3_91 ⟨by show k + 1 ≤ 10; omega, by show 8 + (4 + 11) + 42 * k ≤ 390; omega⟩ ⟨Nat.le_of_ble_eq_true rfl, Nat.le_of_ble_eq_true rfl⟩ hl.1 (Nat.le_of_ble_eq_true rfl) rfl dL_tell_5 (tableOf [(0, 9, 12, 21)]) ⟨0, 9, 16, 13⟩ (tableOf [(0, 9, 20, 37)]) (htab.trans rfl) (fun z hz => by obtain rfl := List.mem_singleton.mp hz; exact ⟨by decide, "java/lang/IndexOutOfBoundsException", qw2_37, by decide +kernel⟩) rfl (by decide) qw1_52 (by decide +kernel) (fun q H locs hP hS => ?_)
  refine lv_astore (lv' := [(4, .ref q), (0, .ref x), (1, .int p0), (2, .int p1), (3, .ref oa)]) hx hb dL_tell_16 hl (by decide) rfl (fun ls hl => ?_)
  refine lv_iconst (v := 2) hx hb dL_tell_18 (by decide) ?_
  exact mw_widen (k := 6) (n := 60) (Nat.le_of_ble_eq_true rfl) (Nat.le_of_ble_eq_true rfl) (mE_iret () rfl hx hb hr hlocks hP hD hS dL_tell_19)
set_option maxRecDepth 100000 in
set_option maxHeartbeats 4000000 in
theorem ch_tell_t3 (l : Launch) (D : mG) (x xa oa : Nat) (ov : Nat → Int64) (I : Nat → Nat → Nat) (N : Nat) (M : MSt) (p0 : Int32) (p1 : Int32) {k : Nat} (hk : k ≤ 8) (h : cT l D yX4_tell cX4_tell 4 .long k (fun H => va_P D.1 vwCl (WS D x xa oa ov I N M) H) [.ref x, .int p0, .int p1] "java/util/NoSuchElementException") : cH l D yL_tell cL_tell 5 [(0, 9, 12, 21), (0, 9, 16, 13), (0, 9, 20, 37)] rmH (WS D x xa oa ov I N M) [.ref x, .int p0, .int p1, .ref oa] (fun _ : Unit => some (.int 3)) (fun _ => WS D x xa oa ov I N M) := by
  refine cH_of (by decide) (Nat.le_of_ble_eq_true rfl) ?_
  intro p e s m below meth c ls A hx hb hr hlocks htab G hgf hz hA hP hD hS hl
  have hP : va_P D.1 vwCl (WS D x xa oa ov I N M) s.heap := hP
  have hD : va_D A (WS D x xa oa ov I N M) := hD
  have hl : lv_has ls 5 [(0, .ref x), (1, .int p0), (2, .int p1), (3, .ref oa)] := hl
  refine lv_aload_n hx hb dL_tell_0 rfl (lv_at hl 3 rfl) ?_
  refine lv_iconst (v := 0) hx hb dL_tell_1 (by decide) ?_
  refine lv_aload_n hx hb dL_tell_2 rfl (lv_at hl 0 rfl) ?_
  refine lv_iload_n hx hb dL_tell_3 rfl (lv_at hl 1 rfl) ?_
  refine lv_iload_n hx hb dL_tell_4 rfl (lv_at hl 2 rfl) ?_
  refine kTC (C := RX4) (rest := [.int 0, .ref oa]) G h okX4_tell hgf hz hP hS hP (mw_recv hgf (hP 0 _ rfl) rfl) qw3_91 ⟨by show k + 1 ≤ 10; omega, by show 8 + (4 + 11) + 42 * k ≤ 390; omega⟩ ⟨Nat.le_of_ble_eq_true rfl, Nat.le_of_ble_eq_true rfl⟩ hl.1 (Nat.le_of_ble_eq_true rfl) rfl dL_tell_5 (tableOf [(0, 9, 12, 21), (0, 9, 16, 13)]) ⟨0, 9, 20, 37⟩ (tableOf []) (htab.trans rfl) (fun z hz => by rcases List.mem_cons.mp hz with rfl | hz; exact ⟨by decide, "java/lang/IndexOutOfBoundsException", qw2_37, by decide +kernel⟩; obtain rfl := List.mem_singleton.mp hz; exact ⟨by decide, "java/lang/IllegalArgumentException", qw1_52, by decide +kernel⟩) rfl (by decide) qw3_62 (by decide +kernel) (fun q H locs hP hS => ?_)
  refine lv_astore (lv' := [(4, .ref q), (0, .ref x), (1, .int p0), (2, .int p1), (3, .ref oa)]) hx hb dL_tell_20 hl (by decide) rfl (fun ls hl => ?_)
  refine lv_iconst (v := 3) hx hb dL_tell_22 (by decide) ?_
  exact mw_widen (k := 6) (n := 60) (Nat.le_of_ble_eq_true rfl) (Nat.le_of_ble_eq_true rfl) (mE_iret () rfl hx hb hr hlocks hP hD hS dL_tell_23)
theorem okO_X4_whole : okO RX4 yX4_whole cX4_whole 3 (some .int) 1 := okX4_whole
set_option maxRecDepth 100000 in
set_option maxHeartbeats 4000000 in
theorem ch_whole_ok (l : Launch) (D : mG) (x xa oa : Nat) (ov : Nat → Int64) (I : Nat → Nat → Nat) (N : Nat) (M : MSt) (p0 : Int32) {rm : Room} (hrm : okrm rm) {S : Type} {v : S → Int32} {I1 : S → Nat → Nat → Nat} {N1 : Nat} {M1 : MSt} (h : cZ l D yX4_whole cX4_whole 3 (some .int) rm (WS D x xa oa ov I N M) (fun _ => True) [.ref x, .int p0] (fun u => some (.int (v u))) (fun u => WS D x xa oa ov (I1 u) N1 M1)) : cH l D yL_whole cL_whole 4 [(0, 9, 12, 21), (0, 9, 15, 37)] rmH (WS D x xa oa ov I N M) [.ref x, .int p0, .ref oa] (fun _ : S => some (.int 0)) (fun u => WS D x xa oa (vp_updL ov 0 (v u).toInt64) (I1 u) N1 M1) := by
  refine cH_of (by decide) (Nat.le_of_ble_eq_true rfl) ?_
  intro p e s m below meth c ls A hx hb hr hlocks htab G hgf hz hA hP hD hS hl
  have hP : va_P D.1 vwCl (WS D x xa oa ov I N M) s.heap := hP
  have hD : va_D A (WS D x xa oa ov I N M) := hD
  have hl : lv_has ls 4 [(0, .ref x), (1, .int p0), (2, .ref oa)] := hl
  refine lv_aload_n hx hb dL_whole_0 rfl (lv_at hl 2 rfl) ?_
  refine lv_iconst (v := 0) hx hb dL_whole_1 (by decide) ?_
  refine lv_aload_n hx hb dL_whole_2 rfl (lv_at hl 0 rfl) ?_
  refine lv_iload_n hx hb dL_whole_3 rfl (lv_at hl 1 rfl) ?_
  refine kZ (C := RX4) (wr := []) (rest := [.int 0, .ref oa]) G h okO_X4_whole hgf hP hD hS hA trivial (List.range (WS D x xa oa ov I N M).length) [] (va_nd_range _) (va_all _) rfl rfl (fun _ h => nomatch h) (mw_recv hgf (hP 0 _ rfl) rfl) qw3_101 ⟨by have := hrm.1; show rm.frames + 1 ≤ 10; omega, by have := hrm.2.1; show 8 + (3 + 11) + rm.locals ≤ 390; omega⟩ ⟨by have := hrm.2.2.1; show 0 + rm.cells ≤ 6; omega, by have := hrm.2.2.2; show 0 + rm.slots ≤ 60; omega⟩ hl.1 (Nat.le_of_ble_eq_true rfl) rfl dL_whole_4 (fun u H locs hP hD hS => ?_)
  have hP : va_P D.1 vwCl (WS D x xa oa ov (I1 u) N1 M1) H := hP
  have hD : va_D A (WS D x xa oa ov (I1 u) N1 M1) := hD
  refine lv_i2l hx hb dL_whole_7 rfl ?_
  refine mw_last (f := ov) (w1 := WS D x xa oa (vp_updL ov 0 ((v u).toInt64)) (I1 u) N1 M1) G hgf hP hD hS 2 rfl in01 rfl dL_whole_8 (fun H locs hP hD hS => ?_)
  refine lv_goto (tgt := 18) hx hb dL_whole_9 (by decide) ?_
  refine lv_iconst (v := 0) hx hb dL_whole_18 (by decide) ?_
  exact mw_widen (k := 6) (n := 60) (by have := hrm.2.2.1; omega) (by have := hrm.2.2.2; omega) (mE_iret u rfl hx hb hr hlocks hP hD hS dL_whole_19)
set_option maxRecDepth 100000 in
set_option maxHeartbeats 4000000 in
theorem ch_whole_t1 (l : Launch) (D : mG) (x xa oa : Nat) (ov : Nat → Int64) (I : Nat → Nat → Nat) (N : Nat) (M : MSt) (p0 : Int32) {k : Nat} (hk : k ≤ 8) (h : cT l D yX4_whole cX4_whole 3 .int k (fun H => va_P D.1 vwCl (WS D x xa oa ov I N M) H) [.ref x, .int p0] "java/lang/IndexOutOfBoundsException") : cH l D yL_whole cL_whole 4 [(0, 9, 12, 21), (0, 9, 15, 37)] rmH (WS D x xa oa ov I N M) [.ref x, .int p0, .ref oa] (fun _ : Unit => some (.int 1)) (fun _ => WS D x xa oa ov I N M) := by
  refine cH_of (by decide) (Nat.le_of_ble_eq_true rfl) ?_
  intro p e s m below meth c ls A hx hb hr hlocks htab G hgf hz hA hP hD hS hl
  have hP : va_P D.1 vwCl (WS D x xa oa ov I N M) s.heap := hP
  have hD : va_D A (WS D x xa oa ov I N M) := hD
  have hl : lv_has ls 4 [(0, .ref x), (1, .int p0), (2, .ref oa)] := hl
  refine lv_aload_n hx hb dL_whole_0 rfl (lv_at hl 2 rfl) ?_
  refine lv_iconst (v := 0) hx hb dL_whole_1 (by decide) ?_
  refine lv_aload_n hx hb dL_whole_2 rfl (lv_at hl 0 rfl) ?_
  refine lv_iload_n hx hb dL_whole_3 rfl (lv_at hl 1 rfl) ?_
  refine kTC (C := RX4) (rest := [.int 0, .ref oa]) G h okX4_whole hgf hz hP hS hP (mw_recv hgf (hP 0 _ rfl) rfl) qw3_101 ⟨by show k + 1 ≤ 10; omega, by show 8 + (3 + 11) + 42 * k ≤ 390; omega⟩ ⟨Nat.le_of_ble_eq_true rfl, Nat.le_of_ble_eq_true rfl⟩ hl.1 (Nat.le_of_ble_eq_true rfl) rfl dL_whole_4 (tableOf []) ⟨0, 9, 12, 21⟩ (tableOf [(0, 9, 15, 37)]) (htab.trans rfl) (fun z hz => nomatch hz) rfl (by decide) qw2_37 (by decide +kernel) (fun q H locs hP hS => ?_)
  refine lv_astore_n (lv' := [(3, .ref q), (0, .ref x), (1, .int p0), (2, .ref oa)]) hx hb dL_whole_12 rfl hl (by decide) rfl (fun ls hl => ?_)
  refine lv_iconst (v := 1) hx hb dL_whole_13 (by decide) ?_
  exact mw_widen (k := 6) (n := 60) (Nat.le_of_ble_eq_true rfl) (Nat.le_of_ble_eq_true rfl) (mE_iret () rfl hx hb hr hlocks hP hD hS dL_whole_14)
set_option maxRecDepth 100000 in
set_option maxHeartbeats 4000000 in
theorem ch_whole_t2 (l : Launch) (D : mG) (x xa oa : Nat) (ov : Nat → Int64) (I : Nat → Nat → Nat) (N : Nat) (M : MSt) (p0 : Int32) {k : Nat} (hk : k ≤ 8) (h : cT l D yX4_whole cX4_whole 3 .int k (fun H => va_P D.1 vwCl (WS D x xa oa ov I N M) H) [.ref x, .int p0] "java/util/NoSuchElementException") : cH l D yL_whole cL_whole 4 [(0, 9, 12, 21), (0, 9, 15, 37)] rmH (WS D x xa oa ov I N M) [.ref x, .int p0, .ref oa] (fun _ : Unit => some (.int 2)) (fun _ => WS D x xa oa ov I N M) := by
  refine cH_of (by decide) (Nat.le_of_ble_eq_true rfl) ?_
  intro p e s m below meth c ls A hx hb hr hlocks htab G hgf hz hA hP hD hS hl
  have hP : va_P D.1 vwCl (WS D x xa oa ov I N M) s.heap := hP
  have hD : va_D A (WS D x xa oa ov I N M) := hD
  have hl : lv_has ls 4 [(0, .ref x), (1, .int p0), (2, .ref oa)] := hl
  refine lv_aload_n hx hb dL_whole_0 rfl (lv_at hl 2 rfl) ?_
  refine lv_iconst (v := 0) hx hb dL_whole_1 (by decide) ?_
  refine lv_aload_n hx hb dL_whole_2 rfl (lv_at hl 0 rfl) ?_
  refine lv_iload_n hx hb dL_whole_3 rfl (lv_at hl 1 rfl) ?_
  refine kTC (C := RX4) (rest := [.int 0, .ref oa]) G h okX4_whole hgf hz hP hS hP (mw_recv hgf (hP 0 _ rfl) rfl) qw3_101 ⟨by show k + 1 ≤ 10; omega, by show 8 + (3 + 11) + 42 * k ≤ 390; omega⟩ ⟨Nat.le_of_ble_eq_true rfl, Nat.le_of_ble_eq_true rfl⟩ hl.1 (Nat.le_of_ble_eq_true rfl) rfl dL_whole_4 (tableOf [(0, 9, 12, 21)]) ⟨0, 9, 15, 37⟩ (tableOf []) (htab.trans rfl) (fun z hz => by obtain rfl := List.mem_singleton.mp hz; exact ⟨by decide, "java/lang/IndexOutOfBoundsException", qw2_37, by decide +kernel⟩) rfl (by decide) qw3_62 (by decide +kernel) (fun q H locs hP hS => ?_)
  refine lv_astore_n (lv' := [(3, .ref q), (0, .ref x), (1, .int p0), (2, .ref oa)]) hx hb dL_whole_15 rfl hl (by decide) rfl (fun ls hl => ?_)
  refine lv_iconst (v := 2) hx hb dL_whole_16 (by decide) ?_
  exact mw_widen (k := 6) (n := 60) (Nat.le_of_ble_eq_true rfl) (Nat.le_of_ble_eq_true rfl) (mE_iret () rfl hx hb hr hlocks hP hD hS dL_whole_17)
theorem okO_X4_limits : okO RX4 yX4_limits cX4_limits 12 (some .boolean) 3 := okX4_limits
set_option maxRecDepth 100000 in
set_option maxHeartbeats 4000000 in
theorem ch_limits_ok (l : Launch) (D : mG) (x xa oa : Nat) (ov : Nat → Int64) (I : Nat → Nat → Nat) (N : Nat) (M : MSt) (p0 : Int32) (p1 : Int64) (p2 : Int64) {rm : Room} (hrm : okrm rm) {S : Type} {v : S → Int32} {I1 : S → Nat → Nat → Nat} {N1 : Nat} {M1 : MSt} (h : cZ l D yX4_limits cX4_limits 12 (some .boolean) rm (WS D x xa oa ov I N M) (fun _ => True) [.ref x, .int p0, .long p1, .long p2] (fun u => some (.int (v u))) (fun u => WS D x xa oa ov (I1 u) N1 M1)) : cH l D yL_limits cL_limits 8 [(0, 20, 23, 21), (0, 20, 27, 13)] rmH (WS D x xa oa ov I N M) [.ref x, .int p0, .long p1, .long p2, .ref oa] (fun _ : S => some (.int 0)) (fun u => WS D x xa oa (vp_updL ov 0 (if (v u) = 0 then 0 else 1 : Int64)) (I1 u) N1 M1) := by
  refine cH_of (by decide) (Nat.le_of_ble_eq_true rfl) ?_
  intro p e s m below meth c ls A hx hb hr hlocks htab G hgf hz hA hP hD hS hl
  have hP : va_P D.1 vwCl (WS D x xa oa ov I N M) s.heap := hP
  have hD : va_D A (WS D x xa oa ov I N M) := hD
  have hl : lv_has ls 8 [(0, .ref x), (1, .int p0), (2, .long p1), (4, .long p2), (6, .ref oa)] := hl
  refine lv_aload hx hb dL_limits_0 (lv_at hl 4 rfl) ?_
  refine lv_iconst (v := 0) hx hb dL_limits_2 (by decide) ?_
  refine lv_aload_n hx hb dL_limits_3 rfl (lv_at hl 0 rfl) ?_
  refine lv_iload_n hx hb dL_limits_4 rfl (lv_at hl 1 rfl) ?_
  refine lv_lload_n hx hb dL_limits_5 rfl (lv_at hl 2 rfl) ?_
  refine lv_lload hx hb dL_limits_6 (lv_at hl 3 rfl) ?_
  refine kZ (C := RX4) (wr := []) (rest := [.int 0, .ref oa]) G h okO_X4_limits hgf hP hD hS hA trivial (List.range (WS D x xa oa ov I N M).length) [] (va_nd_range _) (va_all _) rfl rfl (fun _ h => nomatch h) (mw_recv hgf (hP 0 _ rfl) rfl) qw3_123 ⟨by have := hrm.1; show rm.frames + 1 ≤ 10; omega, by have := hrm.2.1; show 8 + (12 + 11) + rm.locals ≤ 390; omega⟩ ⟨by have := hrm.2.2.1; show 0 + rm.cells ≤ 6; omega, by have := hrm.2.2.2; show 0 + rm.slots ≤ 60; omega⟩ hl.1 (Nat.le_of_ble_eq_true rfl) rfl dL_limits_8 (fun u H locs hP hD hS => ?_)
  have hP : va_P D.1 vwCl (WS D x xa oa ov (I1 u) N1 M1) H := hP
  have hD : va_D A (WS D x xa oa ov (I1 u) N1 M1) := hD
  refine mw_join 19 (.long (if (v u) = 0 then 0 else 1 : Int64)) [.int 0, .ref oa] (fun K => ?_) ?_
  · refine lv_if_eq (tgt := 18) hx hb dL_limits_11 (by decide) (fun c_1 => ?_) (fun c_1 => ?_)
    · refine lv_lconst (v := 0) hx hb dL_limits_18 (by decide) ?_
      exact mw_topL ((if_pos c_1).trans (rfl)) K
    · refine lv_lconst (v := 1) hx hb dL_limits_14 (by decide) ?_
      refine lv_goto (tgt := 19) hx hb dL_limits_15 (by decide) ?_
      exact mw_topL ((if_neg c_1).trans (rfl)) K
  refine mw_last (f := ov) (w1 := WS D x xa oa (vp_updL ov 0 (if (v u) = 0 then 0 else 1 : Int64)) (I1 u) N1 M1) G hgf hP hD hS 2 rfl in01 rfl dL_limits_19 (fun H locs hP hD hS => ?_)
  refine lv_goto (tgt := 31) hx hb dL_limits_20 (by decide) ?_
  refine lv_iconst (v := 0) hx hb dL_limits_31 (by decide) ?_
  exact mw_widen (k := 6) (n := 60) (by have := hrm.2.2.1; omega) (by have := hrm.2.2.2; omega) (mE_iret u rfl hx hb hr hlocks hP hD hS dL_limits_32)
set_option maxRecDepth 100000 in
set_option maxHeartbeats 4000000 in
theorem ch_limits_t1 (l : Launch) (D : mG) (x xa oa : Nat) (ov : Nat → Int64) (I : Nat → Nat → Nat) (N : Nat) (M : MSt) (p0 : Int32) (p1 : Int64) (p2 : Int64) {k : Nat} (hk : k ≤ 8) (h : cT l D yX4_limits cX4_limits 12 .boolean k (fun H => va_P D.1 vwCl (WS D x xa oa ov I N M) H) [.ref x, .int p0, .long p1, .long p2] "java/lang/IndexOutOfBoundsException") : cH l D yL_limits cL_limits 8 [(0, 20, 23, 21), (0, 20, 27, 13)] rmH (WS D x xa oa ov I N M) [.ref x, .int p0, .long p1, .long p2, .ref oa] (fun _ : Unit => some (.int 1)) (fun _ => WS D x xa oa ov I N M) := by
  refine cH_of (by decide) (Nat.le_of_ble_eq_true rfl) ?_
  intro p e s m below meth c ls A hx hb hr hlocks htab G hgf hz hA hP hD hS hl
  have hP : va_P D.1 vwCl (WS D x xa oa ov I N M) s.heap := hP
  have hD : va_D A (WS D x xa oa ov I N M) := hD
  have hl : lv_has ls 8 [(0, .ref x), (1, .int p0), (2, .long p1), (4, .long p2), (6, .ref oa)] := hl
  refine lv_aload hx hb dL_limits_0 (lv_at hl 4 rfl) ?_
  refine lv_iconst (v := 0) hx hb dL_limits_2 (by decide) ?_
  refine lv_aload_n hx hb dL_limits_3 rfl (lv_at hl 0 rfl) ?_
  refine lv_iload_n hx hb dL_limits_4 rfl (lv_at hl 1 rfl) ?_
  refine lv_lload_n hx hb dL_limits_5 rfl (lv_at hl 2 rfl) ?_
  refine lv_lload hx hb dL_limits_6 (lv_at hl 3 rfl) ?_
  refine kTC (C := RX4) (rest := [.int 0, .ref oa]) G h okX4_limits hgf hz hP hS hP (mw_recv hgf (hP 0 _ rfl) rfl) qw3_123 ⟨by show k + 1 ≤ 10; omega, by show 8 + (12 + 11) + 42 * k ≤ 390; omega⟩ ⟨Nat.le_of_ble_eq_true rfl, Nat.le_of_ble_eq_true rfl⟩ hl.1 (Nat.le_of_ble_eq_true rfl) rfl dL_limits_8 (tableOf []) ⟨0, 20, 23, 21⟩ (tableOf [(0, 20, 27, 13)]) (htab.trans rfl) (fun z hz => nomatch hz) rfl (by decide) qw2_37 (by decide +kernel) (fun q H locs hP hS => ?_)
  refine lv_astore (lv' := [(7, .ref q), (0, .ref x), (1, .int p0), (2, .long p1), (4, .long p2), (6, .ref oa)]) hx hb dL_limits_23 hl (by decide) rfl (fun ls hl => ?_)
  refine lv_iconst (v := 1) hx hb dL_limits_25 (by decide) ?_
  exact mw_widen (k := 6) (n := 60) (Nat.le_of_ble_eq_true rfl) (Nat.le_of_ble_eq_true rfl) (mE_iret () rfl hx hb hr hlocks hP hD hS dL_limits_26)
set_option maxRecDepth 100000 in
set_option maxHeartbeats 4000000 in
theorem ch_limits_t2 (l : Launch) (D : mG) (x xa oa : Nat) (ov : Nat → Int64) (I : Nat → Nat → Nat) (N : Nat) (M : MSt) (p0 : Int32) (p1 : Int64) (p2 : Int64) {k : Nat} (hk : k ≤ 8) (h : cT l D yX4_limits cX4_limits 12 .boolean k (fun H => va_P D.1 vwCl (WS D x xa oa ov I N M) H) [.ref x, .int p0, .long p1, .long p2] "java/lang/IllegalArgumentException") : cH l D yL_limits cL_limits 8 [(0, 20, 23, 21), (0, 20, 27, 13)] rmH (WS D x xa oa ov I N M) [.ref x, .int p0, .long p1, .long p2, .ref oa] (fun _ : Unit => some (.int 2)) (fun _ => WS D x xa oa ov I N M) := by
  refine cH_of (by decide) (Nat.le_of_ble_eq_true rfl) ?_
  intro p e s m below meth c ls A hx hb hr hlocks htab G hgf hz hA hP hD hS hl
  have hP : va_P D.1 vwCl (WS D x xa oa ov I N M) s.heap := hP
  have hD : va_D A (WS D x xa oa ov I N M) := hD
  have hl : lv_has ls 8 [(0, .ref x), (1, .int p0), (2, .long p1), (4, .long p2), (6, .ref oa)] := hl
  refine lv_aload hx hb dL_limits_0 (lv_at hl 4 rfl) ?_
  refine lv_iconst (v := 0) hx hb dL_limits_2 (by decide) ?_
  refine lv_aload_n hx hb dL_limits_3 rfl (lv_at hl 0 rfl) ?_
  refine lv_iload_n hx hb dL_limits_4 rfl (lv_at hl 1 rfl) ?_
  refine lv_lload_n hx hb dL_limits_5 rfl (lv_at hl 2 rfl) ?_
  refine lv_lload hx hb dL_limits_6 (lv_at hl 3 rfl) ?_
  refine kTC (C := RX4) (rest := [.int 0, .ref oa]) G h okX4_limits hgf hz hP hS hP (mw_recv hgf (hP 0 _ rfl) rfl) qw3_123 ⟨by show k + 1 ≤ 10; omega, by show 8 + (12 + 11) + 42 * k ≤ 390; omega⟩ ⟨Nat.le_of_ble_eq_true rfl, Nat.le_of_ble_eq_true rfl⟩ hl.1 (Nat.le_of_ble_eq_true rfl) rfl dL_limits_8 (tableOf [(0, 20, 23, 21)]) ⟨0, 20, 27, 13⟩ (tableOf []) (htab.trans rfl) (fun z hz => by obtain rfl := List.mem_singleton.mp hz; exact ⟨by decide, "java/lang/IndexOutOfBoundsException", qw2_37, by decide +kernel⟩) rfl (by decide) qw1_52 (by decide +kernel) (fun q H locs hP hS => ?_)
  refine lv_astore (lv' := [(7, .ref q), (0, .ref x), (1, .int p0), (2, .long p1), (4, .long p2), (6, .ref oa)]) hx hb dL_limits_27 hl (by decide) rfl (fun ls hl => ?_)
  refine lv_iconst (v := 2) hx hb dL_limits_29 (by decide) ?_
  exact mw_widen (k := 6) (n := 60) (Nat.le_of_ble_eq_true rfl) (Nat.le_of_ble_eq_true rfl) (mE_iret () rfl hx hb hr hlocks hP hD hS dL_limits_30)
theorem okO_X4_widest : okO RX4 yX4_widest cX4_widest 9 (some .long) 1 := okX4_widest
set_option maxRecDepth 100000 in
set_option maxHeartbeats 4000000 in
theorem ch_widest_ok (l : Launch) (D : mG) (x xa oa : Nat) (ov : Nat → Int64) (I : Nat → Nat → Nat) (N : Nat) (M : MSt) (p0 : Int32) {rm : Room} (hrm : okrm rm) {S : Type} {v : S → Int64} {I1 : S → Nat → Nat → Nat} {N1 : Nat} {M1 : MSt} (h : cZ l D yX4_widest cX4_widest 9 (some .long) rm (WS D x xa oa ov I N M) (fun _ => True) [.ref x, .int p0] (fun u => some (.long (v u))) (fun u => WS D x xa oa ov (I1 u) N1 M1)) : cH l D yL_widest cL_widest 4 [(0, 8, 11, 13), (0, 8, 14, 37)] rmH (WS D x xa oa ov I N M) [.ref x, .int p0, .ref oa] (fun _ : S => some (.int 0)) (fun u => WS D x xa oa (vp_updL ov 0 (v u)) (I1 u) N1 M1) := by
  refine cH_of (by decide) (Nat.le_of_ble_eq_true rfl) ?_
  intro p e s m below meth c ls A hx hb hr hlocks htab G hgf hz hA hP hD hS hl
  have hP : va_P D.1 vwCl (WS D x xa oa ov I N M) s.heap := hP
  have hD : va_D A (WS D x xa oa ov I N M) := hD
  have hl : lv_has ls 4 [(0, .ref x), (1, .int p0), (2, .ref oa)] := hl
  refine lv_aload_n hx hb dL_widest_0 rfl (lv_at hl 2 rfl) ?_
  refine lv_iconst (v := 0) hx hb dL_widest_1 (by decide) ?_
  refine lv_aload_n hx hb dL_widest_2 rfl (lv_at hl 0 rfl) ?_
  refine lv_iload_n hx hb dL_widest_3 rfl (lv_at hl 1 rfl) ?_
  refine kZ (C := RX4) (wr := []) (rest := [.int 0, .ref oa]) G h okO_X4_widest hgf hP hD hS hA trivial (List.range (WS D x xa oa ov I N M).length) [] (va_nd_range _) (va_all _) rfl rfl (fun _ h => nomatch h) (mw_recv hgf (hP 0 _ rfl) rfl) qw3_132 ⟨by have := hrm.1; show rm.frames + 1 ≤ 10; omega, by have := hrm.2.1; show 8 + (9 + 11) + rm.locals ≤ 390; omega⟩ ⟨by have := hrm.2.2.1; show 0 + rm.cells ≤ 6; omega, by have := hrm.2.2.2; show 0 + rm.slots ≤ 60; omega⟩ hl.1 (Nat.le_of_ble_eq_true rfl) rfl dL_widest_4 (fun u H locs hP hD hS => ?_)
  have hP : va_P D.1 vwCl (WS D x xa oa ov (I1 u) N1 M1) H := hP
  have hD : va_D A (WS D x xa oa ov (I1 u) N1 M1) := hD
  refine mw_last (f := ov) (w1 := WS D x xa oa (vp_updL ov 0 (v u)) (I1 u) N1 M1) G hgf hP hD hS 2 rfl in01 rfl dL_widest_7 (fun H locs hP hD hS => ?_)
  refine lv_goto (tgt := 17) hx hb dL_widest_8 (by decide) ?_
  refine lv_iconst (v := 0) hx hb dL_widest_17 (by decide) ?_
  exact mw_widen (k := 6) (n := 60) (by have := hrm.2.2.1; omega) (by have := hrm.2.2.2; omega) (mE_iret u rfl hx hb hr hlocks hP hD hS dL_widest_18)
set_option maxRecDepth 100000 in
set_option maxHeartbeats 4000000 in
theorem ch_widest_t1 (l : Launch) (D : mG) (x xa oa : Nat) (ov : Nat → Int64) (I : Nat → Nat → Nat) (N : Nat) (M : MSt) (p0 : Int32) {k : Nat} (hk : k ≤ 8) (h : cT l D yX4_widest cX4_widest 9 .long k (fun H => va_P D.1 vwCl (WS D x xa oa ov I N M) H) [.ref x, .int p0] "java/lang/IllegalArgumentException") : cH l D yL_widest cL_widest 4 [(0, 8, 11, 13), (0, 8, 14, 37)] rmH (WS D x xa oa ov I N M) [.ref x, .int p0, .ref oa] (fun _ : Unit => some (.int 1)) (fun _ => WS D x xa oa ov I N M) := by
  refine cH_of (by decide) (Nat.le_of_ble_eq_true rfl) ?_
  intro p e s m below meth c ls A hx hb hr hlocks htab G hgf hz hA hP hD hS hl
  have hP : va_P D.1 vwCl (WS D x xa oa ov I N M) s.heap := hP
  have hD : va_D A (WS D x xa oa ov I N M) := hD
  have hl : lv_has ls 4 [(0, .ref x), (1, .int p0), (2, .ref oa)] := hl
  refine lv_aload_n hx hb dL_widest_0 rfl (lv_at hl 2 rfl) ?_
  refine lv_iconst (v := 0) hx hb dL_widest_1 (by decide) ?_
  refine lv_aload_n hx hb dL_widest_2 rfl (lv_at hl 0 rfl) ?_
  refine lv_iload_n hx hb dL_widest_3 rfl (lv_at hl 1 rfl) ?_
  refine kTC (C := RX4) (rest := [.int 0, .ref oa]) G h okX4_widest hgf hz hP hS hP (mw_recv hgf (hP 0 _ rfl) rfl) qw3_132 ⟨by show k + 1 ≤ 10; omega, by show 8 + (9 + 11) + 42 * k ≤ 390; omega⟩ ⟨Nat.le_of_ble_eq_true rfl, Nat.le_of_ble_eq_true rfl⟩ hl.1 (Nat.le_of_ble_eq_true rfl) rfl dL_widest_4 (tableOf []) ⟨0, 8, 11, 13⟩ (tableOf [(0, 8, 14, 37)]) (htab.trans rfl) (fun z hz => nomatch hz) rfl (by decide) qw1_52 (by decide +kernel) (fun q H locs hP hS => ?_)
  refine lv_astore_n (lv' := [(3, .ref q), (0, .ref x), (1, .int p0), (2, .ref oa)]) hx hb dL_widest_11 rfl hl (by decide) rfl (fun ls hl => ?_)
  refine lv_iconst (v := 1) hx hb dL_widest_12 (by decide) ?_
  exact mw_widen (k := 6) (n := 60) (Nat.le_of_ble_eq_true rfl) (Nat.le_of_ble_eq_true rfl) (mE_iret () rfl hx hb hr hlocks hP hD hS dL_widest_13)
set_option maxRecDepth 100000 in
set_option maxHeartbeats 4000000 in
theorem ch_widest_t2 (l : Launch) (D : mG) (x xa oa : Nat) (ov : Nat → Int64) (I : Nat → Nat → Nat) (N : Nat) (M : MSt) (p0 : Int32) {k : Nat} (hk : k ≤ 8) (h : cT l D yX4_widest cX4_widest 9 .long k (fun H => va_P D.1 vwCl (WS D x xa oa ov I N M) H) [.ref x, .int p0] "java/util/NoSuchElementException") : cH l D yL_widest cL_widest 4 [(0, 8, 11, 13), (0, 8, 14, 37)] rmH (WS D x xa oa ov I N M) [.ref x, .int p0, .ref oa] (fun _ : Unit => some (.int 2)) (fun _ => WS D x xa oa ov I N M) := by
  refine cH_of (by decide) (Nat.le_of_ble_eq_true rfl) ?_
  intro p e s m below meth c ls A hx hb hr hlocks htab G hgf hz hA hP hD hS hl
  have hP : va_P D.1 vwCl (WS D x xa oa ov I N M) s.heap := hP
  have hD : va_D A (WS D x xa oa ov I N M) := hD
  have hl : lv_has ls 4 [(0, .ref x), (1, .int p0), (2, .ref oa)] := hl
  refine lv_aload_n hx hb dL_widest_0 rfl (lv_at hl 2 rfl) ?_
  refine lv_iconst (v := 0) hx hb dL_widest_1 (by decide) ?_
  refine lv_aload_n hx hb dL_widest_2 rfl (lv_at hl 0 rfl) ?_
  refine lv_iload_n hx hb dL_widest_3 rfl (lv_at hl 1 rfl) ?_
  refine kTC (C := RX4) (rest := [.int 0, .ref oa]) G h okX4_widest hgf hz hP hS hP (mw_recv hgf (hP 0 _ rfl) rfl) qw3_132 ⟨by show k + 1 ≤ 10; omega, by show 8 + (9 + 11) + 42 * k ≤ 390; omega⟩ ⟨Nat.le_of_ble_eq_true rfl, Nat.le_of_ble_eq_true rfl⟩ hl.1 (Nat.le_of_ble_eq_true rfl) rfl dL_widest_4 (tableOf [(0, 8, 11, 13)]) ⟨0, 8, 14, 37⟩ (tableOf []) (htab.trans rfl) (fun z hz => by obtain rfl := List.mem_singleton.mp hz; exact ⟨by decide, "java/lang/IllegalArgumentException", qw1_52, by decide +kernel⟩) rfl (by decide) qw3_62 (by decide +kernel) (fun q H locs hP hS => ?_)
  refine lv_astore_n (lv' := [(3, .ref q), (0, .ref x), (1, .int p0), (2, .ref oa)]) hx hb dL_widest_14 rfl hl (by decide) rfl (fun ls hl => ?_)
  refine lv_iconst (v := 2) hx hb dL_widest_15 (by decide) ?_
  exact mw_widen (k := 6) (n := 60) (Nat.le_of_ble_eq_true rfl) (Nat.le_of_ble_eq_true rfl) (mE_iret () rfl hx hb hr hlocks hP hD hS dL_widest_16)
theorem okO_X4_forget : okO RX4 yX4_forget cX4_forget 2 (some .int) 1 := okX4_forget
set_option maxRecDepth 100000 in
set_option maxHeartbeats 4000000 in
theorem ch_forget_ok (l : Launch) (D : mG) (x xa oa : Nat) (ov : Nat → Int64) (I : Nat → Nat → Nat) (N : Nat) (M : MSt) (p0 : Int32) {rm : Room} (hrm : okrm rm) {S : Type} {v : S → Int32} {I1 : S → Nat → Nat → Nat} {N1 : Nat} {M1 : MSt} (h : cZ l D yX4_forget cX4_forget 2 (some .int) rm (WS D x xa oa ov I N M) (fun _ => True) [.ref x, .int p0] (fun u => some (.int (v u))) (fun u => WS D x xa oa ov (I1 u) N1 M1)) : cH l D yL_forget cL_forget 4 [(0, 9, 12, 21)] rmH (WS D x xa oa ov I N M) [.ref x, .int p0, .ref oa] (fun _ : S => some (.int 0)) (fun u => WS D x xa oa (vp_updL ov 0 (v u).toInt64) (I1 u) N1 M1) := by
  refine cH_of (by decide) (Nat.le_of_ble_eq_true rfl) ?_
  intro p e s m below meth c ls A hx hb hr hlocks htab G hgf hz hA hP hD hS hl
  have hP : va_P D.1 vwCl (WS D x xa oa ov I N M) s.heap := hP
  have hD : va_D A (WS D x xa oa ov I N M) := hD
  have hl : lv_has ls 4 [(0, .ref x), (1, .int p0), (2, .ref oa)] := hl
  refine lv_aload_n hx hb dL_forget_0 rfl (lv_at hl 2 rfl) ?_
  refine lv_iconst (v := 0) hx hb dL_forget_1 (by decide) ?_
  refine lv_aload_n hx hb dL_forget_2 rfl (lv_at hl 0 rfl) ?_
  refine lv_iload_n hx hb dL_forget_3 rfl (lv_at hl 1 rfl) ?_
  refine kZ (C := RX4) (wr := []) (rest := [.int 0, .ref oa]) G h okO_X4_forget hgf hP hD hS hA trivial (List.range (WS D x xa oa ov I N M).length) [] (va_nd_range _) (va_all _) rfl rfl (fun _ h => nomatch h) (mw_recv hgf (hP 0 _ rfl) rfl) qw3_141 ⟨by have := hrm.1; show rm.frames + 1 ≤ 10; omega, by have := hrm.2.1; show 8 + (2 + 11) + rm.locals ≤ 390; omega⟩ ⟨by have := hrm.2.2.1; show 0 + rm.cells ≤ 6; omega, by have := hrm.2.2.2; show 0 + rm.slots ≤ 60; omega⟩ hl.1 (Nat.le_of_ble_eq_true rfl) rfl dL_forget_4 (fun u H locs hP hD hS => ?_)
  have hP : va_P D.1 vwCl (WS D x xa oa ov (I1 u) N1 M1) H := hP
  have hD : va_D A (WS D x xa oa ov (I1 u) N1 M1) := hD
  refine lv_i2l hx hb dL_forget_7 rfl ?_
  refine mw_last (f := ov) (w1 := WS D x xa oa (vp_updL ov 0 ((v u).toInt64)) (I1 u) N1 M1) G hgf hP hD hS 2 rfl in01 rfl dL_forget_8 (fun H locs hP hD hS => ?_)
  refine lv_goto (tgt := 15) hx hb dL_forget_9 (by decide) ?_
  refine lv_iconst (v := 0) hx hb dL_forget_15 (by decide) ?_
  exact mw_widen (k := 6) (n := 60) (by have := hrm.2.2.1; omega) (by have := hrm.2.2.2; omega) (mE_iret u rfl hx hb hr hlocks hP hD hS dL_forget_16)
set_option maxRecDepth 100000 in
set_option maxHeartbeats 4000000 in
theorem ch_forget_t1 (l : Launch) (D : mG) (x xa oa : Nat) (ov : Nat → Int64) (I : Nat → Nat → Nat) (N : Nat) (M : MSt) (p0 : Int32) {k : Nat} (hk : k ≤ 8) (h : cT l D yX4_forget cX4_forget 2 .int k (fun H => va_P D.1 vwCl (WS D x xa oa ov I N M) H) [.ref x, .int p0] "java/lang/IndexOutOfBoundsException") : cH l D yL_forget cL_forget 4 [(0, 9, 12, 21)] rmH (WS D x xa oa ov I N M) [.ref x, .int p0, .ref oa] (fun _ : Unit => some (.int 1)) (fun _ => WS D x xa oa ov I N M) := by
  refine cH_of (by decide) (Nat.le_of_ble_eq_true rfl) ?_
  intro p e s m below meth c ls A hx hb hr hlocks htab G hgf hz hA hP hD hS hl
  have hP : va_P D.1 vwCl (WS D x xa oa ov I N M) s.heap := hP
  have hD : va_D A (WS D x xa oa ov I N M) := hD
  have hl : lv_has ls 4 [(0, .ref x), (1, .int p0), (2, .ref oa)] := hl
  refine lv_aload_n hx hb dL_forget_0 rfl (lv_at hl 2 rfl) ?_
  refine lv_iconst (v := 0) hx hb dL_forget_1 (by decide) ?_
  refine lv_aload_n hx hb dL_forget_2 rfl (lv_at hl 0 rfl) ?_
  refine lv_iload_n hx hb dL_forget_3 rfl (lv_at hl 1 rfl) ?_
  refine kTC (C := RX4) (rest := [.int 0, .ref oa]) G h okX4_forget hgf hz hP hS hP (mw_recv hgf (hP 0 _ rfl) rfl) qw3_141 ⟨by show k + 1 ≤ 10; omega, by show 8 + (2 + 11) + 42 * k ≤ 390; omega⟩ ⟨Nat.le_of_ble_eq_true rfl, Nat.le_of_ble_eq_true rfl⟩ hl.1 (Nat.le_of_ble_eq_true rfl) rfl dL_forget_4 (tableOf []) ⟨0, 9, 12, 21⟩ (tableOf []) (htab.trans rfl) (fun z hz => nomatch hz) rfl (by decide) qw2_37 (by decide +kernel) (fun q H locs hP hS => ?_)
  refine lv_astore_n (lv' := [(3, .ref q), (0, .ref x), (1, .int p0), (2, .ref oa)]) hx hb dL_forget_12 rfl hl (by decide) rfl (fun ls hl => ?_)
  refine lv_iconst (v := 1) hx hb dL_forget_13 (by decide) ?_
  exact mw_widen (k := 6) (n := 60) (Nat.le_of_ble_eq_true rfl) (Nat.le_of_ble_eq_true rfl) (mE_iret () rfl hx hb hr hlocks hP hD hS dL_forget_14)
theorem okO_X4_alarms : okO RX4 yX4_alarms cX4_alarms 2 (some .int) 1 := okX4_alarms
set_option maxRecDepth 100000 in
set_option maxHeartbeats 4000000 in
theorem ch_alarms_ok (l : Launch) (D : mG) (x xa oa : Nat) (ov : Nat → Int64) (I : Nat → Nat → Nat) (N : Nat) (M : MSt) (p0 : Int32) {rm : Room} (hrm : okrm rm) {S : Type} {v : S → Int32} {I1 : S → Nat → Nat → Nat} {N1 : Nat} {M1 : MSt} (h : cZ l D yX4_alarms cX4_alarms 2 (some .int) rm (WS D x xa oa ov I N M) (fun _ => True) [.ref x, .int p0] (fun u => some (.int (v u))) (fun u => WS D x xa oa ov (I1 u) N1 M1)) : cH l D yL_alarms cL_alarms 4 [(0, 9, 12, 21)] rmH (WS D x xa oa ov I N M) [.ref x, .int p0, .ref oa] (fun _ : S => some (.int 0)) (fun u => WS D x xa oa (vp_updL ov 0 (v u).toInt64) (I1 u) N1 M1) := by
  refine cH_of (by decide) (Nat.le_of_ble_eq_true rfl) ?_
  intro p e s m below meth c ls A hx hb hr hlocks htab G hgf hz hA hP hD hS hl
  have hP : va_P D.1 vwCl (WS D x xa oa ov I N M) s.heap := hP
  have hD : va_D A (WS D x xa oa ov I N M) := hD
  have hl : lv_has ls 4 [(0, .ref x), (1, .int p0), (2, .ref oa)] := hl
  refine lv_aload_n hx hb dL_alarms_0 rfl (lv_at hl 2 rfl) ?_
  refine lv_iconst (v := 0) hx hb dL_alarms_1 (by decide) ?_
  refine lv_aload_n hx hb dL_alarms_2 rfl (lv_at hl 0 rfl) ?_
  refine lv_iload_n hx hb dL_alarms_3 rfl (lv_at hl 1 rfl) ?_
  refine kZ (C := RX4) (wr := []) (rest := [.int 0, .ref oa]) G h okO_X4_alarms hgf hP hD hS hA trivial (List.range (WS D x xa oa ov I N M).length) [] (va_nd_range _) (va_all _) rfl rfl (fun _ h => nomatch h) (mw_recv hgf (hP 0 _ rfl) rfl) qw3_152 ⟨by have := hrm.1; show rm.frames + 1 ≤ 10; omega, by have := hrm.2.1; show 8 + (2 + 11) + rm.locals ≤ 390; omega⟩ ⟨by have := hrm.2.2.1; show 0 + rm.cells ≤ 6; omega, by have := hrm.2.2.2; show 0 + rm.slots ≤ 60; omega⟩ hl.1 (Nat.le_of_ble_eq_true rfl) rfl dL_alarms_4 (fun u H locs hP hD hS => ?_)
  have hP : va_P D.1 vwCl (WS D x xa oa ov (I1 u) N1 M1) H := hP
  have hD : va_D A (WS D x xa oa ov (I1 u) N1 M1) := hD
  refine lv_i2l hx hb dL_alarms_7 rfl ?_
  refine mw_last (f := ov) (w1 := WS D x xa oa (vp_updL ov 0 ((v u).toInt64)) (I1 u) N1 M1) G hgf hP hD hS 2 rfl in01 rfl dL_alarms_8 (fun H locs hP hD hS => ?_)
  refine lv_goto (tgt := 15) hx hb dL_alarms_9 (by decide) ?_
  refine lv_iconst (v := 0) hx hb dL_alarms_15 (by decide) ?_
  exact mw_widen (k := 6) (n := 60) (by have := hrm.2.2.1; omega) (by have := hrm.2.2.2; omega) (mE_iret u rfl hx hb hr hlocks hP hD hS dL_alarms_16)
set_option maxRecDepth 100000 in
set_option maxHeartbeats 4000000 in
theorem ch_alarms_t1 (l : Launch) (D : mG) (x xa oa : Nat) (ov : Nat → Int64) (I : Nat → Nat → Nat) (N : Nat) (M : MSt) (p0 : Int32) {k : Nat} (hk : k ≤ 8) (h : cT l D yX4_alarms cX4_alarms 2 .int k (fun H => va_P D.1 vwCl (WS D x xa oa ov I N M) H) [.ref x, .int p0] "java/lang/IndexOutOfBoundsException") : cH l D yL_alarms cL_alarms 4 [(0, 9, 12, 21)] rmH (WS D x xa oa ov I N M) [.ref x, .int p0, .ref oa] (fun _ : Unit => some (.int 1)) (fun _ => WS D x xa oa ov I N M) := by
  refine cH_of (by decide) (Nat.le_of_ble_eq_true rfl) ?_
  intro p e s m below meth c ls A hx hb hr hlocks htab G hgf hz hA hP hD hS hl
  have hP : va_P D.1 vwCl (WS D x xa oa ov I N M) s.heap := hP
  have hD : va_D A (WS D x xa oa ov I N M) := hD
  have hl : lv_has ls 4 [(0, .ref x), (1, .int p0), (2, .ref oa)] := hl
  refine lv_aload_n hx hb dL_alarms_0 rfl (lv_at hl 2 rfl) ?_
  refine lv_iconst (v := 0) hx hb dL_alarms_1 (by decide) ?_
  refine lv_aload_n hx hb dL_alarms_2 rfl (lv_at hl 0 rfl) ?_
  refine lv_iload_n hx hb dL_alarms_3 rfl (lv_at hl 1 rfl) ?_
  refine kTC (C := RX4) (rest := [.int 0, .ref oa]) G h okX4_alarms hgf hz hP hS hP (mw_recv hgf (hP 0 _ rfl) rfl) qw3_152 ⟨by show k + 1 ≤ 10; omega, by show 8 + (2 + 11) + 42 * k ≤ 390; omega⟩ ⟨Nat.le_of_ble_eq_true rfl, Nat.le_of_ble_eq_true rfl⟩ hl.1 (Nat.le_of_ble_eq_true rfl) rfl dL_alarms_4 (tableOf []) ⟨0, 9, 12, 21⟩ (tableOf []) (htab.trans rfl) (fun z hz => nomatch hz) rfl (by decide) qw2_37 (by decide +kernel) (fun q H locs hP hS => ?_)
  refine lv_astore_n (lv' := [(3, .ref q), (0, .ref x), (1, .int p0), (2, .ref oa)]) hx hb dL_alarms_12 rfl hl (by decide) rfl (fun ls hl => ?_)
  refine lv_iconst (v := 1) hx hb dL_alarms_13 (by decide) ?_
  exact mw_widen (k := 6) (n := 60) (Nat.le_of_ble_eq_true rfl) (Nat.le_of_ble_eq_true rfl) (mE_iret () rfl hx hb hr hlocks hP hD hS dL_alarms_14)
