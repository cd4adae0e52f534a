/-! MOUNT -/
set_option maxRecDepth 100000 in
set_option maxHeartbeats 4000000 in
theorem ce_num0 (l : Launch) (D : mG)  : cE l D yX4_numbersOf cX4_numbersOf 1 (some (.object "WeatherMast$Numbers")) { frames := 3, cells := 1, slots := 4, locals := 126 } [] [.int 0] (S := Nat) (fun u => some (.ref u)) (fun u => [(u, nE false false)]) := by
  refine cE_of (by decide) (Nat.le_of_ble_eq_true rfl) ?_
  intro p e s m below meth c ls A hx hb hr hlocks G hnm hgf hA hP hD hS hl
  have hl : lv_has ls 1 [(0, .int 0)] := hl
  refine lv_iload_n hx hb dX4_numbersOf_0 rfl (lv_at hl 0 rfl) ?_
  refine lv_tableIn (off := 27) (tgt := 28) hx hb dX4_numbersOf_1 (by decide) (by decide) (by rfl) (by decide) ?_
  refine va_new (ci := 2) (fs := [.long 0, .long 0, .int 0, .int 0]) (C := RX3) (T := TX3) (N := 4) hx hb G.2.2.2.2 inX3 tyX3 tyX3_ok G.2.2.2.1 (G.2.2.2.2 _ qw1_151) (G.2.2.2.2 _ qw1_152) (G.2.2.2.2 _ qw1_10) hgf.K hP hD hS hA rfl (fun j hj => mw_dvX3 j hj) (Nat.le_of_ble_eq_true rfl) (Nat.le_of_ble_eq_true rfl) dX4_numbersOf_28 (fun q_1 H hP hD hS => ?_)
  have hP : va_P D.1 vwCl [(q_1, .inr (2, [.long 0, .long 0, .int 0, .int 0]))] H := hP
  have hD : va_D A [(q_1, .inr (2, [.long 0, .long 0, .int 0, .int 0]))] := hD
  refine lv_dup hx hb dX4_numbersOf_31 rfl ?_
  refine lv_bipush (v := 32) hx hb dX4_numbersOf_32 (by decide) ?_
  refine kEI (wr := []) G (ceX3_init l D q_1 false) okI_X3_init hgf hP hD hS hA [0] [] rfl rfl rfl rfl (by decide) qw1_153 ⟨Nat.le_of_ble_eq_true rfl, Nat.le_of_ble_eq_true rfl⟩ ⟨(Nat.le_of_ble_eq_true rfl), (Nat.le_of_ble_eq_true rfl)⟩ hl.1 (Nat.le_of_ble_eq_true rfl) rfl dX4_numbersOf_34 (fun _ H locs hP hD hS => ?_)
  have hP : va_P D.1 vwCl [(q_1, .inr (2, wrF false))] H := hP
  have hD : va_D A [(q_1, .inr (2, wrF false))] := hD
  exact mE_aret (q_1) rfl hx hb hr hlocks hP hD hS dX4_numbersOf_37
set_option maxRecDepth 100000 in
set_option maxHeartbeats 4000000 in
theorem ce_num1 (l : Launch) (D : mG)  : cE l D yX4_numbersOf cX4_numbersOf 1 (some (.object "WeatherMast$Numbers")) { frames := 3, cells := 1, slots := 4, locals := 126 } [] [.int 1] (S := Nat) (fun u => some (.ref u)) (fun u => [(u, nE false true)]) := by
  refine cE_of (by decide) (Nat.le_of_ble_eq_true rfl) ?_
  intro p e s m below meth c ls A hx hb hr hlocks G hnm hgf hA hP hD hS hl
  have hl : lv_has ls 1 [(0, .int 1)] := hl
  refine lv_iload_n hx hb dX4_numbersOf_0 rfl (lv_at hl 0 rfl) ?_
  refine lv_tableIn (off := 37) (tgt := 38) hx hb dX4_numbersOf_1 (by decide) (by decide) (by rfl) (by decide) ?_
  refine va_new (ci := 2) (fs := [.long 0, .long 0, .int 0, .int 0]) (C := RX3) (T := TX3) (N := 4) hx hb G.2.2.2.2 inX3 tyX3 tyX3_ok G.2.2.2.1 (G.2.2.2.2 _ qw1_151) (G.2.2.2.2 _ qw1_152) (G.2.2.2.2 _ qw1_10) hgf.K hP hD hS hA rfl (fun j hj => mw_dvX3 j hj) (Nat.le_of_ble_eq_true rfl) (Nat.le_of_ble_eq_true rfl) dX4_numbersOf_38 (fun q_1 H hP hD hS => ?_)
  have hP : va_P D.1 vwCl [(q_1, .inr (2, [.long 0, .long 0, .int 0, .int 0]))] H := hP
  have hD : va_D A [(q_1, .inr (2, [.long 0, .long 0, .int 0, .int 0]))] := hD
  refine lv_dup hx hb dX4_numbersOf_41 rfl ?_
  refine lv_bipush (v := 64) hx hb dX4_numbersOf_42 (by decide) ?_
  refine kEI (wr := []) G (ceX3_init l D q_1 true) okI_X3_init hgf hP hD hS hA [0] [] rfl rfl rfl rfl (by decide) qw1_153 ⟨Nat.le_of_ble_eq_true rfl, Nat.le_of_ble_eq_true rfl⟩ ⟨(Nat.le_of_ble_eq_true rfl), (Nat.le_of_ble_eq_true rfl)⟩ hl.1 (Nat.le_of_ble_eq_true rfl) rfl dX4_numbersOf_44 (fun _ H locs hP hD hS => ?_)
  have hP : va_P D.1 vwCl [(q_1, .inr (2, wrF true))] H := hP
  have hD : va_D A [(q_1, .inr (2, wrF true))] := hD
  exact mE_aret (q_1) rfl hx hb hr hlocks hP hD hS dX4_numbersOf_47
set_option maxRecDepth 100000 in
set_option maxHeartbeats 4000000 in
theorem ce_num2 (l : Launch) (D : mG)  : cE l D yX4_numbersOf cX4_numbersOf 1 (some (.object "WeatherMast$Numbers")) { frames := 3, cells := 1, slots := 11, locals := 126 } [] [.int 2] (S := Nat) (fun u => some (.ref u)) (fun u => [(u, nE true false)]) := by
  refine cE_of (by decide) (Nat.le_of_ble_eq_true rfl) ?_
  intro p e s m below meth c ls A hx hb hr hlocks G hnm hgf hA hP hD hS hl
  have hl : lv_has ls 1 [(0, .int 2)] := hl
  refine lv_iload_n hx hb dX4_numbersOf_0 rfl (lv_at hl 0 rfl) ?_
  refine lv_tableIn (off := 47) (tgt := 48) hx hb dX4_numbersOf_1 (by decide) (by decide) (by rfl) (by decide) ?_
  refine va_new (ci := 0) (fs := [.long 0, .long 0, .int 0, .int 0, .int 0, .long 0, .long 0, .int 0, .long 0, .long 0, .long 0]) (C := RX0) (T := TX0) (N := 11) hx hb G.2.2.2.2 inX0 tyX0 tyX0_ok G.2.2.2.1 (G.2.2.2.2 _ qw1_176) (G.2.2.2.2 _ qw1_177) (G.2.2.2.2 _ qw1_11) hgf.K hP hD hS hA rfl (fun j hj => mw_dvX0 j hj) (Nat.le_of_ble_eq_true rfl) (Nat.le_of_ble_eq_true rfl) dX4_numbersOf_48 (fun q_1 H hP hD hS => ?_)
  have hP : va_P D.1 vwCl [(q_1, .inr (0, [.long 0, .long 0, .int 0, .int 0, .int 0, .long 0, .long 0, .int 0, .long 0, .long 0, .long 0]))] H := hP
  have hD : va_D A [(q_1, .inr (0, [.long 0, .long 0, .int 0, .int 0, .int 0, .long 0, .long 0, .int 0, .long 0, .long 0, .long 0]))] := hD
  refine lv_dup hx hb dX4_numbersOf_51 rfl ?_
  refine lv_bipush (v := 32) hx hb dX4_numbersOf_52 (by decide) ?_
  refine lv_bipush (v := 23) hx hb dX4_numbersOf_54 (by decide) ?_
  refine kEI (wr := []) G (ceX0_init l D q_1 false) okI_X0_init hgf hP hD hS hA [0] [] rfl rfl rfl rfl (by decide) qw1_178 ⟨Nat.le_of_ble_eq_true rfl, Nat.le_of_ble_eq_true rfl⟩ ⟨(Nat.le_of_ble_eq_true rfl), (Nat.le_of_ble_eq_true rfl)⟩ hl.1 (Nat.le_of_ble_eq_true rfl) rfl dX4_numbersOf_56 (fun _ H locs hP hD hS => ?_)
  have hP : va_P D.1 vwCl [(q_1, .inr (0, flF false))] H := hP
  have hD : va_D A [(q_1, .inr (0, flF false))] := hD
  exact mE_aret (q_1) rfl hx hb hr hlocks hP hD hS dX4_numbersOf_59
set_option maxRecDepth 100000 in
set_option maxHeartbeats 4000000 in
theorem ce_num3 (l : Launch) (D : mG)  : cE l D yX4_numbersOf cX4_numbersOf 1 (some (.object "WeatherMast$Numbers")) { frames := 3, cells := 1, slots := 11, locals := 126 } [] [.int 3] (S := Nat) (fun u => some (.ref u)) (fun u => [(u, nE true true)]) := by
  refine cE_of (by decide) (Nat.le_of_ble_eq_true rfl) ?_
  intro p e s m below meth c ls A hx hb hr hlocks G hnm hgf hA hP hD hS hl
  have hl : lv_has ls 1 [(0, .int 3)] := hl
  refine lv_iload_n hx hb dX4_numbersOf_0 rfl (lv_at hl 0 rfl) ?_
  refine lv_tableOut (tgt := 60) hx hb dX4_numbersOf_1 (by decide) (by decide) ?_
  refine va_new (ci := 0) (fs := [.long 0, .long 0, .int 0, .int 0, .int 0, .long 0, .long 0, .int 0, .long 0, .long 0, .long 0]) (C := RX0) (T := TX0) (N := 11) hx hb G.2.2.2.2 inX0 tyX0 tyX0_ok G.2.2.2.1 (G.2.2.2.2 _ qw1_176) (G.2.2.2.2 _ qw1_177) (G.2.2.2.2 _ qw1_11) hgf.K hP hD hS hA rfl (fun j hj => mw_dvX0 j hj) (Nat.le_of_ble_eq_true rfl) (Nat.le_of_ble_eq_true rfl) dX4_numbersOf_60 (fun q_1 H hP hD hS => ?_)
  have hP : va_P D.1 vwCl [(q_1, .inr (0, [.long 0, .long 0, .int 0, .int 0, .int 0, .long 0, .long 0, .int 0, .long 0, .long 0, .long 0]))] H := hP
  have hD : va_D A [(q_1, .inr (0, [.long 0, .long 0, .int 0, .int 0, .int 0, .long 0, .long 0, .int 0, .long 0, .long 0, .long 0]))] := hD
  refine lv_dup hx hb dX4_numbersOf_63 rfl ?_
  refine lv_bipush (v := 64) hx hb dX4_numbersOf_64 (by decide) ?_
  refine lv_bipush (v := 52) hx hb dX4_numbersOf_66 (by decide) ?_
  refine kEI (wr := []) G (ceX0_init l D q_1 true) okI_X0_init hgf hP hD hS hA [0] [] rfl rfl rfl rfl (by decide) qw1_178 ⟨Nat.le_of_ble_eq_true rfl, Nat.le_of_ble_eq_true rfl⟩ ⟨(Nat.le_of_ble_eq_true rfl), (Nat.le_of_ble_eq_true rfl)⟩ hl.1 (Nat.le_of_ble_eq_true rfl) rfl dX4_numbersOf_68 (fun _ H locs hP hD hS => ?_)
  have hP : va_P D.1 vwCl [(q_1, .inr (0, flF true))] H := hP
  have hD : va_D A [(q_1, .inr (0, flF true))] := hD
  exact mE_aret (q_1) rfl hx hb hr hlocks hP hD hS dX4_numbersOf_71
set_option maxRecDepth 100000 in
set_option maxHeartbeats 4000000 in
theorem ce_mount0 (l : Launch) (D : mG) (x xa : Nat) (n rd ae se : Int32) (IA : Nat → Option Nat) {N : Nat} (hn : n = nI N) (hN : N < 8) (h2 : n < 8) : cE l D yX4_mount cX4_mount 3 (some .int) { frames := 4, cells := 6, slots := 53, locals := 168 } [(x, .inr (3, xF xa n rd ae se)), (xa, .inl (D.2.2.2, 8, .inr (.inr (.inr (.inr IA)))))] [.ref x, .int 0] (S := Nat → Nat) (fun _ => some (.int n)) (fun u => [(x, .inr (3, [.ref xa, .int (n + 1), .int rd, .int ae, .int se])), (xa, .inl (D.2.2.2, 8, .inr (.inr (.inr (.inr (va_up IA n.toNatClampNeg (some (u 0))))))))] ++ wI D u 0 (wlo false) (whi false) 0 0 0 0 0 0 0 false false (fun _ => 0) (fun _ => 0) (fun _ => none) (fun _ => 0)) := by
  refine cE_of (by decide) (Nat.le_of_ble_eq_true rfl) ?_
  intro p e s m below meth c ls A hx hb hr hlocks G hnm hgf hA hP hD hS hl
  have hP : va_P D.1 vwCl [(x, .inr (3, xF xa n rd ae se)), (xa, .inl (D.2.2.2, 8, .inr (.inr (.inr (.inr IA)))))] s.heap := hP
  have hD : va_D A [(x, .inr (3, xF xa n rd ae se)), (xa, .inl (D.2.2.2, 8, .inr (.inr (.inr (.inr IA)))))] := hD
  have hl : lv_has ls 3 [(0, .ref x), (1, .int 0)] := hl
  refine lv_iload_n hx hb dX4_mount_0 rfl (lv_at hl 1 rfl) ?_
  refine kS G (cvX4_isSort l D 0) okX4_isSort hgf trivial qw1_58 ⟨Nat.le_of_ble_eq_true rfl, Nat.le_of_ble_eq_true rfl⟩ ⟨(Nat.le_of_ble_eq_true rfl), (Nat.le_of_ble_eq_true rfl)⟩ hl.1 (Nat.le_of_ble_eq_true rfl) rfl dX4_mount_1 ?_
  rw [show fX4_isSort 0 = 1 from by decide]
  refine lv_if_ne (tgt := 17) hx hb dX4_mount_4 (by decide) (fun _ => ?_) (fun h => absurd h (by decide))
  refine lv_aload_n hx hb dX4_mount_17 rfl (lv_at hl 0 rfl) ?_
  refine mw_get G hgf (hP 0 _ rfl) rfl inX4 1 (by decide) qw1_30 rfl dX4_mount_18 ?_
  refine lv_aload_n hx hb dX4_mount_21 rfl (lv_at hl 0 rfl) ?_
  refine mw_get G hgf (hP 0 _ rfl) rfl inX4 0 (by decide) qw1_29 rfl dX4_mount_22 ?_
  refine va_alen (v := 8) hx hb hgf.K hP 1 2 rfl rfl rfl dX4_mount_25 ?_
  refine lv_icmp_lt (tgt := 39) hx hb dX4_mount_26 (by decide) (fun _ => ?_) (fun h => absurd h2 h)
  refine lv_aload_n hx hb dX4_mount_39 rfl (lv_at hl 0 rfl) ?_
  refine mw_get G hgf (hP 0 _ rfl) rfl inX4 1 (by decide) qw1_30 rfl dX4_mount_40 ?_
  refine lv_istore_n (lv' := [(2, .int n), (0, .ref x), (1, .int 0)]) hx hb dX4_mount_43 rfl hl (by decide) rfl (fun ls hl => ?_)
  refine lv_aload_n hx hb dX4_mount_44 rfl (lv_at hl 1 rfl) ?_
  refine mw_get G hgf (hP 0 _ rfl) rfl inX4 0 (by decide) qw1_29 rfl dX4_mount_45 ?_
  refine lv_iload_n hx hb dX4_mount_48 rfl (lv_at hl 0 rfl) ?_
  refine va_new (ci := 1) (fs := [.int 0, .null, .long 0, .long 0, .int 0, .int 0, .long 0, .long 0, .long 0, .long 0, .null, .null, .null, .null, .int 0]) (C := RX1) (T := TX1) (N := 15) hx hb G.2.2.2.2 inX1 tyX1 tyX1_ok G.2.2.2.1 (G.2.2.2.2 _ qw1_27) (G.2.2.2.2 _ qw1_147) (G.2.2.2.2 _ qw1_8) hgf.K hP hD hS hA rfl (fun j hj => mw_dvX1 j hj) (Nat.le_of_ble_eq_true rfl) (Nat.le_of_ble_eq_true rfl) dX4_mount_49 (fun q_1 H hP hD hS => ?_)
  have hP : va_P D.1 vwCl [(x, .inr (3, xF xa n rd ae se)), (xa, .inl (D.2.2.2, 8, .inr (.inr (.inr (.inr IA))))), (q_1, .inr (1, [.int 0, .null, .long 0, .long 0, .int 0, .int 0, .long 0, .long 0, .long 0, .long 0, .null, .null, .null, .null, .int 0]))] H := hP
  have hD : va_D A [(x, .inr (3, xF xa n rd ae se)), (xa, .inl (D.2.2.2, 8, .inr (.inr (.inr (.inr IA))))), (q_1, .inr (1, [.int 0, .null, .long 0, .long 0, .int 0, .int 0, .long 0, .long 0, .long 0, .long 0, .null, .null, .null, .null, .int 0]))] := hD
  refine lv_dup hx hb dX4_mount_52 rfl ?_
  refine lv_iload_n hx hb dX4_mount_53 rfl (lv_at hl 2 rfl) ?_
  refine lv_iload_n hx hb dX4_mount_54 rfl (lv_at hl 2 rfl) ?_
  refine kES (wr := [(x, .inr (3, xF xa n rd ae se)), (xa, .inl (D.2.2.2, 8, .inr (.inr (.inr (.inr IA))))), (q_1, .inr (1, [.int 0, .null, .long 0, .long 0, .int 0, .int 0, .long 0, .long 0, .long 0, .long 0, .null, .null, .null, .null, .int 0]))]) G (ce_num0 l D) okX4_numbersOf hgf hP hD hS hA [] [0, 1, 2] rfl rfl rfl rfl (by decide) qw1_148 ⟨Nat.le_of_ble_eq_true rfl, Nat.le_of_ble_eq_true rfl⟩ ⟨(Nat.le_of_ble_eq_true rfl), (Nat.le_of_ble_eq_true rfl)⟩ hl.1 (Nat.le_of_ble_eq_true rfl) rfl dX4_mount_55 (fun q_2 H locs hP hD hS => ?_)
  have hP : va_P D.1 vwCl [(x, .inr (3, xF xa n rd ae se)), (xa, .inl (D.2.2.2, 8, .inr (.inr (.inr (.inr IA))))), (q_1, .inr (1, [.int 0, .null, .long 0, .long 0, .int 0, .int 0, .long 0, .long 0, .long 0, .long 0, .null, .null, .null, .null, .int 0])), (q_2, nE false false)] H := hP
  have hD : va_D A [(x, .inr (3, xF xa n rd ae se)), (xa, .inl (D.2.2.2, 8, .inr (.inr (.inr (.inr IA))))), (q_1, .inr (1, [.int 0, .null, .long 0, .long 0, .int 0, .int 0, .long 0, .long 0, .long 0, .long 0, .null, .null, .null, .null, .int 0])), (q_2, nE false false)] := hD
  refine kEI (wr := [(x, .inr (3, xF xa n rd ae se)), (xa, .inl (D.2.2.2, 8, .inr (.inr (.inr (.inr IA)))))]) G (ceX1_init_w l D q_1 q_2 false 0) okI_X1_init hgf hP hD hS hA [2, 3] [0, 1] rfl rfl rfl rfl (by decide) qw1_212 ⟨Nat.le_of_ble_eq_true rfl, Nat.le_of_ble_eq_true rfl⟩ ⟨(Nat.le_of_ble_eq_true rfl), (Nat.le_of_ble_eq_true rfl)⟩ hl.1 (Nat.le_of_ble_eq_true rfl) rfl dX4_mount_58 (fun u_3 H locs hP hD hS => ?_)
  have hP : va_P D.1 vwCl [(x, .inr (3, xF xa n rd ae se)), (xa, .inl (D.2.2.2, 8, .inr (.inr (.inr (.inr IA))))), (q_1, .inr (1, [.int 0, .ref q_2, .long (wlo false), .long (whi false), .int 0, .int 0, .long 0, .long 0, .long 0, .long 0, .ref (u_3 0), .ref (u_3 1), .ref (u_3 2), .ref (u_3 3), .int 0])), (q_2, nE false false), (u_3 0, .inl (D.2.1, 6, .inl (fun _ => 0))), (u_3 1, .inl (D.2.2.1, 6, .inr (.inl (fun _ => 0)))), (u_3 2, .inl (D.2.2.2, 6, .inr (.inr (.inr (.inr (fun _ => none)))))), (u_3 3, .inl (D.2.2.1, 16, .inr (.inl (fun _ => 0))))] H := hP
  have hD : va_D A [(x, .inr (3, xF xa n rd ae se)), (xa, .inl (D.2.2.2, 8, .inr (.inr (.inr (.inr IA))))), (q_1, .inr (1, [.int 0, .ref q_2, .long (wlo false), .long (whi false), .int 0, .int 0, .long 0, .long 0, .long 0, .long 0, .ref (u_3 0), .ref (u_3 1), .ref (u_3 2), .ref (u_3 3), .int 0])), (q_2, nE false false), (u_3 0, .inl (D.2.1, 6, .inl (fun _ => 0))), (u_3 1, .inl (D.2.2.1, 6, .inr (.inl (fun _ => 0)))), (u_3 2, .inl (D.2.2.2, 6, .inr (.inr (.inr (.inr (fun _ => none)))))), (u_3 3, .inl (D.2.2.1, 16, .inr (.inl (fun _ => 0))))] := hD
  refine mw_aast (f := IA) (w1 := [(x, .inr (3, xF xa n rd ae se)), (xa, .inl (D.2.2.2, 8, .inr (.inr (.inr (.inr (va_up IA n.toNatClampNeg (some q_1))))))), (q_1, .inr (1, [.int 0, .ref q_2, .long (wlo false), .long (whi false), .int 0, .int 0, .long 0, .long 0, .long 0, .long 0, .ref (u_3 0), .ref (u_3 1), .ref (u_3 2), .ref (u_3 3), .int 0])), (q_2, nE false false), (u_3 0, .inl (D.2.1, 6, .inl (fun _ => 0))), (u_3 1, .inl (D.2.2.1, 6, .inr (.inl (fun _ => 0)))), (u_3 2, .inl (D.2.2.2, 6, .inr (.inr (.inr (.inr (fun _ => none)))))), (u_3 3, .inl (D.2.2.1, 16, .inr (.inl (fun _ => 0))))]) G hgf hP hD hS 1 2 rfl rfl rfl rfl (by rw [hn]; exact vp_in_nI hN (by decide)) rfl dX4_mount_61 (fun H locs hP hD hS => ?_)
  refine lv_aload_n hx hb dX4_mount_62 rfl (lv_at hl 1 rfl) ?_
  refine lv_iload_n hx hb dX4_mount_63 rfl (lv_at hl 0 rfl) ?_
  refine lv_iconst (v := 1) hx hb dX4_mount_64 (by decide) ?_
  refine lv_iadd hx hb dX4_mount_65 ?_
  refine mw_put (w1 := [(x, .inr (3, [.ref xa, .int (n + 1), .int rd, .int ae, .int se])), (xa, .inl (D.2.2.2, 8, .inr (.inr (.inr (.inr (va_up IA n.toNatClampNeg (some q_1))))))), (q_1, .inr (1, [.int 0, .ref q_2, .long (wlo false), .long (whi false), .int 0, .int 0, .long 0, .long 0, .long 0, .long 0, .ref (u_3 0), .ref (u_3 1), .ref (u_3 2), .ref (u_3 3), .int 0])), (q_2, nE false false), (u_3 0, .inl (D.2.1, 6, .inl (fun _ => 0))), (u_3 1, .inl (D.2.2.1, 6, .inr (.inl (fun _ => 0)))), (u_3 2, .inl (D.2.2.2, 6, .inr (.inr (.inr (.inr (fun _ => none)))))), (u_3 3, .inl (D.2.2.1, 16, .inr (.inl (fun _ => 0))))]) G hgf hP hD hS 0 rfl rfl inX4 tyX4_ok nmX4 1 (by decide) qw1_30 rfl rfl rfl rfl (Nat.le_of_ble_eq_true rfl) rfl dX4_mount_66 (fun H locs hP hD hS => ?_)
  refine lv_iload_n hx hb dX4_mount_69 rfl (lv_at hl 0 rfl) ?_
  exact mE_iret (fun i => [q_1, q_2, u_3 0, u_3 1, u_3 2, u_3 3].getD i 0) rfl hx hb hr hlocks hP hD hS dX4_mount_70
set_option maxRecDepth 100000 in
set_option maxHeartbeats 4000000 in
theorem ce_mount1 (l : Launch) (D : mG) (x xa : Nat) (n rd ae se : Int32) (IA : Nat → Option Nat) {N : Nat} (hn : n = nI N) (hN : N < 8) (h2 : n < 8) : cE l D yX4_mount cX4_mount 3 (some .int) { frames := 4, cells := 6, slots := 53, locals := 168 } [(x, .inr (3, xF xa n rd ae se)), (xa, .inl (D.2.2.2, 8, .inr (.inr (.inr (.inr IA)))))] [.ref x, .int 1] (S := Nat → Nat) (fun _ => some (.int n)) (fun u => [(x, .inr (3, [.ref xa, .int (n + 1), .int rd, .int ae, .int se])), (xa, .inl (D.2.2.2, 8, .inr (.inr (.inr (.inr (va_up IA n.toNatClampNeg (some (u 0))))))))] ++ wI D u 1 (wlo true) (whi true) 0 0 0 0 0 0 0 false true (fun _ => 0) (fun _ => 0) (fun _ => none) (fun _ => 0)) := by
  refine cE_of (by decide) (Nat.le_of_ble_eq_true rfl) ?_
  intro p e s m below meth c ls A hx hb hr hlocks G hnm hgf hA hP hD hS hl
  have hP : va_P D.1 vwCl [(x, .inr (3, xF xa n rd ae se)), (xa, .inl (D.2.2.2, 8, .inr (.inr (.inr (.inr IA)))))] s.heap := hP
  have hD : va_D A [(x, .inr (3, xF xa n rd ae se)), (xa, .inl (D.2.2.2, 8, .inr (.inr (.inr (.inr IA)))))] := hD
  have hl : lv_has ls 3 [(0, .ref x), (1, .int 1)] := hl
  refine lv_iload_n hx hb dX4_mount_0 rfl (lv_at hl 1 rfl) ?_
  refine kS G (cvX4_isSort l D 1) okX4_isSort hgf trivial qw1_58 ⟨Nat.le_of_ble_eq_true rfl, Nat.le_of_ble_eq_true rfl⟩ ⟨(Nat.le_of_ble_eq_true rfl), (Nat.le_of_ble_eq_true rfl)⟩ hl.1 (Nat.le_of_ble_eq_true rfl) rfl dX4_mount_1 ?_
  rw [show fX4_isSort 1 = 1 from by decide]
  refine lv_if_ne (tgt := 17) hx hb dX4_mount_4 (by decide) (fun _ => ?_) (fun h => absurd h (by decide))
  refine lv_aload_n hx hb dX4_mount_17 rfl (lv_at hl 0 rfl) ?_
  refine mw_get G hgf (hP 0 _ rfl) rfl inX4 1 (by decide) qw1_30 rfl dX4_mount_18 ?_
  refine lv_aload_n hx hb dX4_mount_21 rfl (lv_at hl 0 rfl) ?_
  refine mw_get G hgf (hP 0 _ rfl) rfl inX4 0 (by decide) qw1_29 rfl dX4_mount_22 ?_
  refine va_alen (v := 8) hx hb hgf.K hP 1 2 rfl rfl rfl dX4_mount_25 ?_
  refine lv_icmp_lt (tgt := 39) hx hb dX4_mount_26 (by decide) (fun _ => ?_) (fun h => absurd h2 h)
  refine lv_aload_n hx hb dX4_mount_39 rfl (lv_at hl 0 rfl) ?_
  refine mw_get G hgf (hP 0 _ rfl) rfl inX4 1 (by decide) qw1_30 rfl dX4_mount_40 ?_
  refine lv_istore_n (lv' := [(2, .int n), (0, .ref x), (1, .int 1)]) hx hb dX4_mount_43 rfl hl (by decide) rfl (fun ls hl => ?_)
  refine lv_aload_n hx hb dX4_mount_44 rfl (lv_at hl 1 rfl) ?_
  refine mw_get G hgf (hP 0 _ rfl) rfl inX4 0 (by decide) qw1_29 rfl dX4_mount_45 ?_
  refine lv_iload_n hx hb dX4_mount_48 rfl (lv_at hl 0 rfl) ?_
  refine va_new (ci := 1) (fs := [.int 0, .null, .long 0, .long 0, .int 0, .int 0, .long 0, .long 0, .long 0, .long 0, .null, .null, .null, .null, .int 0]) (C := RX1) (T := TX1) (N := 15) hx hb G.2.2.2.2 inX1 tyX1 tyX1_ok G.2.2.2.1 (G.2.2.2.2 _ qw1_27) (G.2.2.2.2 _ qw1_147) (G.2.2.2.2 _ qw1_8) hgf.K hP hD hS hA rfl (fun j hj => mw_dvX1 j hj) (Nat.le_of_ble_eq_true rfl) (Nat.le_of_ble_eq_true rfl) dX4_mount_49 (fun q_1 H hP hD hS => ?_)
  have hP : va_P D.1 vwCl [(x, .inr (3, xF xa n rd ae se)), (xa, .inl (D.2.2.2, 8, .inr (.inr (.inr (.inr IA))))), (q_1, .inr (1, [.int 0, .null, .long 0, .long 0, .int 0, .int 0, .long 0, .long 0, .long 0, .long 0, .null, .null, .null, .null, .int 0]))] H := hP
  have hD : va_D A [(x, .inr (3, xF xa n rd ae se)), (xa, .inl (D.2.2.2, 8, .inr (.inr (.inr (.inr IA))))), (q_1, .inr (1, [.int 0, .null, .long 0, .long 0, .int 0, .int 0, .long 0, .long 0, .long 0, .long 0, .null, .null, .null, .null, .int 0]))] := hD
  refine lv_dup hx hb dX4_mount_52 rfl ?_
  refine lv_iload_n hx hb dX4_mount_53 rfl (lv_at hl 2 rfl) ?_
  refine lv_iload_n hx hb dX4_mount_54 rfl (lv_at hl 2 rfl) ?_
  refine kES (wr := [(x, .inr (3, xF xa n rd ae se)), (xa, .inl (D.2.2.2, 8, .inr (.inr (.inr (.inr IA))))), (q_1, .inr (1, [.int 0, .null, .long 0, .long 0, .int 0, .int 0, .long 0, .long 0, .long 0, .long 0, .null, .null, .null, .null, .int 0]))]) G (ce_num1 l D) okX4_numbersOf hgf hP hD hS hA [] [0, 1, 2] rfl rfl rfl rfl (by decide) qw1_148 ⟨Nat.le_of_ble_eq_true rfl, Nat.le_of_ble_eq_true rfl⟩ ⟨(Nat.le_of_ble_eq_true rfl), (Nat.le_of_ble_eq_true rfl)⟩ hl.1 (Nat.le_of_ble_eq_true rfl) rfl dX4_mount_55 (fun q_2 H locs hP hD hS => ?_)
  have hP : va_P D.1 vwCl [(x, .inr (3, xF xa n rd ae se)), (xa, .inl (D.2.2.2, 8, .inr (.inr (.inr (.inr IA))))), (q_1, .inr (1, [.int 0, .null, .long 0, .long 0, .int 0, .int 0, .long 0, .long 0, .long 0, .long 0, .null, .null, .null, .null, .int 0])), (q_2, nE false true)] H := hP
  have hD : va_D A [(x, .inr (3, xF xa n rd ae se)), (xa, .inl (D.2.2.2, 8, .inr (.inr (.inr (.inr IA))))), (q_1, .inr (1, [.int 0, .null, .long 0, .long 0, .int 0, .int 0, .long 0, .long 0, .long 0, .long 0, .null, .null, .null, .null, .int 0])), (q_2, nE false true)] := hD
  refine kEI (wr := [(x, .inr (3, xF xa n rd ae se)), (xa, .inl (D.2.2.2, 8, .inr (.inr (.inr (.inr IA)))))]) G (ceX1_init_w l D q_1 q_2 true 1) okI_X1_init hgf hP hD hS hA [2, 3] [0, 1] rfl rfl rfl rfl (by decide) qw1_212 ⟨Nat.le_of_ble_eq_true rfl, Nat.le_of_ble_eq_true rfl⟩ ⟨(Nat.le_of_ble_eq_true rfl), (Nat.le_of_ble_eq_true rfl)⟩ hl.1 (Nat.le_of_ble_eq_true rfl) rfl dX4_mount_58 (fun u_3 H locs hP hD hS => ?_)
  have hP : va_P D.1 vwCl [(x, .inr (3, xF xa n rd ae se)), (xa, .inl (D.2.2.2, 8, .inr (.inr (.inr (.inr IA))))), (q_1, .inr (1, [.int 1, .ref q_2, .long (wlo true), .long (whi true), .int 0, .int 0, .long 0, .long 0, .long 0, .long 0, .ref (u_3 0), .ref (u_3 1), .ref (u_3 2), .ref (u_3 3), .int 0])), (q_2, nE false true), (u_3 0, .inl (D.2.1, 6, .inl (fun _ => 0))), (u_3 1, .inl (D.2.2.1, 6, .inr (.inl (fun _ => 0)))), (u_3 2, .inl (D.2.2.2, 6, .inr (.inr (.inr (.inr (fun _ => none)))))), (u_3 3, .inl (D.2.2.1, 16, .inr (.inl (fun _ => 0))))] H := hP
  have hD : va_D A [(x, .inr (3, xF xa n rd ae se)), (xa, .inl (D.2.2.2, 8, .inr (.inr (.inr (.inr IA))))), (q_1, .inr (1, [.int 1, .ref q_2, .long (wlo true), .long (whi true), .int 0, .int 0, .long 0, .long 0, .long 0, .long 0, .ref (u_3 0), .ref (u_3 1), .ref (u_3 2), .ref (u_3 3), .int 0])), (q_2, nE false true), (u_3 0, .inl (D.2.1, 6, .inl (fun _ => 0))), (u_3 1, .inl (D.2.2.1, 6, .inr (.inl (fun _ => 0)))), (u_3 2, .inl (D.2.2.2, 6, .inr (.inr (.inr (.inr (fun _ => none)))))), (u_3 3, .inl (D.2.2.1, 16, .inr (.inl (fun _ => 0))))] := hD
  refine mw_aast (f := IA) (w1 := [(x, .inr (3, xF xa n rd ae se)), (xa, .inl (D.2.2.2, 8, .inr (.inr (.inr (.inr (va_up IA n.toNatClampNeg (some q_1))))))), (q_1, .inr (1, [.int 1, .ref q_2, .long (wlo true), .long (whi true), .int 0, .int 0, .long 0, .long 0, .long 0, .long 0, .ref (u_3 0), .ref (u_3 1), .ref (u_3 2), .ref (u_3 3), .int 0])), (q_2, nE false true), (u_3 0, .inl (D.2.1, 6, .inl (fun _ => 0))), (u_3 1, .inl (D.2.2.1, 6, .inr (.inl (fun _ => 0)))), (u_3 2, .inl (D.2.2.2, 6, .inr (.inr (.inr (.inr (fun _ => none)))))), (u_3 3, .inl (D.2.2.1, 16, .inr (.inl (fun _ => 0))))]) G hgf hP hD hS 1 2 rfl rfl rfl rfl (by rw [hn]; exact vp_in_nI hN (by decide)) rfl dX4_mount_61 (fun H locs hP hD hS => ?_)
  refine lv_aload_n hx hb dX4_mount_62 rfl (lv_at hl 1 rfl) ?_
  refine lv_iload_n hx hb dX4_mount_63 rfl (lv_at hl 0 rfl) ?_
  refine lv_iconst (v := 1) hx hb dX4_mount_64 (by decide) ?_
  refine lv_iadd hx hb dX4_mount_65 ?_
  refine mw_put (w1 := [(x, .inr (3, [.ref xa, .int (n + 1), .int rd, .int ae, .int se])), (xa, .inl (D.2.2.2, 8, .inr (.inr (.inr (.inr (va_up IA n.toNatClampNeg (some q_1))))))), (q_1, .inr (1, [.int 1, .ref q_2, .long (wlo true), .long (whi true), .int 0, .int 0, .long 0, .long 0, .long 0, .long 0, .ref (u_3 0), .ref (u_3 1), .ref (u_3 2), .ref (u_3 3), .int 0])), (q_2, nE false true), (u_3 0, .inl (D.2.1, 6, .inl (fun _ => 0))), (u_3 1, .inl (D.2.2.1, 6, .inr (.inl (fun _ => 0)))), (u_3 2, .inl (D.2.2.2, 6, .inr (.inr (.inr (.inr (fun _ => none)))))), (u_3 3, .inl (D.2.2.1, 16, .inr (.inl (fun _ => 0))))]) G hgf hP hD hS 0 rfl rfl inX4 tyX4_ok nmX4 1 (by decide) qw1_30 rfl rfl rfl rfl (Nat.le_of_ble_eq_true rfl) rfl dX4_mount_66 (fun H locs hP hD hS => ?_)
  refine lv_iload_n hx hb dX4_mount_69 rfl (lv_at hl 0 rfl) ?_
  exact mE_iret (fun i => [q_1, q_2, u_3 0, u_3 1, u_3 2, u_3 3].getD i 0) rfl hx hb hr hlocks hP hD hS dX4_mount_70
set_option maxRecDepth 100000 in
set_option maxHeartbeats 4000000 in
theorem ce_mount2 (l : Launch) (D : mG) (x xa : Nat) (n rd ae se : Int32) (IA : Nat → Option Nat) {N : Nat} (hn : n = nI N) (hN : N < 8) (h2 : n < 8) : cE l D yX4_mount cX4_mount 3 (some .int) { frames := 4, cells := 6, slots := 60, locals := 168 } [(x, .inr (3, xF xa n rd ae se)), (xa, .inl (D.2.2.2, 8, .inr (.inr (.inr (.inr IA)))))] [.ref x, .int 2] (S := Nat → Nat) (fun _ => some (.int n)) (fun u => [(x, .inr (3, [.ref xa, .int (n + 1), .int rd, .int ae, .int se])), (xa, .inl (D.2.2.2, 8, .inr (.inr (.inr (.inr (va_up IA n.toNatClampNeg (some (u 0))))))))] ++ wI D u 2 (flo false) (finf false) 0 0 0 0 0 0 0 true false (fun _ => 0) (fun _ => 0) (fun _ => none) (fun _ => 0)) := by
  refine cE_of (by decide) (Nat.le_of_ble_eq_true rfl) ?_
  intro p e s m below meth c ls A hx hb hr hlocks G hnm hgf hA hP hD hS hl
  have hP : va_P D.1 vwCl [(x, .inr (3, xF xa n rd ae se)), (xa, .inl (D.2.2.2, 8, .inr (.inr (.inr (.inr IA)))))] s.heap := hP
  have hD : va_D A [(x, .inr (3, xF xa n rd ae se)), (xa, .inl (D.2.2.2, 8, .inr (.inr (.inr (.inr IA)))))] := hD
  have hl : lv_has ls 3 [(0, .ref x), (1, .int 2)] := hl
  refine lv_iload_n hx hb dX4_mount_0 rfl (lv_at hl 1 rfl) ?_
  refine kS G (cvX4_isSort l D 2) okX4_isSort hgf trivial qw1_58 ⟨Nat.le_of_ble_eq_true rfl, Nat.le_of_ble_eq_true rfl⟩ ⟨(Nat.le_of_ble_eq_true rfl), (Nat.le_of_ble_eq_true rfl)⟩ hl.1 (Nat.le_of_ble_eq_true rfl) rfl dX4_mount_1 ?_
  rw [show fX4_isSort 2 = 1 from by decide]
  refine lv_if_ne (tgt := 17) hx hb dX4_mount_4 (by decide) (fun _ => ?_) (fun h => absurd h (by decide))
  refine lv_aload_n hx hb dX4_mount_17 rfl (lv_at hl 0 rfl) ?_
  refine mw_get G hgf (hP 0 _ rfl) rfl inX4 1 (by decide) qw1_30 rfl dX4_mount_18 ?_
  refine lv_aload_n hx hb dX4_mount_21 rfl (lv_at hl 0 rfl) ?_
  refine mw_get G hgf (hP 0 _ rfl) rfl inX4 0 (by decide) qw1_29 rfl dX4_mount_22 ?_
  refine va_alen (v := 8) hx hb hgf.K hP 1 2 rfl rfl rfl dX4_mount_25 ?_
  refine lv_icmp_lt (tgt := 39) hx hb dX4_mount_26 (by decide) (fun _ => ?_) (fun h => absurd h2 h)
  refine lv_aload_n hx hb dX4_mount_39 rfl (lv_at hl 0 rfl) ?_
  refine mw_get G hgf (hP 0 _ rfl) rfl inX4 1 (by decide) qw1_30 rfl dX4_mount_40 ?_
  refine lv_istore_n (lv' := [(2, .int n), (0, .ref x), (1, .int 2)]) hx hb dX4_mount_43 rfl hl (by decide) rfl (fun ls hl => ?_)
  refine lv_aload_n hx hb dX4_mount_44 rfl (lv_at hl 1 rfl) ?_
  refine mw_get G hgf (hP 0 _ rfl) rfl inX4 0 (by decide) qw1_29 rfl dX4_mount_45 ?_
  refine lv_iload_n hx hb dX4_mount_48 rfl (lv_at hl 0 rfl) ?_
  refine va_new (ci := 1) (fs := [.int 0, .null, .long 0, .long 0, .int 0, .int 0, .long 0, .long 0, .long 0, .long 0, .null, .null, .null, .null, .int 0]) (C := RX1) (T := TX1) (N := 15) hx hb G.2.2.2.2 inX1 tyX1 tyX1_ok G.2.2.2.1 (G.2.2.2.2 _ qw1_27) (G.2.2.2.2 _ qw1_147) (G.2.2.2.2 _ qw1_8) hgf.K hP hD hS hA rfl (fun j hj => mw_dvX1 j hj) (Nat.le_of_ble_eq_true rfl) (Nat.le_of_ble_eq_true rfl) dX4_mount_49 (fun q_1 H hP hD hS => ?_)
  have hP : va_P D.1 vwCl [(x, .inr (3, xF xa n rd ae se)), (xa, .inl (D.2.2.2, 8, .inr (.inr (.inr (.inr IA))))), (q_1, .inr (1, [.int 0, .null, .long 0, .long 0, .int 0, .int 0, .long 0, .long 0, .long 0, .long 0, .null, .null, .null, .null, .int 0]))] H := hP
  have hD : va_D A [(x, .inr (3, xF xa n rd ae se)), (xa, .inl (D.2.2.2, 8, .inr (.inr (.inr (.inr IA))))), (q_1, .inr (1, [.int 0, .null, .long 0, .long 0, .int 0, .int 0, .long 0, .long 0, .long 0, .long 0, .null, .null, .null, .null, .int 0]))] := hD
  refine lv_dup hx hb dX4_mount_52 rfl ?_
  refine lv_iload_n hx hb dX4_mount_53 rfl (lv_at hl 2 rfl) ?_
  refine lv_iload_n hx hb dX4_mount_54 rfl (lv_at hl 2 rfl) ?_
  refine kES (wr := [(x, .inr (3, xF xa n rd ae se)), (xa, .inl (D.2.2.2, 8, .inr (.inr (.inr (.inr IA))))), (q_1, .inr (1, [.int 0, .null, .long 0, .long 0, .int 0, .int 0, .long 0, .long 0, .long 0, .long 0, .null, .null, .null, .null, .int 0]))]) G (ce_num2 l D) okX4_numbersOf hgf hP hD hS hA [] [0, 1, 2] rfl rfl rfl rfl (by decide) qw1_148 ⟨Nat.le_of_ble_eq_true rfl, Nat.le_of_ble_eq_true rfl⟩ ⟨(Nat.le_of_ble_eq_true rfl), (Nat.le_of_ble_eq_true rfl)⟩ hl.1 (Nat.le_of_ble_eq_true rfl) rfl dX4_mount_55 (fun q_2 H locs hP hD hS => ?_)
  have hP : va_P D.1 vwCl [(x, .inr (3, xF xa n rd ae se)), (xa, .inl (D.2.2.2, 8, .inr (.inr (.inr (.inr IA))))), (q_1, .inr (1, [.int 0, .null, .long 0, .long 0, .int 0, .int 0, .long 0, .long 0, .long 0, .long 0, .null, .null, .null, .null, .int 0])), (q_2, nE true false)] H := hP
  have hD : va_D A [(x, .inr (3, xF xa n rd ae se)), (xa, .inl (D.2.2.2, 8, .inr (.inr (.inr (.inr IA))))), (q_1, .inr (1, [.int 0, .null, .long 0, .long 0, .int 0, .int 0, .long 0, .long 0, .long 0, .long 0, .null, .null, .null, .null, .int 0])), (q_2, nE true false)] := hD
  refine kEI (wr := [(x, .inr (3, xF xa n rd ae se)), (xa, .inl (D.2.2.2, 8, .inr (.inr (.inr (.inr IA)))))]) G (ceX1_init_f l D q_1 q_2 false 2) okI_X1_init hgf hP hD hS hA [2, 3] [0, 1] rfl rfl rfl rfl (by decide) qw1_212 ⟨Nat.le_of_ble_eq_true rfl, Nat.le_of_ble_eq_true rfl⟩ ⟨(Nat.le_of_ble_eq_true rfl), (Nat.le_of_ble_eq_true rfl)⟩ hl.1 (Nat.le_of_ble_eq_true rfl) rfl dX4_mount_58 (fun u_3 H locs hP hD hS => ?_)
  have hP : va_P D.1 vwCl [(x, .inr (3, xF xa n rd ae se)), (xa, .inl (D.2.2.2, 8, .inr (.inr (.inr (.inr IA))))), (q_1, .inr (1, [.int 2, .ref q_2, .long (flo false), .long (finf false), .int 0, .int 0, .long 0, .long 0, .long 0, .long 0, .ref (u_3 0), .ref (u_3 1), .ref (u_3 2), .ref (u_3 3), .int 0])), (q_2, nE true false), (u_3 0, .inl (D.2.1, 6, .inl (fun _ => 0))), (u_3 1, .inl (D.2.2.1, 6, .inr (.inl (fun _ => 0)))), (u_3 2, .inl (D.2.2.2, 6, .inr (.inr (.inr (.inr (fun _ => none)))))), (u_3 3, .inl (D.2.2.1, 16, .inr (.inl (fun _ => 0))))] H := hP
  have hD : va_D A [(x, .inr (3, xF xa n rd ae se)), (xa, .inl (D.2.2.2, 8, .inr (.inr (.inr (.inr IA))))), (q_1, .inr (1, [.int 2, .ref q_2, .long (flo false), .long (finf false), .int 0, .int 0, .long 0, .long 0, .long 0, .long 0, .ref (u_3 0), .ref (u_3 1), .ref (u_3 2), .ref (u_3 3), .int 0])), (q_2, nE true false), (u_3 0, .inl (D.2.1, 6, .inl (fun _ => 0))), (u_3 1, .inl (D.2.2.1, 6, .inr (.inl (fun _ => 0)))), (u_3 2, .inl (D.2.2.2, 6, .inr (.inr (.inr (.inr (fun _ => none)))))), (u_3 3, .inl (D.2.2.1, 16, .inr (.inl (fun _ => 0))))] := hD
  refine mw_aast (f := IA) (w1 := [(x, .inr (3, xF xa n rd ae se)), (xa, .inl (D.2.2.2, 8, .inr (.inr (.inr (.inr (va_up IA n.toNatClampNeg (some q_1))))))), (q_1, .inr (1, [.int 2, .ref q_2, .long (flo false), .long (finf false), .int 0, .int 0, .long 0, .long 0, .long 0, .long 0, .ref (u_3 0), .ref (u_3 1), .ref (u_3 2), .ref (u_3 3), .int 0])), (q_2, nE true false), (u_3 0, .inl (D.2.1, 6, .inl (fun _ => 0))), (u_3 1, .inl (D.2.2.1, 6, .inr (.inl (fun _ => 0)))), (u_3 2, .inl (D.2.2.2, 6, .inr (.inr (.inr (.inr (fun _ => none)))))), (u_3 3, .inl (D.2.2.1, 16, .inr (.inl (fun _ => 0))))]) G hgf hP hD hS 1 2 rfl rfl rfl rfl (by rw [hn]; exact vp_in_nI hN (by decide)) rfl dX4_mount_61 (fun H locs hP hD hS => ?_)
  refine lv_aload_n hx hb dX4_mount_62 rfl (lv_at hl 1 rfl) ?_
  refine lv_iload_n hx hb dX4_mount_63 rfl (lv_at hl 0 rfl) ?_
  refine lv_iconst (v := 1) hx hb dX4_mount_64 (by decide) ?_
  refine lv_iadd hx hb dX4_mount_65 ?_
  refine mw_put (w1 := [(x, .inr (3, [.ref xa, .int (n + 1), .int rd, .int ae, .int se])), (xa, .inl (D.2.2.2, 8, .inr (.inr (.inr (.inr (va_up IA n.toNatClampNeg (some q_1))))))), (q_1, .inr (1, [.int 2, .ref q_2, .long (flo false), .long (finf false), .int 0, .int 0, .long 0, .long 0, .long 0, .long 0, .ref (u_3 0), .ref (u_3 1), .ref (u_3 2), .ref (u_3 3), .int 0])), (q_2, nE true false), (u_3 0, .inl (D.2.1, 6, .inl (fun _ => 0))), (u_3 1, .inl (D.2.2.1, 6, .inr (.inl (fun _ => 0)))), (u_3 2, .inl (D.2.2.2, 6, .inr (.inr (.inr (.inr (fun _ => none)))))), (u_3 3, .inl (D.2.2.1, 16, .inr (.inl (fun _ => 0))))]) G hgf hP hD hS 0 rfl rfl inX4 tyX4_ok nmX4 1 (by decide) qw1_30 rfl rfl rfl rfl (Nat.le_of_ble_eq_true rfl) rfl dX4_mount_66 (fun H locs hP hD hS => ?_)
  refine lv_iload_n hx hb dX4_mount_69 rfl (lv_at hl 0 rfl) ?_
  exact mE_iret (fun i => [q_1, q_2, u_3 0, u_3 1, u_3 2, u_3 3].getD i 0) rfl hx hb hr hlocks hP hD hS dX4_mount_70
set_option maxRecDepth 100000 in
set_option maxHeartbeats 4000000 in
theorem ce_mount3 (l : Launch) (D : mG) (x xa : Nat) (n rd ae se : Int32) (IA : Nat → Option Nat) {N : Nat} (hn : n = nI N) (hN : N < 8) (h2 : n < 8) : cE l D yX4_mount cX4_mount 3 (some .int) { frames := 4, cells := 6, slots := 60, locals := 168 } [(x, .inr (3, xF xa n rd ae se)), (xa, .inl (D.2.2.2, 8, .inr (.inr (.inr (.inr IA)))))] [.ref x, .int 3] (S := Nat → Nat) (fun _ => some (.int n)) (fun u => [(x, .inr (3, [.ref xa, .int (n + 1), .int rd, .int ae, .int se])), (xa, .inl (D.2.2.2, 8, .inr (.inr (.inr (.inr (va_up IA n.toNatClampNeg (some (u 0))))))))] ++ wI D u 3 (flo true) (finf true) 0 0 0 0 0 0 0 true true (fun _ => 0) (fun _ => 0) (fun _ => none) (fun _ => 0)) := by
  refine cE_of (by decide) (Nat.le_of_ble_eq_true rfl) ?_
  intro p e s m below meth c ls A hx hb hr hlocks G hnm hgf hA hP hD hS hl
  have hP : va_P D.1 vwCl [(x, .inr (3, xF xa n rd ae se)), (xa, .inl (D.2.2.2, 8, .inr (.inr (.inr (.inr IA)))))] s.heap := hP
  have hD : va_D A [(x, .inr (3, xF xa n rd ae se)), (xa, .inl (D.2.2.2, 8, .inr (.inr (.inr (.inr IA)))))] := hD
  have hl : lv_has ls 3 [(0, .ref x), (1, .int 3)] := hl
  refine lv_iload_n hx hb dX4_mount_0 rfl (lv_at hl 1 rfl) ?_
  refine kS G (cvX4_isSort l D 3) okX4_isSort hgf trivial qw1_58 ⟨Nat.le_of_ble_eq_true rfl, Nat.le_of_ble_eq_true rfl⟩ ⟨(Nat.le_of_ble_eq_true rfl), (Nat.le_of_ble_eq_true rfl)⟩ hl.1 (Nat.le_of_ble_eq_true rfl) rfl dX4_mount_1 ?_
  rw [show fX4_isSort 3 = 1 from by decide]
  refine lv_if_ne (tgt := 17) hx hb dX4_mount_4 (by decide) (fun _ => ?_) (fun h => absurd h (by decide))
  refine lv_aload_n hx hb dX4_mount_17 rfl (lv_at hl 0 rfl) ?_
  refine mw_get G hgf (hP 0 _ rfl) rfl inX4 1 (by decide) qw1_30 rfl dX4_mount_18 ?_
  refine lv_aload_n hx hb dX4_mount_21 rfl (lv_at hl 0 rfl) ?_
  refine mw_get G hgf (hP 0 _ rfl) rfl inX4 0 (by decide) qw1_29 rfl dX4_mount_22 ?_
  refine va_alen (v := 8) hx hb hgf.K hP 1 2 rfl rfl rfl dX4_mount_25 ?_
  refine lv_icmp_lt (tgt := 39) hx hb dX4_mount_26 (by decide) (fun _ => ?_) (fun h => absurd h2 h)
  refine lv_aload_n hx hb dX4_mount_39 rfl (lv_at hl 0 rfl) ?_
  refine mw_get G hgf (hP 0 _ rfl) rfl inX4 1 (by decide) qw1_30 rfl dX4_mount_40 ?_
  refine lv_istore_n (lv' := [(2, .int n), (0, .ref x), (1, .int 3)]) hx hb dX4_mount_43 rfl hl (by decide) rfl (fun ls hl => ?_)
  refine lv_aload_n hx hb dX4_mount_44 rfl (lv_at hl 1 rfl) ?_
  refine mw_get G hgf (hP 0 _ rfl) rfl inX4 0 (by decide) qw1_29 rfl dX4_mount_45 ?_
  refine lv_iload_n hx hb dX4_mount_48 rfl (lv_at hl 0 rfl) ?_
  refine va_new (ci := 1) (fs := [.int 0, .null, .long 0, .long 0, .int 0, .int 0, .long 0, .long 0, .long 0, .long 0, .null, .null, .null, .null, .int 0]) (C := RX1) (T := TX1) (N := 15) hx hb G.2.2.2.2 inX1 tyX1 tyX1_ok G.2.2.2.1 (G.2.2.2.2 _ qw1_27) (G.2.2.2.2 _ qw1_147) (G.2.2.2.2 _ qw1_8) hgf.K hP hD hS hA rfl (fun j hj => mw_dvX1 j hj) (Nat.le_of_ble_eq_true rfl) (Nat.le_of_ble_eq_true rfl) dX4_mount_49 (fun q_1 H hP hD hS => ?_)
  have hP : va_P D.1 vwCl [(x, .inr (3, xF xa n rd ae se)), (xa, .inl (D.2.2.2, 8, .inr (.inr (.inr (.inr IA))))), (q_1, .inr (1, [.int 0, .null, .long 0, .long 0, .int 0, .int 0, .long 0, .long 0, .long 0, .long 0, .null, .null, .null, .null, .int 0]))] H := hP
  have hD : va_D A [(x, .inr (3, xF xa n rd ae se)), (xa, .inl (D.2.2.2, 8, .inr (.inr (.inr (.inr IA))))), (q_1, .inr (1, [.int 0, .null, .long 0, .long 0, .int 0, .int 0, .long 0, .long 0, .long 0, .long 0, .null, .null, .null, .null, .int 0]))] := hD
  refine lv_dup hx hb dX4_mount_52 rfl ?_
  refine lv_iload_n hx hb dX4_mount_53 rfl (lv_at hl 2 rfl) ?_
  refine lv_iload_n hx hb dX4_mount_54 rfl (lv_at hl 2 rfl) ?_
  refine kES (wr := [(x, .inr (3, xF xa n rd ae se)), (xa, .inl (D.2.2.2, 8, .inr (.inr (.inr (.inr IA))))), (q_1, .inr (1, [.int 0, .null, .long 0, .long 0, .int 0, .int 0, .long 0, .long 0, .long 0, .long 0, .null, .null, .null, .null, .int 0]))]) G (ce_num3 l D) okX4_numbersOf hgf hP hD hS hA [] [0, 1, 2] rfl rfl rfl rfl (by decide) qw1_148 ⟨Nat.le_of_ble_eq_true rfl, Nat.le_of_ble_eq_true rfl⟩ ⟨(Nat.le_of_ble_eq_true rfl), (Nat.le_of_ble_eq_true rfl)⟩ hl.1 (Nat.le_of_ble_eq_true rfl) rfl dX4_mount_55 (fun q_2 H locs hP hD hS => ?_)
  have hP : va_P D.1 vwCl [(x, .inr (3, xF xa n rd ae se)), (xa, .inl (D.2.2.2, 8, .inr (.inr (.inr (.inr IA))))), (q_1, .inr (1, [.int 0, .null, .long 0, .long 0, .int 0, .int 0, .long 0, .long 0, .long 0, .long 0, .null, .null, .null, .null, .int 0])), (q_2, nE true true)] H := hP
  have hD : va_D A [(x, .inr (3, xF xa n rd ae se)), (xa, .inl (D.2.2.2, 8, .inr (.inr (.inr (.inr IA))))), (q_1, .inr (1, [.int 0, .null, .long 0, .long 0, .int 0, .int 0, .long 0, .long 0, .long 0, .long 0, .null, .null, .null, .null, .int 0])), (q_2, nE true true)] := hD
  refine kEI (wr := [(x, .inr (3, xF xa n rd ae se)), (xa, .inl (D.2.2.2, 8, .inr (.inr (.inr (.inr IA)))))]) G (ceX1_init_f l D q_1 q_2 true 3) okI_X1_init hgf hP hD hS hA [2, 3] [0, 1] rfl rfl rfl rfl (by decide) qw1_212 ⟨Nat.le_of_ble_eq_true rfl, Nat.le_of_ble_eq_true rfl⟩ ⟨(Nat.le_of_ble_eq_true rfl), (Nat.le_of_ble_eq_true rfl)⟩ hl.1 (Nat.le_of_ble_eq_true rfl) rfl dX4_mount_58 (fun u_3 H locs hP hD hS => ?_)
  have hP : va_P D.1 vwCl [(x, .inr (3, xF xa n rd ae se)), (xa, .inl (D.2.2.2, 8, .inr (.inr (.inr (.inr IA))))), (q_1, .inr (1, [.int 3, .ref q_2, .long (flo true), .long (finf true), .int 0, .int 0, .long 0, .long 0, .long 0, .long 0, .ref (u_3 0), .ref (u_3 1), .ref (u_3 2), .ref (u_3 3), .int 0])), (q_2, nE true true), (u_3 0, .inl (D.2.1, 6, .inl (fun _ => 0))), (u_3 1, .inl (D.2.2.1, 6, .inr (.inl (fun _ => 0)))), (u_3 2, .inl (D.2.2.2, 6, .inr (.inr (.inr (.inr (fun _ => none)))))), (u_3 3, .inl (D.2.2.1, 16, .inr (.inl (fun _ => 0))))] H := hP
  have hD : va_D A [(x, .inr (3, xF xa n rd ae se)), (xa, .inl (D.2.2.2, 8, .inr (.inr (.inr (.inr IA))))), (q_1, .inr (1, [.int 3, .ref q_2, .long (flo true), .long (finf true), .int 0, .int 0, .long 0, .long 0, .long 0, .long 0, .ref (u_3 0), .ref (u_3 1), .ref (u_3 2), .ref (u_3 3), .int 0])), (q_2, nE true true), (u_3 0, .inl (D.2.1, 6, .inl (fun _ => 0))), (u_3 1, .inl (D.2.2.1, 6, .inr (.inl (fun _ => 0)))), (u_3 2, .inl (D.2.2.2, 6, .inr (.inr (.inr (.inr (fun _ => none)))))), (u_3 3, .inl (D.2.2.1, 16, .inr (.inl (fun _ => 0))))] := hD
  refine mw_aast (f := IA) (w1 := [(x, .inr (3, xF xa n rd ae se)), (xa, .inl (D.2.2.2, 8, .inr (.inr (.inr (.inr (va_up IA n.toNatClampNeg (some q_1))))))), (q_1, .inr (1, [.int 3, .ref q_2, .long (flo true), .long (finf true), .int 0, .int 0, .long 0, .long 0, .long 0, .long 0, .ref (u_3 0), .ref (u_3 1), .ref (u_3 2), .ref (u_3 3), .int 0])), (q_2, nE true true), (u_3 0, .inl (D.2.1, 6, .inl (fun _ => 0))), (u_3 1, .inl (D.2.2.1, 6, .inr (.inl (fun _ => 0)))), (u_3 2, .inl (D.2.2.2, 6, .inr (.inr (.inr (.inr (fun _ => none)))))), (u_3 3, .inl (D.2.2.1, 16, .inr (.inl (fun _ => 0))))]) G hgf hP hD hS 1 2 rfl rfl rfl rfl (by rw [hn]; exact vp_in_nI hN (by decide)) rfl dX4_mount_61 (fun H locs hP hD hS => ?_)
  refine lv_aload_n hx hb dX4_mount_62 rfl (lv_at hl 1 rfl) ?_
  refine lv_iload_n hx hb dX4_mount_63 rfl (lv_at hl 0 rfl) ?_
  refine lv_iconst (v := 1) hx hb dX4_mount_64 (by decide) ?_
  refine lv_iadd hx hb dX4_mount_65 ?_
  refine mw_put (w1 := [(x, .inr (3, [.ref xa, .int (n + 1), .int rd, .int ae, .int se])), (xa, .inl (D.2.2.2, 8, .inr (.inr (.inr (.inr (va_up IA n.toNatClampNeg (some q_1))))))), (q_1, .inr (1, [.int 3, .ref q_2, .long (flo true), .long (finf true), .int 0, .int 0, .long 0, .long 0, .long 0, .long 0, .ref (u_3 0), .ref (u_3 1), .ref (u_3 2), .ref (u_3 3), .int 0])), (q_2, nE true true), (u_3 0, .inl (D.2.1, 6, .inl (fun _ => 0))), (u_3 1, .inl (D.2.2.1, 6, .inr (.inl (fun _ => 0)))), (u_3 2, .inl (D.2.2.2, 6, .inr (.inr (.inr (.inr (fun _ => none)))))), (u_3 3, .inl (D.2.2.1, 16, .inr (.inl (fun _ => 0))))]) G hgf hP hD hS 0 rfl rfl inX4 tyX4_ok nmX4 1 (by decide) qw1_30 rfl rfl rfl rfl (Nat.le_of_ble_eq_true rfl) rfl dX4_mount_66 (fun H locs hP hD hS => ?_)
  refine lv_iload_n hx hb dX4_mount_69 rfl (lv_at hl 0 rfl) ?_
  exact mE_iret (fun i => [q_1, q_2, u_3 0, u_3 1, u_3 2, u_3 3].getD i 0) rfl hx hb hr hlocks hP hD hS dX4_mount_70
