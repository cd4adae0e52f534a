/-! CONSTRUCTORS -/
theorem mE_vret {p : Program} {l : Launch} {e : Env} {R : Room} {s : State} {m : MethodId} {args : Array Value} {below : List Frame} {meth : Method} {c : Code} {H : Heap} {locs : List Loc} {cells slots : Nat} {cc : ByteArray} {pc : Nat} {ls : Array Slot} {D : mG} {A : Nat → Prop} {S : Type} {v : S → Option Value} {w1 : S → va_W} (u : S) (hv : v u = none) (hx : p.tables.exec = Jvm.exec) (hb : c.code = cc) (hr : meth.sig.returnType = none) (hlocks : meth.locks = false) (hP : va_P D.1 vwCl (w1 u) H) (hD : va_D A (w1 u)) (hS : va_S A s.heap H locs) (hdg : decode cc pc = .ok (.return_, 1)) : W p l e R s m args below meth c H locs cells slots (MQ below (mQE D v w1 A) args s cells slots A) (F0 m pc ls []) :=
  W.vret hx hb hr (fun t ht _ => ⟨⟨u, by rw [hv], by rw [ht]; exact hP, hD⟩, hS.F ht⟩) hS.2.2 hdg hlocks
theorem mE_aret {p : Program} {l : Launch} {e : Env} {R : Room} {s : State} {m : MethodId} {args : Array Value} {below : List Frame} {meth : Method} {c : Code} {H : Heap} {locs : List Loc} {cells slots : Nat} {cc : ByteArray} {pc : Nat} {ls : Array Slot} {D : mG} {A : Nat → Prop} {S : Type} {v : S → Option Value} {w1 : S → va_W} {a : Nat} {cn : String} (u : S) (hv : v u = some (.ref a)) (hx : p.tables.exec = Jvm.exec) (hb : c.code = cc) (hr : meth.sig.returnType = some (.object cn)) (hlocks : meth.locks = false) (hP : va_P D.1 vwCl (w1 u) H) (hD : va_D A (w1 u)) (hS : va_S A s.heap H locs) (hdg : decode cc pc = .ok (.areturn, 1)) : W p l e R s m args below meth c H locs cells slots (MQ below (mQE D v w1 A) args s cells slots A) (F0 m pc ls [.ref a]) :=
  W.aret hx hb hr (Or.inl ⟨cn, rfl⟩) (Or.inr ⟨a, rfl⟩) (fun t ht _ => ⟨⟨u, by rw [hv], by rw [ht]; exact hP, hD⟩, hS.F ht⟩) hS.2.2 hdg hlocks
theorem mw_dvX0 : ∀ j, j < 11 → defaultValue (tyX0 j) = vp_V [.long 0, .long 0, .int 0, .int 0, .int 0, .long 0, .long 0, .int 0, .long 0, .long 0, .long 0] j := by decide +kernel
theorem mw_dvX1 : ∀ j, j < 15 → defaultValue (tyX1 j) = vp_V [.int 0, .null, .long 0, .long 0, .int 0, .int 0, .long 0, .long 0, .long 0, .long 0, .null, .null, .null, .null, .int 0] j := by decide +kernel
theorem mw_dvX3 : ∀ j, j < 4 → defaultValue (tyX3 j) = vp_V [.long 0, .long 0, .int 0, .int 0] j := by decide +kernel
theorem mw_dvX4 : ∀ j, j < 5 → defaultValue (tyX4 j) = vp_V [.null, .int 0, .int 0, .int 0, .int 0] j := by decide +kernel
theorem mw_dvX5 : ∀ j, j < 19 → defaultValue (tyX5 j) = vp_V [.int 0, .int 0, .null, .null, .null, .null, .null, .null, .null, .null, .null, .null, .null, .null, .null, .null, .int 0, .int 0, .int 0] j := by decide +kernel
theorem okI_X4_init : okI yX4_init cX4_init 1 0 := ⟨qw1_1, qw1_22, qw1_23, rfl, by decide +kernel⟩
theorem okI_X3_init : okI yX3_init cX3_init 2 1 := ⟨qw1_10, qw1_154, qw1_155, rfl, by decide +kernel⟩
theorem okI_X2_init : okI yX2_init cX2_init 7 4 := ⟨qw1_9, qw1_158, qw1_159, rfl, by decide +kernel⟩
theorem okI_X0_init : okI yX0_init cX0_init 3 2 := ⟨qw1_11, qw1_179, qw1_180, rfl, by decide +kernel⟩
theorem okI_X1_init : okI yX1_init cX1_init 3 2 := ⟨qw1_8, qw1_213, qw1_214, rfl, by decide +kernel⟩
theorem okI_X5_init : okI yX5_init cX5_init 1 0 := ⟨qw1_2, qw3_159, qw3_160, rfl, by decide +kernel⟩
abbrev mE0 : MSt := (fun _ _ => 0, fun _ _ => 0)
set_option maxRecDepth 100000 in
set_option maxHeartbeats 4000000 in
theorem ceX5_init (l : Launch) (D : mG) (r : Nat) : cE l D yX5_init cX5_init 1 none { frames := 1, cells := 14, slots := 352, locals := 42 } [(r, .inr (4, [.int 0, .int 0, .null, .null, .null, .null, .null, .null, .null, .null, .null, .null, .null, .null, .null, .null, .int 0, .int 0, .int 0]))] [.ref r] (S := Nat → Nat) (fun _ => none) (fun ma => wM D r ma 0 mE0) := by
  refine cE_of (by decide) (Nat.le_of_ble_eq_true rfl) ?_
  intro p e s m below meth c ls A hx hb hr hlocks G hnm hgf hA hP hD hS hl
  have hl : lv_has ls 1 [(0, .ref r)] := hl
  refine lv_aload_n hx hb dX5_init_0 rfl (lv_at hl 0 rfl) ?_
  refine mw_obj G qw3_161 hl.1 (Nat.le_of_ble_eq_true rfl) (Nat.le_of_ble_eq_true rfl) dX5_init_1 ?_
  refine lv_aload_n hx hb dX5_init_4 rfl (lv_at hl 0 rfl) ?_
  refine lv_bipush (v := 8) hx hb dX5_init_5 (by decide) ?_
  refine mw_newI (N := 8) G hgf hP hD hS hA rfl (by decide) (Nat.le_of_ble_eq_true rfl) (Nat.le_of_ble_eq_true rfl) dX5_init_7 (fun q_1 H hP hD hS => ?_)
  have hP : va_P D.1 vwCl [(r, .inr (4, [.int 0, .int 0, .null, .null, .null, .null, .null, .null, .null, .null, .null, .null, .null, .null, .null, .null, .int 0, .int 0, .int 0])), (q_1, .inl (D.2.1, 8, .inl (fun _ => 0)))] H := hP
  have hD : va_D A [(r, .inr (4, [.int 0, .int 0, .null, .null, .null, .null, .null, .null, .null, .null, .null, .null, .null, .null, .null, .null, .int 0, .int 0, .int 0])), (q_1, .inl (D.2.1, 8, .inl (fun _ => 0)))] := hD
  refine mw_putF (w1' := [(r, .inr (4, [.int 0, .int 0, .ref q_1, .null, .null, .null, .null, .null, .null, .null, .null, .null, .null, .null, .null, .null, .int 0, .int 0, .int 0])), (q_1, .inl (D.2.1, 8, .inl (fun _ => 0)))]) G hnm hgf hP hD hS 0 rfl rfl inX5 tyX5_ok nmX5 2 (by decide) qw3_164 rfl rfl rfl rfl rfl (Nat.le_of_ble_eq_true rfl) rfl dX5_init_9 (fun H locs hP hD hS => ?_)
  refine lv_aload_n hx hb dX5_init_12 rfl (lv_at hl 0 rfl) ?_
  refine lv_bipush (v := 8) hx hb dX5_init_13 (by decide) ?_
  refine mw_newI (N := 8) G hgf hP hD hS hA rfl (by decide) (Nat.le_of_ble_eq_true rfl) (Nat.le_of_ble_eq_true rfl) dX5_init_15 (fun q_2 H hP hD hS => ?_)
  have hP : va_P D.1 vwCl [(r, .inr (4, [.int 0, .int 0, .ref q_1, .null, .null, .null, .null, .null, .null, .null, .null, .null, .null, .null, .null, .null, .int 0, .int 0, .int 0])), (q_1, .inl (D.2.1, 8, .inl (fun _ => 0))), (q_2, .inl (D.2.1, 8, .inl (fun _ => 0)))] H := hP
  have hD : va_D A [(r, .inr (4, [.int 0, .int 0, .ref q_1, .null, .null, .null, .null, .null, .null, .null, .null, .null, .null, .null, .null, .null, .int 0, .int 0, .int 0])), (q_1, .inl (D.2.1, 8, .inl (fun _ => 0))), (q_2, .inl (D.2.1, 8, .inl (fun _ => 0)))] := hD
  refine mw_putF (w1' := [(r, .inr (4, [.int 0, .int 0, .ref q_1, .ref q_2, .null, .null, .null, .null, .null, .null, .null, .null, .null, .null, .null, .null, .int 0, .int 0, .int 0])), (q_1, .inl (D.2.1, 8, .inl (fun _ => 0))), (q_2, .inl (D.2.1, 8, .inl (fun _ => 0)))]) G hnm hgf hP hD hS 0 rfl rfl inX5 tyX5_ok nmX5 3 (by decide) qw3_165 rfl rfl rfl rfl rfl (Nat.le_of_ble_eq_true rfl) rfl dX5_init_17 (fun H locs hP hD hS => ?_)
  refine lv_aload_n hx hb dX5_init_20 rfl (lv_at hl 0 rfl) ?_
  refine lv_bipush (v := 48) hx hb dX5_init_21 (by decide) ?_
  refine mw_newI (N := 48) G hgf hP hD hS hA rfl (by decide) (Nat.le_of_ble_eq_true rfl) (Nat.le_of_ble_eq_true rfl) dX5_init_23 (fun q_3 H hP hD hS => ?_)
  have hP : va_P D.1 vwCl [(r, .inr (4, [.int 0, .int 0, .ref q_1, .ref q_2, .null, .null, .null, .null, .null, .null, .null, .null, .null, .null, .null, .null, .int 0, .int 0, .int 0])), (q_1, .inl (D.2.1, 8, .inl (fun _ => 0))), (q_2, .inl (D.2.1, 8, .inl (fun _ => 0))), (q_3, .inl (D.2.1, 48, .inl (fun _ => 0)))] H := hP
  have hD : va_D A [(r, .inr (4, [.int 0, .int 0, .ref q_1, .ref q_2, .null, .null, .null, .null, .null, .null, .null, .null, .null, .null, .null, .null, .int 0, .int 0, .int 0])), (q_1, .inl (D.2.1, 8, .inl (fun _ => 0))), (q_2, .inl (D.2.1, 8, .inl (fun _ => 0))), (q_3, .inl (D.2.1, 48, .inl (fun _ => 0)))] := hD
  refine mw_putF (w1' := [(r, .inr (4, [.int 0, .int 0, .ref q_1, .ref q_2, .ref q_3, .null, .null, .null, .null, .null, .null, .null, .null, .null, .null, .null, .int 0, .int 0, .int 0])), (q_1, .inl (D.2.1, 8, .inl (fun _ => 0))), (q_2, .inl (D.2.1, 8, .inl (fun _ => 0))), (q_3, .inl (D.2.1, 48, .inl (fun _ => 0)))]) G hnm hgf hP hD hS 0 rfl rfl inX5 tyX5_ok nmX5 4 (by decide) qw3_166 rfl rfl rfl rfl rfl (Nat.le_of_ble_eq_true rfl) rfl dX5_init_25 (fun H locs hP hD hS => ?_)
  refine lv_aload_n hx hb dX5_init_28 rfl (lv_at hl 0 rfl) ?_
  refine lv_bipush (v := 48) hx hb dX5_init_29 (by decide) ?_
  refine mw_newI (N := 48) G hgf hP hD hS hA rfl (by decide) (Nat.le_of_ble_eq_true rfl) (Nat.le_of_ble_eq_true rfl) dX5_init_31 (fun q_4 H hP hD hS => ?_)
  have hP : va_P D.1 vwCl [(r, .inr (4, [.int 0, .int 0, .ref q_1, .ref q_2, .ref q_3, .null, .null, .null, .null, .null, .null, .null, .null, .null, .null, .null, .int 0, .int 0, .int 0])), (q_1, .inl (D.2.1, 8, .inl (fun _ => 0))), (q_2, .inl (D.2.1, 8, .inl (fun _ => 0))), (q_3, .inl (D.2.1, 48, .inl (fun _ => 0))), (q_4, .inl (D.2.1, 48, .inl (fun _ => 0)))] H := hP
  have hD : va_D A [(r, .inr (4, [.int 0, .int 0, .ref q_1, .ref q_2, .ref q_3, .null, .null, .null, .null, .null, .null, .null, .null, .null, .null, .null, .int 0, .int 0, .int 0])), (q_1, .inl (D.2.1, 8, .inl (fun _ => 0))), (q_2, .inl (D.2.1, 8, .inl (fun _ => 0))), (q_3, .inl (D.2.1, 48, .inl (fun _ => 0))), (q_4, .inl (D.2.1, 48, .inl (fun _ => 0)))] := hD
  refine mw_putF (w1' := [(r, .inr (4, [.int 0, .int 0, .ref q_1, .ref q_2, .ref q_3, .ref q_4, .null, .null, .null, .null, .null, .null, .null, .null, .null, .null, .int 0, .int 0, .int 0])), (q_1, .inl (D.2.1, 8, .inl (fun _ => 0))), (q_2, .inl (D.2.1, 8, .inl (fun _ => 0))), (q_3, .inl (D.2.1, 48, .inl (fun _ => 0))), (q_4, .inl (D.2.1, 48, .inl (fun _ => 0)))]) G hnm hgf hP hD hS 0 rfl rfl inX5 tyX5_ok nmX5 5 (by decide) qw3_167 rfl rfl rfl rfl rfl (Nat.le_of_ble_eq_true rfl) rfl dX5_init_33 (fun H locs hP hD hS => ?_)
  refine lv_aload_n hx hb dX5_init_36 rfl (lv_at hl 0 rfl) ?_
  refine lv_bipush (v := 48) hx hb dX5_init_37 (by decide) ?_
  refine mw_newJ (N := 48) G hgf hP hD hS hA rfl (by decide) (Nat.le_of_ble_eq_true rfl) (Nat.le_of_ble_eq_true rfl) dX5_init_39 (fun q_5 H hP hD hS => ?_)
  have hP : va_P D.1 vwCl [(r, .inr (4, [.int 0, .int 0, .ref q_1, .ref q_2, .ref q_3, .ref q_4, .null, .null, .null, .null, .null, .null, .null, .null, .null, .null, .int 0, .int 0, .int 0])), (q_1, .inl (D.2.1, 8, .inl (fun _ => 0))), (q_2, .inl (D.2.1, 8, .inl (fun _ => 0))), (q_3, .inl (D.2.1, 48, .inl (fun _ => 0))), (q_4, .inl (D.2.1, 48, .inl (fun _ => 0))), (q_5, .inl (D.2.2.1, 48, .inr (.inl (fun _ => 0))))] H := hP
  have hD : va_D A [(r, .inr (4, [.int 0, .int 0, .ref q_1, .ref q_2, .ref q_3, .ref q_4, .null, .null, .null, .null, .null, .null, .null, .null, .null, .null, .int 0, .int 0, .int 0])), (q_1, .inl (D.2.1, 8, .inl (fun _ => 0))), (q_2, .inl (D.2.1, 8, .inl (fun _ => 0))), (q_3, .inl (D.2.1, 48, .inl (fun _ => 0))), (q_4, .inl (D.2.1, 48, .inl (fun _ => 0))), (q_5, .inl (D.2.2.1, 48, .inr (.inl (fun _ => 0))))] := hD
  refine mw_putF (w1' := [(r, .inr (4, [.int 0, .int 0, .ref q_1, .ref q_2, .ref q_3, .ref q_4, .ref q_5, .null, .null, .null, .null, .null, .null, .null, .null, .null, .int 0, .int 0, .int 0])), (q_1, .inl (D.2.1, 8, .inl (fun _ => 0))), (q_2, .inl (D.2.1, 8, .inl (fun _ => 0))), (q_3, .inl (D.2.1, 48, .inl (fun _ => 0))), (q_4, .inl (D.2.1, 48, .inl (fun _ => 0))), (q_5, .inl (D.2.2.1, 48, .inr (.inl (fun _ => 0))))]) G hnm hgf hP hD hS 0 rfl rfl inX5 tyX5_ok nmX5 6 (by decide) qw3_168 rfl rfl rfl rfl rfl (Nat.le_of_ble_eq_true rfl) rfl dX5_init_41 (fun H locs hP hD hS => ?_)
  refine lv_aload_n hx hb dX5_init_44 rfl (lv_at hl 0 rfl) ?_
  refine lv_bipush (v := 8) hx hb dX5_init_45 (by decide) ?_
  refine mw_newJ (N := 8) G hgf hP hD hS hA rfl (by decide) (Nat.le_of_ble_eq_true rfl) (Nat.le_of_ble_eq_true rfl) dX5_init_47 (fun q_6 H hP hD hS => ?_)
  have hP : va_P D.1 vwCl [(r, .inr (4, [.int 0, .int 0, .ref q_1, .ref q_2, .ref q_3, .ref q_4, .ref q_5, .null, .null, .null, .null, .null, .null, .null, .null, .null, .int 0, .int 0, .int 0])), (q_1, .inl (D.2.1, 8, .inl (fun _ => 0))), (q_2, .inl (D.2.1, 8, .inl (fun _ => 0))), (q_3, .inl (D.2.1, 48, .inl (fun _ => 0))), (q_4, .inl (D.2.1, 48, .inl (fun _ => 0))), (q_5, .inl (D.2.2.1, 48, .inr (.inl (fun _ => 0)))), (q_6, .inl (D.2.2.1, 8, .inr (.inl (fun _ => 0))))] H := hP
  have hD : va_D A [(r, .inr (4, [.int 0, .int 0, .ref q_1, .ref q_2, .ref q_3, .ref q_4, .ref q_5, .null, .null, .null, .null, .null, .null, .null, .null, .null, .int 0, .int 0, .int 0])), (q_1, .inl (D.2.1, 8, .inl (fun _ => 0))), (q_2, .inl (D.2.1, 8, .inl (fun _ => 0))), (q_3, .inl (D.2.1, 48, .inl (fun _ => 0))), (q_4, .inl (D.2.1, 48, .inl (fun _ => 0))), (q_5, .inl (D.2.2.1, 48, .inr (.inl (fun _ => 0)))), (q_6, .inl (D.2.2.1, 8, .inr (.inl (fun _ => 0))))] := hD
  refine mw_putF (w1' := [(r, .inr (4, [.int 0, .int 0, .ref q_1, .ref q_2, .ref q_3, .ref q_4, .ref q_5, .ref q_6, .null, .null, .null, .null, .null, .null, .null, .null, .int 0, .int 0, .int 0])), (q_1, .inl (D.2.1, 8, .inl (fun _ => 0))), (q_2, .inl (D.2.1, 8, .inl (fun _ => 0))), (q_3, .inl (D.2.1, 48, .inl (fun _ => 0))), (q_4, .inl (D.2.1, 48, .inl (fun _ => 0))), (q_5, .inl (D.2.2.1, 48, .inr (.inl (fun _ => 0)))), (q_6, .inl (D.2.2.1, 8, .inr (.inl (fun _ => 0))))]) G hnm hgf hP hD hS 0 rfl rfl inX5 tyX5_ok nmX5 7 (by decide) qw3_169 rfl rfl rfl rfl rfl (Nat.le_of_ble_eq_true rfl) rfl dX5_init_49 (fun H locs hP hD hS => ?_)
  refine lv_aload_n hx hb dX5_init_52 rfl (lv_at hl 0 rfl) ?_
  refine lv_bipush (v := 8) hx hb dX5_init_53 (by decide) ?_
  refine mw_newJ (N := 8) G hgf hP hD hS hA rfl (by decide) (Nat.le_of_ble_eq_true rfl) (Nat.le_of_ble_eq_true rfl) dX5_init_55 (fun q_7 H hP hD hS => ?_)
  have hP : va_P D.1 vwCl [(r, .inr (4, [.int 0, .int 0, .ref q_1, .ref q_2, .ref q_3, .ref q_4, .ref q_5, .ref q_6, .null, .null, .null, .null, .null, .null, .null, .null, .int 0, .int 0, .int 0])), (q_1, .inl (D.2.1, 8, .inl (fun _ => 0))), (q_2, .inl (D.2.1, 8, .inl (fun _ => 0))), (q_3, .inl (D.2.1, 48, .inl (fun _ => 0))), (q_4, .inl (D.2.1, 48, .inl (fun _ => 0))), (q_5, .inl (D.2.2.1, 48, .inr (.inl (fun _ => 0)))), (q_6, .inl (D.2.2.1, 8, .inr (.inl (fun _ => 0)))), (q_7, .inl (D.2.2.1, 8, .inr (.inl (fun _ => 0))))] H := hP
  have hD : va_D A [(r, .inr (4, [.int 0, .int 0, .ref q_1, .ref q_2, .ref q_3, .ref q_4, .ref q_5, .ref q_6, .null, .null, .null, .null, .null, .null, .null, .null, .int 0, .int 0, .int 0])), (q_1, .inl (D.2.1, 8, .inl (fun _ => 0))), (q_2, .inl (D.2.1, 8, .inl (fun _ => 0))), (q_3, .inl (D.2.1, 48, .inl (fun _ => 0))), (q_4, .inl (D.2.1, 48, .inl (fun _ => 0))), (q_5, .inl (D.2.2.1, 48, .inr (.inl (fun _ => 0)))), (q_6, .inl (D.2.2.1, 8, .inr (.inl (fun _ => 0)))), (q_7, .inl (D.2.2.1, 8, .inr (.inl (fun _ => 0))))] := hD
  refine mw_putF (w1' := [(r, .inr (4, [.int 0, .int 0, .ref q_1, .ref q_2, .ref q_3, .ref q_4, .ref q_5, .ref q_6, .ref q_7, .null, .null, .null, .null, .null, .null, .null, .int 0, .int 0, .int 0])), (q_1, .inl (D.2.1, 8, .inl (fun _ => 0))), (q_2, .inl (D.2.1, 8, .inl (fun _ => 0))), (q_3, .inl (D.2.1, 48, .inl (fun _ => 0))), (q_4, .inl (D.2.1, 48, .inl (fun _ => 0))), (q_5, .inl (D.2.2.1, 48, .inr (.inl (fun _ => 0)))), (q_6, .inl (D.2.2.1, 8, .inr (.inl (fun _ => 0)))), (q_7, .inl (D.2.2.1, 8, .inr (.inl (fun _ => 0))))]) G hnm hgf hP hD hS 0 rfl rfl inX5 tyX5_ok nmX5 8 (by decide) qw3_170 rfl rfl rfl rfl rfl (Nat.le_of_ble_eq_true rfl) rfl dX5_init_57 (fun H locs hP hD hS => ?_)
  refine lv_aload_n hx hb dX5_init_60 rfl (lv_at hl 0 rfl) ?_
  refine lv_bipush (v := 8) hx hb dX5_init_61 (by decide) ?_
  refine mw_newI (N := 8) G hgf hP hD hS hA rfl (by decide) (Nat.le_of_ble_eq_true rfl) (Nat.le_of_ble_eq_true rfl) dX5_init_63 (fun q_8 H hP hD hS => ?_)
  have hP : va_P D.1 vwCl [(r, .inr (4, [.int 0, .int 0, .ref q_1, .ref q_2, .ref q_3, .ref q_4, .ref q_5, .ref q_6, .ref q_7, .null, .null, .null, .null, .null, .null, .null, .int 0, .int 0, .int 0])), (q_1, .inl (D.2.1, 8, .inl (fun _ => 0))), (q_2, .inl (D.2.1, 8, .inl (fun _ => 0))), (q_3, .inl (D.2.1, 48, .inl (fun _ => 0))), (q_4, .inl (D.2.1, 48, .inl (fun _ => 0))), (q_5, .inl (D.2.2.1, 48, .inr (.inl (fun _ => 0)))), (q_6, .inl (D.2.2.1, 8, .inr (.inl (fun _ => 0)))), (q_7, .inl (D.2.2.1, 8, .inr (.inl (fun _ => 0)))), (q_8, .inl (D.2.1, 8, .inl (fun _ => 0)))] H := hP
  have hD : va_D A [(r, .inr (4, [.int 0, .int 0, .ref q_1, .ref q_2, .ref q_3, .ref q_4, .ref q_5, .ref q_6, .ref q_7, .null, .null, .null, .null, .null, .null, .null, .int 0, .int 0, .int 0])), (q_1, .inl (D.2.1, 8, .inl (fun _ => 0))), (q_2, .inl (D.2.1, 8, .inl (fun _ => 0))), (q_3, .inl (D.2.1, 48, .inl (fun _ => 0))), (q_4, .inl (D.2.1, 48, .inl (fun _ => 0))), (q_5, .inl (D.2.2.1, 48, .inr (.inl (fun _ => 0)))), (q_6, .inl (D.2.2.1, 8, .inr (.inl (fun _ => 0)))), (q_7, .inl (D.2.2.1, 8, .inr (.inl (fun _ => 0)))), (q_8, .inl (D.2.1, 8, .inl (fun _ => 0)))] := hD
  refine mw_putF (w1' := [(r, .inr (4, [.int 0, .int 0, .ref q_1, .ref q_2, .ref q_3, .ref q_4, .ref q_5, .ref q_6, .ref q_7, .ref q_8, .null, .null, .null, .null, .null, .null, .int 0, .int 0, .int 0])), (q_1, .inl (D.2.1, 8, .inl (fun _ => 0))), (q_2, .inl (D.2.1, 8, .inl (fun _ => 0))), (q_3, .inl (D.2.1, 48, .inl (fun _ => 0))), (q_4, .inl (D.2.1, 48, .inl (fun _ => 0))), (q_5, .inl (D.2.2.1, 48, .inr (.inl (fun _ => 0)))), (q_6, .inl (D.2.2.1, 8, .inr (.inl (fun _ => 0)))), (q_7, .inl (D.2.2.1, 8, .inr (.inl (fun _ => 0)))), (q_8, .inl (D.2.1, 8, .inl (fun _ => 0)))]) G hnm hgf hP hD hS 0 rfl rfl inX5 tyX5_ok nmX5 9 (by decide) qw3_171 rfl rfl rfl rfl rfl (Nat.le_of_ble_eq_true rfl) rfl dX5_init_65 (fun H locs hP hD hS => ?_)
  refine lv_aload_n hx hb dX5_init_68 rfl (lv_at hl 0 rfl) ?_
  refine lv_sipush (v := 128) hx hb dX5_init_69 (by decide) ?_
  refine mw_newJ (N := 128) G hgf hP hD hS hA rfl (by decide) (Nat.le_of_ble_eq_true rfl) (Nat.le_of_ble_eq_true rfl) dX5_init_72 (fun q_9 H hP hD hS => ?_)
  have hP : va_P D.1 vwCl [(r, .inr (4, [.int 0, .int 0, .ref q_1, .ref q_2, .ref q_3, .ref q_4, .ref q_5, .ref q_6, .ref q_7, .ref q_8, .null, .null, .null, .null, .null, .null, .int 0, .int 0, .int 0])), (q_1, .inl (D.2.1, 8, .inl (fun _ => 0))), (q_2, .inl (D.2.1, 8, .inl (fun _ => 0))), (q_3, .inl (D.2.1, 48, .inl (fun _ => 0))), (q_4, .inl (D.2.1, 48, .inl (fun _ => 0))), (q_5, .inl (D.2.2.1, 48, .inr (.inl (fun _ => 0)))), (q_6, .inl (D.2.2.1, 8, .inr (.inl (fun _ => 0)))), (q_7, .inl (D.2.2.1, 8, .inr (.inl (fun _ => 0)))), (q_8, .inl (D.2.1, 8, .inl (fun _ => 0))), (q_9, .inl (D.2.2.1, 128, .inr (.inl (fun _ => 0))))] H := hP
  have hD : va_D A [(r, .inr (4, [.int 0, .int 0, .ref q_1, .ref q_2, .ref q_3, .ref q_4, .ref q_5, .ref q_6, .ref q_7, .ref q_8, .null, .null, .null, .null, .null, .null, .int 0, .int 0, .int 0])), (q_1, .inl (D.2.1, 8, .inl (fun _ => 0))), (q_2, .inl (D.2.1, 8, .inl (fun _ => 0))), (q_3, .inl (D.2.1, 48, .inl (fun _ => 0))), (q_4, .inl (D.2.1, 48, .inl (fun _ => 0))), (q_5, .inl (D.2.2.1, 48, .inr (.inl (fun _ => 0)))), (q_6, .inl (D.2.2.1, 8, .inr (.inl (fun _ => 0)))), (q_7, .inl (D.2.2.1, 8, .inr (.inl (fun _ => 0)))), (q_8, .inl (D.2.1, 8, .inl (fun _ => 0))), (q_9, .inl (D.2.2.1, 128, .inr (.inl (fun _ => 0))))] := hD
  refine mw_putF (w1' := [(r, .inr (4, [.int 0, .int 0, .ref q_1, .ref q_2, .ref q_3, .ref q_4, .ref q_5, .ref q_6, .ref q_7, .ref q_8, .ref q_9, .null, .null, .null, .null, .null, .int 0, .int 0, .int 0])), (q_1, .inl (D.2.1, 8, .inl (fun _ => 0))), (q_2, .inl (D.2.1, 8, .inl (fun _ => 0))), (q_3, .inl (D.2.1, 48, .inl (fun _ => 0))), (q_4, .inl (D.2.1, 48, .inl (fun _ => 0))), (q_5, .inl (D.2.2.1, 48, .inr (.inl (fun _ => 0)))), (q_6, .inl (D.2.2.1, 8, .inr (.inl (fun _ => 0)))), (q_7, .inl (D.2.2.1, 8, .inr (.inl (fun _ => 0)))), (q_8, .inl (D.2.1, 8, .inl (fun _ => 0))), (q_9, .inl (D.2.2.1, 128, .inr (.inl (fun _ => 0))))]) G hnm hgf hP hD hS 0 rfl rfl inX5 tyX5_ok nmX5 10 (by decide) qw3_172 rfl rfl rfl rfl rfl (Nat.le_of_ble_eq_true rfl) rfl dX5_init_74 (fun H locs hP hD hS => ?_)
  refine lv_aload_n hx hb dX5_init_77 rfl (lv_at hl 0 rfl) ?_
  refine lv_bipush (v := 8) hx hb dX5_init_78 (by decide) ?_
  refine mw_newJ (N := 8) G hgf hP hD hS hA rfl (by decide) (Nat.le_of_ble_eq_true rfl) (Nat.le_of_ble_eq_true rfl) dX5_init_80 (fun q_10 H hP hD hS => ?_)
  have hP : va_P D.1 vwCl [(r, .inr (4, [.int 0, .int 0, .ref q_1, .ref q_2, .ref q_3, .ref q_4, .ref q_5, .ref q_6, .ref q_7, .ref q_8, .ref q_9, .null, .null, .null, .null, .null, .int 0, .int 0, .int 0])), (q_1, .inl (D.2.1, 8, .inl (fun _ => 0))), (q_2, .inl (D.2.1, 8, .inl (fun _ => 0))), (q_3, .inl (D.2.1, 48, .inl (fun _ => 0))), (q_4, .inl (D.2.1, 48, .inl (fun _ => 0))), (q_5, .inl (D.2.2.1, 48, .inr (.inl (fun _ => 0)))), (q_6, .inl (D.2.2.1, 8, .inr (.inl (fun _ => 0)))), (q_7, .inl (D.2.2.1, 8, .inr (.inl (fun _ => 0)))), (q_8, .inl (D.2.1, 8, .inl (fun _ => 0))), (q_9, .inl (D.2.2.1, 128, .inr (.inl (fun _ => 0)))), (q_10, .inl (D.2.2.1, 8, .inr (.inl (fun _ => 0))))] H := hP
  have hD : va_D A [(r, .inr (4, [.int 0, .int 0, .ref q_1, .ref q_2, .ref q_3, .ref q_4, .ref q_5, .ref q_6, .ref q_7, .ref q_8, .ref q_9, .null, .null, .null, .null, .null, .int 0, .int 0, .int 0])), (q_1, .inl (D.2.1, 8, .inl (fun _ => 0))), (q_2, .inl (D.2.1, 8, .inl (fun _ => 0))), (q_3, .inl (D.2.1, 48, .inl (fun _ => 0))), (q_4, .inl (D.2.1, 48, .inl (fun _ => 0))), (q_5, .inl (D.2.2.1, 48, .inr (.inl (fun _ => 0)))), (q_6, .inl (D.2.2.1, 8, .inr (.inl (fun _ => 0)))), (q_7, .inl (D.2.2.1, 8, .inr (.inl (fun _ => 0)))), (q_8, .inl (D.2.1, 8, .inl (fun _ => 0))), (q_9, .inl (D.2.2.1, 128, .inr (.inl (fun _ => 0)))), (q_10, .inl (D.2.2.1, 8, .inr (.inl (fun _ => 0))))] := hD
  refine mw_putF (w1' := [(r, .inr (4, [.int 0, .int 0, .ref q_1, .ref q_2, .ref q_3, .ref q_4, .ref q_5, .ref q_6, .ref q_7, .ref q_8, .ref q_9, .ref q_10, .null, .null, .null, .null, .int 0, .int 0, .int 0])), (q_1, .inl (D.2.1, 8, .inl (fun _ => 0))), (q_2, .inl (D.2.1, 8, .inl (fun _ => 0))), (q_3, .inl (D.2.1, 48, .inl (fun _ => 0))), (q_4, .inl (D.2.1, 48, .inl (fun _ => 0))), (q_5, .inl (D.2.2.1, 48, .inr (.inl (fun _ => 0)))), (q_6, .inl (D.2.2.1, 8, .inr (.inl (fun _ => 0)))), (q_7, .inl (D.2.2.1, 8, .inr (.inl (fun _ => 0)))), (q_8, .inl (D.2.1, 8, .inl (fun _ => 0))), (q_9, .inl (D.2.2.1, 128, .inr (.inl (fun _ => 0)))), (q_10, .inl (D.2.2.1, 8, .inr (.inl (fun _ => 0))))]) G hnm hgf hP hD hS 0 rfl rfl inX5 tyX5_ok nmX5 11 (by decide) qw3_173 rfl rfl rfl rfl rfl (Nat.le_of_ble_eq_true rfl) rfl dX5_init_82 (fun H locs hP hD hS => ?_)
  refine lv_aload_n hx hb dX5_init_85 rfl (lv_at hl 0 rfl) ?_
  refine lv_bipush (v := 8) hx hb dX5_init_86 (by decide) ?_
  refine mw_newJ (N := 8) G hgf hP hD hS hA rfl (by decide) (Nat.le_of_ble_eq_true rfl) (Nat.le_of_ble_eq_true rfl) dX5_init_88 (fun q_11 H hP hD hS => ?_)
  have hP : va_P D.1 vwCl [(r, .inr (4, [.int 0, .int 0, .ref q_1, .ref q_2, .ref q_3, .ref q_4, .ref q_5, .ref q_6, .ref q_7, .ref q_8, .ref q_9, .ref q_10, .null, .null, .null, .null, .int 0, .int 0, .int 0])), (q_1, .inl (D.2.1, 8, .inl (fun _ => 0))), (q_2, .inl (D.2.1, 8, .inl (fun _ => 0))), (q_3, .inl (D.2.1, 48, .inl (fun _ => 0))), (q_4, .inl (D.2.1, 48, .inl (fun _ => 0))), (q_5, .inl (D.2.2.1, 48, .inr (.inl (fun _ => 0)))), (q_6, .inl (D.2.2.1, 8, .inr (.inl (fun _ => 0)))), (q_7, .inl (D.2.2.1, 8, .inr (.inl (fun _ => 0)))), (q_8, .inl (D.2.1, 8, .inl (fun _ => 0))), (q_9, .inl (D.2.2.1, 128, .inr (.inl (fun _ => 0)))), (q_10, .inl (D.2.2.1, 8, .inr (.inl (fun _ => 0)))), (q_11, .inl (D.2.2.1, 8, .inr (.inl (fun _ => 0))))] H := hP
  have hD : va_D A [(r, .inr (4, [.int 0, .int 0, .ref q_1, .ref q_2, .ref q_3, .ref q_4, .ref q_5, .ref q_6, .ref q_7, .ref q_8, .ref q_9, .ref q_10, .null, .null, .null, .null, .int 0, .int 0, .int 0])), (q_1, .inl (D.2.1, 8, .inl (fun _ => 0))), (q_2, .inl (D.2.1, 8, .inl (fun _ => 0))), (q_3, .inl (D.2.1, 48, .inl (fun _ => 0))), (q_4, .inl (D.2.1, 48, .inl (fun _ => 0))), (q_5, .inl (D.2.2.1, 48, .inr (.inl (fun _ => 0)))), (q_6, .inl (D.2.2.1, 8, .inr (.inl (fun _ => 0)))), (q_7, .inl (D.2.2.1, 8, .inr (.inl (fun _ => 0)))), (q_8, .inl (D.2.1, 8, .inl (fun _ => 0))), (q_9, .inl (D.2.2.1, 128, .inr (.inl (fun _ => 0)))), (q_10, .inl (D.2.2.1, 8, .inr (.inl (fun _ => 0)))), (q_11, .inl (D.2.2.1, 8, .inr (.inl (fun _ => 0))))] := hD
  refine mw_putF (w1' := [(r, .inr (4, [.int 0, .int 0, .ref q_1, .ref q_2, .ref q_3, .ref q_4, .ref q_5, .ref q_6, .ref q_7, .ref q_8, .ref q_9, .ref q_10, .ref q_11, .null, .null, .null, .int 0, .int 0, .int 0])), (q_1, .inl (D.2.1, 8, .inl (fun _ => 0))), (q_2, .inl (D.2.1, 8, .inl (fun _ => 0))), (q_3, .inl (D.2.1, 48, .inl (fun _ => 0))), (q_4, .inl (D.2.1, 48, .inl (fun _ => 0))), (q_5, .inl (D.2.2.1, 48, .inr (.inl (fun _ => 0)))), (q_6, .inl (D.2.2.1, 8, .inr (.inl (fun _ => 0)))), (q_7, .inl (D.2.2.1, 8, .inr (.inl (fun _ => 0)))), (q_8, .inl (D.2.1, 8, .inl (fun _ => 0))), (q_9, .inl (D.2.2.1, 128, .inr (.inl (fun _ => 0)))), (q_10, .inl (D.2.2.1, 8, .inr (.inl (fun _ => 0)))), (q_11, .inl (D.2.2.1, 8, .inr (.inl (fun _ => 0))))]) G hnm hgf hP hD hS 0 rfl rfl inX5 tyX5_ok nmX5 12 (by decide) qw3_174 rfl rfl rfl rfl rfl (Nat.le_of_ble_eq_true rfl) rfl dX5_init_90 (fun H locs hP hD hS => ?_)
  refine lv_aload_n hx hb dX5_init_93 rfl (lv_at hl 0 rfl) ?_
  refine lv_bipush (v := 8) hx hb dX5_init_94 (by decide) ?_
  refine mw_newJ (N := 8) G hgf hP hD hS hA rfl (by decide) (Nat.le_of_ble_eq_true rfl) (Nat.le_of_ble_eq_true rfl) dX5_init_96 (fun q_12 H hP hD hS => ?_)
  have hP : va_P D.1 vwCl [(r, .inr (4, [.int 0, .int 0, .ref q_1, .ref q_2, .ref q_3, .ref q_4, .ref q_5, .ref q_6, .ref q_7, .ref q_8, .ref q_9, .ref q_10, .ref q_11, .null, .null, .null, .int 0, .int 0, .int 0])), (q_1, .inl (D.2.1, 8, .inl (fun _ => 0))), (q_2, .inl (D.2.1, 8, .inl (fun _ => 0))), (q_3, .inl (D.2.1, 48, .inl (fun _ => 0))), (q_4, .inl (D.2.1, 48, .inl (fun _ => 0))), (q_5, .inl (D.2.2.1, 48, .inr (.inl (fun _ => 0)))), (q_6, .inl (D.2.2.1, 8, .inr (.inl (fun _ => 0)))), (q_7, .inl (D.2.2.1, 8, .inr (.inl (fun _ => 0)))), (q_8, .inl (D.2.1, 8, .inl (fun _ => 0))), (q_9, .inl (D.2.2.1, 128, .inr (.inl (fun _ => 0)))), (q_10, .inl (D.2.2.1, 8, .inr (.inl (fun _ => 0)))), (q_11, .inl (D.2.2.1, 8, .inr (.inl (fun _ => 0)))), (q_12, .inl (D.2.2.1, 8, .inr (.inl (fun _ => 0))))] H := hP
  have hD : va_D A [(r, .inr (4, [.int 0, .int 0, .ref q_1, .ref q_2, .ref q_3, .ref q_4, .ref q_5, .ref q_6, .ref q_7, .ref q_8, .ref q_9, .ref q_10, .ref q_11, .null, .null, .null, .int 0, .int 0, .int 0])), (q_1, .inl (D.2.1, 8, .inl (fun _ => 0))), (q_2, .inl (D.2.1, 8, .inl (fun _ => 0))), (q_3, .inl (D.2.1, 48, .inl (fun _ => 0))), (q_4, .inl (D.2.1, 48, .inl (fun _ => 0))), (q_5, .inl (D.2.2.1, 48, .inr (.inl (fun _ => 0)))), (q_6, .inl (D.2.2.1, 8, .inr (.inl (fun _ => 0)))), (q_7, .inl (D.2.2.1, 8, .inr (.inl (fun _ => 0)))), (q_8, .inl (D.2.1, 8, .inl (fun _ => 0))), (q_9, .inl (D.2.2.1, 128, .inr (.inl (fun _ => 0)))), (q_10, .inl (D.2.2.1, 8, .inr (.inl (fun _ => 0)))), (q_11, .inl (D.2.2.1, 8, .inr (.inl (fun _ => 0)))), (q_12, .inl (D.2.2.1, 8, .inr (.inl (fun _ => 0))))] := hD
  refine mw_putF (w1' := [(r, .inr (4, [.int 0, .int 0, .ref q_1, .ref q_2, .ref q_3, .ref q_4, .ref q_5, .ref q_6, .ref q_7, .ref q_8, .ref q_9, .ref q_10, .ref q_11, .ref q_12, .null, .null, .int 0, .int 0, .int 0])), (q_1, .inl (D.2.1, 8, .inl (fun _ => 0))), (q_2, .inl (D.2.1, 8, .inl (fun _ => 0))), (q_3, .inl (D.2.1, 48, .inl (fun _ => 0))), (q_4, .inl (D.2.1, 48, .inl (fun _ => 0))), (q_5, .inl (D.2.2.1, 48, .inr (.inl (fun _ => 0)))), (q_6, .inl (D.2.2.1, 8, .inr (.inl (fun _ => 0)))), (q_7, .inl (D.2.2.1, 8, .inr (.inl (fun _ => 0)))), (q_8, .inl (D.2.1, 8, .inl (fun _ => 0))), (q_9, .inl (D.2.2.1, 128, .inr (.inl (fun _ => 0)))), (q_10, .inl (D.2.2.1, 8, .inr (.inl (fun _ => 0)))), (q_11, .inl (D.2.2.1, 8, .inr (.inl (fun _ => 0)))), (q_12, .inl (D.2.2.1, 8, .inr (.inl (fun _ => 0))))]) G hnm hgf hP hD hS 0 rfl rfl inX5 tyX5_ok nmX5 13 (by decide) qw3_175 rfl rfl rfl rfl rfl (Nat.le_of_ble_eq_true rfl) rfl dX5_init_98 (fun H locs hP hD hS => ?_)
  refine lv_aload_n hx hb dX5_init_101 rfl (lv_at hl 0 rfl) ?_
  refine lv_bipush (v := 8) hx hb dX5_init_102 (by decide) ?_
  refine mw_newJ (N := 8) G hgf hP hD hS hA rfl (by decide) (Nat.le_of_ble_eq_true rfl) (Nat.le_of_ble_eq_true rfl) dX5_init_104 (fun q_13 H hP hD hS => ?_)
  have hP : va_P D.1 vwCl [(r, .inr (4, [.int 0, .int 0, .ref q_1, .ref q_2, .ref q_3, .ref q_4, .ref q_5, .ref q_6, .ref q_7, .ref q_8, .ref q_9, .ref q_10, .ref q_11, .ref q_12, .null, .null, .int 0, .int 0, .int 0])), (q_1, .inl (D.2.1, 8, .inl (fun _ => 0))), (q_2, .inl (D.2.1, 8, .inl (fun _ => 0))), (q_3, .inl (D.2.1, 48, .inl (fun _ => 0))), (q_4, .inl (D.2.1, 48, .inl (fun _ => 0))), (q_5, .inl (D.2.2.1, 48, .inr (.inl (fun _ => 0)))), (q_6, .inl (D.2.2.1, 8, .inr (.inl (fun _ => 0)))), (q_7, .inl (D.2.2.1, 8, .inr (.inl (fun _ => 0)))), (q_8, .inl (D.2.1, 8, .inl (fun _ => 0))), (q_9, .inl (D.2.2.1, 128, .inr (.inl (fun _ => 0)))), (q_10, .inl (D.2.2.1, 8, .inr (.inl (fun _ => 0)))), (q_11, .inl (D.2.2.1, 8, .inr (.inl (fun _ => 0)))), (q_12, .inl (D.2.2.1, 8, .inr (.inl (fun _ => 0)))), (q_13, .inl (D.2.2.1, 8, .inr (.inl (fun _ => 0))))] H := hP
  have hD : va_D A [(r, .inr (4, [.int 0, .int 0, .ref q_1, .ref q_2, .ref q_3, .ref q_4, .ref q_5, .ref q_6, .ref q_7, .ref q_8, .ref q_9, .ref q_10, .ref q_11, .ref q_12, .null, .null, .int 0, .int 0, .int 0])), (q_1, .inl (D.2.1, 8, .inl (fun _ => 0))), (q_2, .inl (D.2.1, 8, .inl (fun _ => 0))), (q_3, .inl (D.2.1, 48, .inl (fun _ => 0))), (q_4, .inl (D.2.1, 48, .inl (fun _ => 0))), (q_5, .inl (D.2.2.1, 48, .inr (.inl (fun _ => 0)))), (q_6, .inl (D.2.2.1, 8, .inr (.inl (fun _ => 0)))), (q_7, .inl (D.2.2.1, 8, .inr (.inl (fun _ => 0)))), (q_8, .inl (D.2.1, 8, .inl (fun _ => 0))), (q_9, .inl (D.2.2.1, 128, .inr (.inl (fun _ => 0)))), (q_10, .inl (D.2.2.1, 8, .inr (.inl (fun _ => 0)))), (q_11, .inl (D.2.2.1, 8, .inr (.inl (fun _ => 0)))), (q_12, .inl (D.2.2.1, 8, .inr (.inl (fun _ => 0)))), (q_13, .inl (D.2.2.1, 8, .inr (.inl (fun _ => 0))))] := hD
  refine mw_putF (w1' := [(r, .inr (4, [.int 0, .int 0, .ref q_1, .ref q_2, .ref q_3, .ref q_4, .ref q_5, .ref q_6, .ref q_7, .ref q_8, .ref q_9, .ref q_10, .ref q_11, .ref q_12, .ref q_13, .null, .int 0, .int 0, .int 0])), (q_1, .inl (D.2.1, 8, .inl (fun _ => 0))), (q_2, .inl (D.2.1, 8, .inl (fun _ => 0))), (q_3, .inl (D.2.1, 48, .inl (fun _ => 0))), (q_4, .inl (D.2.1, 48, .inl (fun _ => 0))), (q_5, .inl (D.2.2.1, 48, .inr (.inl (fun _ => 0)))), (q_6, .inl (D.2.2.1, 8, .inr (.inl (fun _ => 0)))), (q_7, .inl (D.2.2.1, 8, .inr (.inl (fun _ => 0)))), (q_8, .inl (D.2.1, 8, .inl (fun _ => 0))), (q_9, .inl (D.2.2.1, 128, .inr (.inl (fun _ => 0)))), (q_10, .inl (D.2.2.1, 8, .inr (.inl (fun _ => 0)))), (q_11, .inl (D.2.2.1, 8, .inr (.inl (fun _ => 0)))), (q_12, .inl (D.2.2.1, 8, .inr (.inl (fun _ => 0)))), (q_13, .inl (D.2.2.1, 8, .inr (.inl (fun _ => 0))))]) G hnm hgf hP hD hS 0 rfl rfl inX5 tyX5_ok nmX5 14 (by decide) qw3_176 rfl rfl rfl rfl rfl (Nat.le_of_ble_eq_true rfl) rfl dX5_init_106 (fun H locs hP hD hS => ?_)
  refine lv_aload_n hx hb dX5_init_109 rfl (lv_at hl 0 rfl) ?_
  refine lv_bipush (v := 8) hx hb dX5_init_110 (by decide) ?_
  refine mw_newI (N := 8) G hgf hP hD hS hA rfl (by decide) (Nat.le_of_ble_eq_true rfl) (Nat.le_of_ble_eq_true rfl) dX5_init_112 (fun q_14 H hP hD hS => ?_)
  have hP : va_P D.1 vwCl [(r, .inr (4, [.int 0, .int 0, .ref q_1, .ref q_2, .ref q_3, .ref q_4, .ref q_5, .ref q_6, .ref q_7, .ref q_8, .ref q_9, .ref q_10, .ref q_11, .ref q_12, .ref q_13, .null, .int 0, .int 0, .int 0])), (q_1, .inl (D.2.1, 8, .inl (fun _ => 0))), (q_2, .inl (D.2.1, 8, .inl (fun _ => 0))), (q_3, .inl (D.2.1, 48, .inl (fun _ => 0))), (q_4, .inl (D.2.1, 48, .inl (fun _ => 0))), (q_5, .inl (D.2.2.1, 48, .inr (.inl (fun _ => 0)))), (q_6, .inl (D.2.2.1, 8, .inr (.inl (fun _ => 0)))), (q_7, .inl (D.2.2.1, 8, .inr (.inl (fun _ => 0)))), (q_8, .inl (D.2.1, 8, .inl (fun _ => 0))), (q_9, .inl (D.2.2.1, 128, .inr (.inl (fun _ => 0)))), (q_10, .inl (D.2.2.1, 8, .inr (.inl (fun _ => 0)))), (q_11, .inl (D.2.2.1, 8, .inr (.inl (fun _ => 0)))), (q_12, .inl (D.2.2.1, 8, .inr (.inl (fun _ => 0)))), (q_13, .inl (D.2.2.1, 8, .inr (.inl (fun _ => 0)))), (q_14, .inl (D.2.1, 8, .inl (fun _ => 0)))] H := hP
  have hD : va_D A [(r, .inr (4, [.int 0, .int 0, .ref q_1, .ref q_2, .ref q_3, .ref q_4, .ref q_5, .ref q_6, .ref q_7, .ref q_8, .ref q_9, .ref q_10, .ref q_11, .ref q_12, .ref q_13, .null, .int 0, .int 0, .int 0])), (q_1, .inl (D.2.1, 8, .inl (fun _ => 0))), (q_2, .inl (D.2.1, 8, .inl (fun _ => 0))), (q_3, .inl (D.2.1, 48, .inl (fun _ => 0))), (q_4, .inl (D.2.1, 48, .inl (fun _ => 0))), (q_5, .inl (D.2.2.1, 48, .inr (.inl (fun _ => 0)))), (q_6, .inl (D.2.2.1, 8, .inr (.inl (fun _ => 0)))), (q_7, .inl (D.2.2.1, 8, .inr (.inl (fun _ => 0)))), (q_8, .inl (D.2.1, 8, .inl (fun _ => 0))), (q_9, .inl (D.2.2.1, 128, .inr (.inl (fun _ => 0)))), (q_10, .inl (D.2.2.1, 8, .inr (.inl (fun _ => 0)))), (q_11, .inl (D.2.2.1, 8, .inr (.inl (fun _ => 0)))), (q_12, .inl (D.2.2.1, 8, .inr (.inl (fun _ => 0)))), (q_13, .inl (D.2.2.1, 8, .inr (.inl (fun _ => 0)))), (q_14, .inl (D.2.1, 8, .inl (fun _ => 0)))] := hD
  refine mw_putF (w1' := [(r, .inr (4, [.int 0, .int 0, .ref q_1, .ref q_2, .ref q_3, .ref q_4, .ref q_5, .ref q_6, .ref q_7, .ref q_8, .ref q_9, .ref q_10, .ref q_11, .ref q_12, .ref q_13, .ref q_14, .int 0, .int 0, .int 0])), (q_1, .inl (D.2.1, 8, .inl (fun _ => 0))), (q_2, .inl (D.2.1, 8, .inl (fun _ => 0))), (q_3, .inl (D.2.1, 48, .inl (fun _ => 0))), (q_4, .inl (D.2.1, 48, .inl (fun _ => 0))), (q_5, .inl (D.2.2.1, 48, .inr (.inl (fun _ => 0)))), (q_6, .inl (D.2.2.1, 8, .inr (.inl (fun _ => 0)))), (q_7, .inl (D.2.2.1, 8, .inr (.inl (fun _ => 0)))), (q_8, .inl (D.2.1, 8, .inl (fun _ => 0))), (q_9, .inl (D.2.2.1, 128, .inr (.inl (fun _ => 0)))), (q_10, .inl (D.2.2.1, 8, .inr (.inl (fun _ => 0)))), (q_11, .inl (D.2.2.1, 8, .inr (.inl (fun _ => 0)))), (q_12, .inl (D.2.2.1, 8, .inr (.inl (fun _ => 0)))), (q_13, .inl (D.2.2.1, 8, .inr (.inl (fun _ => 0)))), (q_14, .inl (D.2.1, 8, .inl (fun _ => 0)))]) G hnm hgf hP hD hS 0 rfl rfl inX5 tyX5_ok nmX5 15 (by decide) qw3_177 rfl rfl rfl rfl rfl (Nat.le_of_ble_eq_true rfl) rfl dX5_init_114 (fun H locs hP hD hS => ?_)
  exact mE_vret (fun i => [q_1, q_2, q_3, q_4, q_5, q_6, q_7, q_8, q_9, q_10, q_11, q_12, q_13, q_14].getD i 0) rfl hx hb hr hlocks hP hD hS dX5_init_117
set_option maxRecDepth 100000 in
set_option maxHeartbeats 4000000 in
theorem ceX2_init_f (l : Launch) (D : mG) (o : Nat) (wd la : Int32) (lo hi : Int64) : cE l D yX2_init cX2_init 7 none { frames := 1, cells := 0, slots := 0, locals := 42 } [(o, .inr (0, [.long 0, .long 0, .int 0, .int 0, .int 0, .long 0, .long 0, .int 0, .long 0, .long 0, .long 0]))] [.ref o, .int wd, .int la, .long lo, .long hi] (S := Unit) (fun _ => none) (fun _ => [(o, .inr (0, [.long lo, .long hi, .int wd, .int la, .int 0, .long 0, .long 0, .int 0, .long 0, .long 0, .long 0]))]) := by
  refine cE_of (by decide) (Nat.le_of_ble_eq_true rfl) ?_
  intro p e s m below meth c ls A hx hb hr hlocks G hnm hgf hA hP hD hS hl
  have hl : lv_has ls 7 [(0, .ref o), (1, .int wd), (2, .int la), (3, .long lo), (5, .long hi)] := hl
  refine lv_aload_n hx hb dX2_init_0 rfl (lv_at hl 0 rfl) ?_
  refine mw_obj G qw1_160 hl.1 (Nat.le_of_ble_eq_true rfl) (Nat.le_of_ble_eq_true rfl) dX2_init_1 ?_
  refine lv_aload_n hx hb dX2_init_4 rfl (lv_at hl 0 rfl) ?_
  refine lv_iload_n hx hb dX2_init_5 rfl (lv_at hl 1 rfl) ?_
  refine mw_putF (w1' := [(o, .inr (0, [.long 0, .long 0, .int wd, .int 0, .int 0, .long 0, .long 0, .int 0, .long 0, .long 0, .long 0]))]) G hnm hgf hP hD hS 0 rfl rfl inX0 tyX0_ok nmX0 2 (by decide) qw1_165 rfl rfl rfl rfl rfl (Nat.le_of_ble_eq_true rfl) rfl dX2_init_6 (fun H locs hP hD hS => ?_)
  refine lv_aload_n hx hb dX2_init_9 rfl (lv_at hl 0 rfl) ?_
  refine lv_iload_n hx hb dX2_init_10 rfl (lv_at hl 2 rfl) ?_
  refine mw_putF (w1' := [(o, .inr (0, [.long 0, .long 0, .int wd, .int la, .int 0, .long 0, .long 0, .int 0, .long 0, .long 0, .long 0]))]) G hnm hgf hP hD hS 0 rfl rfl inX0 tyX0_ok nmX0 3 (by decide) qw1_166 rfl rfl rfl rfl rfl (Nat.le_of_ble_eq_true rfl) rfl dX2_init_11 (fun H locs hP hD hS => ?_)
  refine lv_aload_n hx hb dX2_init_14 rfl (lv_at hl 0 rfl) ?_
  refine lv_lload_n hx hb dX2_init_15 rfl (lv_at hl 3 rfl) ?_
  refine mw_putF (w1' := [(o, .inr (0, [.long lo, .long 0, .int wd, .int la, .int 0, .long 0, .long 0, .int 0, .long 0, .long 0, .long 0]))]) G hnm hgf hP hD hS 0 rfl rfl inX0 tyX0_ok nmX0 0 (by decide) qw1_161 rfl rfl rfl rfl rfl (Nat.le_of_ble_eq_true rfl) rfl dX2_init_16 (fun H locs hP hD hS => ?_)
  refine lv_aload_n hx hb dX2_init_19 rfl (lv_at hl 0 rfl) ?_
  refine lv_lload hx hb dX2_init_20 (lv_at hl 4 rfl) ?_
  refine mw_putF (w1' := [(o, .inr (0, [.long lo, .long hi, .int wd, .int la, .int 0, .long 0, .long 0, .int 0, .long 0, .long 0, .long 0]))]) G hnm hgf hP hD hS 0 rfl rfl inX0 tyX0_ok nmX0 1 (by decide) qw1_163 rfl rfl rfl rfl rfl (Nat.le_of_ble_eq_true rfl) rfl dX2_init_22 (fun H locs hP hD hS => ?_)
  exact mE_vret (()) rfl hx hb hr hlocks hP hD hS dX2_init_25
set_option maxRecDepth 100000 in
set_option maxHeartbeats 4000000 in
theorem ceX2_init_w (l : Launch) (D : mG) (o : Nat) (wd la : Int32) (lo hi : Int64) : cE l D yX2_init cX2_init 7 none { frames := 1, cells := 0, slots := 0, locals := 42 } [(o, .inr (2, [.long 0, .long 0, .int 0, .int 0]))] [.ref o, .int wd, .int la, .long lo, .long hi] (S := Unit) (fun _ => none) (fun _ => [(o, .inr (2, [.long lo, .long hi, .int wd, .int la]))]) := by
  refine cE_of (by decide) (Nat.le_of_ble_eq_true rfl) ?_
  intro p e s m below meth c ls A hx hb hr hlocks G hnm hgf hA hP hD hS hl
  have hl : lv_has ls 7 [(0, .ref o), (1, .int wd), (2, .int la), (3, .long lo), (5, .long hi)] := hl
  refine lv_aload_n hx hb dX2_init_0 rfl (lv_at hl 0 rfl) ?_
  refine mw_obj G qw1_160 hl.1 (Nat.le_of_ble_eq_true rfl) (Nat.le_of_ble_eq_true rfl) dX2_init_1 ?_
  refine lv_aload_n hx hb dX2_init_4 rfl (lv_at hl 0 rfl) ?_
  refine lv_iload_n hx hb dX2_init_5 rfl (lv_at hl 1 rfl) ?_
  refine mw_putF (w1' := [(o, .inr (2, [.long 0, .long 0, .int wd, .int 0]))]) G hnm hgf hP hD hS 0 rfl rfl inX3 tyX3_ok nmX3 2 (by decide) qw1_165 rfl rfl rfl rfl rfl (Nat.le_of_ble_eq_true rfl) rfl dX2_init_6 (fun H locs hP hD hS => ?_)
  refine lv_aload_n hx hb dX2_init_9 rfl (lv_at hl 0 rfl) ?_
  refine lv_iload_n hx hb dX2_init_10 rfl (lv_at hl 2 rfl) ?_
  refine mw_putF (w1' := [(o, .inr (2, [.long 0, .long 0, .int wd, .int la]))]) G hnm hgf hP hD hS 0 rfl rfl inX3 tyX3_ok nmX3 3 (by decide) qw1_166 rfl rfl rfl rfl rfl (Nat.le_of_ble_eq_true rfl) rfl dX2_init_11 (fun H locs hP hD hS => ?_)
  refine lv_aload_n hx hb dX2_init_14 rfl (lv_at hl 0 rfl) ?_
  refine lv_lload_n hx hb dX2_init_15 rfl (lv_at hl 3 rfl) ?_
  refine mw_putF (w1' := [(o, .inr (2, [.long lo, .long 0, .int wd, .int la]))]) G hnm hgf hP hD hS 0 rfl rfl inX3 tyX3_ok nmX3 0 (by decide) qw1_161 rfl rfl rfl rfl rfl (Nat.le_of_ble_eq_true rfl) rfl dX2_init_16 (fun H locs hP hD hS => ?_)
  refine lv_aload_n hx hb dX2_init_19 rfl (lv_at hl 0 rfl) ?_
  refine lv_lload hx hb dX2_init_20 (lv_at hl 4 rfl) ?_
  refine mw_putF (w1' := [(o, .inr (2, [.long lo, .long hi, .int wd, .int la]))]) G hnm hgf hP hD hS 0 rfl rfl inX3 tyX3_ok nmX3 1 (by decide) qw1_163 rfl rfl rfl rfl rfl (Nat.le_of_ble_eq_true rfl) rfl dX2_init_22 (fun H locs hP hD hS => ?_)
  exact mE_vret (()) rfl hx hb hr hlocks hP hD hS dX2_init_25
theorem x0a (z : Bool) : jshl (-1) ((fwd z) - 1) = fsm z := by cases z <;> decide
theorem x0b (z : Bool) : fX0_infinityOf (fwd z) (ffb z) = finf z := by cases z <;> decide
theorem x0c (z : Bool) : (fsm z) ||| (finf z) = flo z := by cases z <;> decide
theorem x0d (z : Bool) : ((jushr (finf z) (ffb z)).toInt32) >>> (1 &&& 31) = fbi z := by cases z <;> decide
theorem x0e (z : Bool) : jshl ((fbi z).toInt64) (ffb z) = fon z := by cases z <;> decide
theorem x0f (z : Bool) : jshl (((fbi z) - 1).toInt64) (ffb z) = fhf z := by cases z <;> decide
theorem x0g (z : Bool) : jshl 1 (ffb z) = fhi z := by cases z <;> decide
theorem x3a (z : Bool) : jshl (-1) ((fwd z) - 1) = wlo z := by cases z <;> decide
theorem x3b (z : Bool) : (wlo z) ^^^ (-1) = whi z := by cases z <;> decide
set_option maxRecDepth 100000 in
set_option maxHeartbeats 4000000 in
theorem ceX0_init (l : Launch) (D : mG) (o : Nat) (z : Bool) : cE l D yX0_init cX0_init 3 none { frames := 2, cells := 0, slots := 0, locals := 84 } [(o, .inr (0, [.long 0, .long 0, .int 0, .int 0, .int 0, .long 0, .long 0, .int 0, .long 0, .long 0, .long 0]))] [.ref o, .int (fwd z), .int (ffb z)] (S := Unit) (fun _ => none) (fun _ => [(o, .inr (0, flF z))]) := by
  refine cE_of (by decide) (Nat.le_of_ble_eq_true rfl) ?_
  intro p e s m below meth c ls A hx hb hr hlocks G hnm hgf hA hP hD hS hl
  have hl : lv_has ls 3 [(0, .ref o), (1, .int (fwd z)), (2, .int (ffb z))] := hl
  refine lv_aload_n hx hb dX0_init_0 rfl (lv_at hl 0 rfl) ?_
  refine lv_iload_n hx hb dX0_init_1 rfl (lv_at hl 1 rfl) ?_
  refine lv_bipush (v := 7) hx hb dX0_init_2 (by decide) ?_
  refine lv_ldc2 (v := (-1)) hx hb G.2.2.2.1 (G.2.2.2.2 _ qw1_181) dX0_init_4 ?_
  refine lv_iload_n hx hb dX0_init_7 rfl (lv_at hl 1 rfl) ?_
  refine lv_iconst (v := 1) hx hb dX0_init_8 (by decide) ?_
  refine lv_isub hx hb dX0_init_9 ?_
  refine lv_lshl (v := jshl (-1) ((fwd z) - 1)) hx hb dX0_init_10 rfl ?_
  rw [show jshl (-1) ((fwd z) - 1) = fsm z from x0a z]
  refine lv_iload_n hx hb dX0_init_11 rfl (lv_at hl 1 rfl) ?_
  refine lv_iload_n hx hb dX0_init_12 rfl (lv_at hl 2 rfl) ?_
  refine kS G (cvX0_infinityOf l D (fwd z) (ffb z)) okX0_infinityOf hgf trivial qw1_182 ⟨Nat.le_of_ble_eq_true rfl, Nat.le_of_ble_eq_true rfl⟩ ⟨(Nat.le_of_ble_eq_true rfl), (Nat.le_of_ble_eq_true rfl)⟩ hl.1 (Nat.le_of_ble_eq_true rfl) rfl dX0_init_13 ?_
  rw [show fX0_infinityOf (fwd z) (ffb z) = finf z from x0b z]
  refine lv_lor hx hb dX0_init_16 ?_
  rw [show (fsm z) ||| (finf z) = flo z from x0c z]
  refine lv_iload_n hx hb dX0_init_17 rfl (lv_at hl 1 rfl) ?_
  refine lv_iload_n hx hb dX0_init_18 rfl (lv_at hl 2 rfl) ?_
  refine kS G (cvX0_infinityOf l D (fwd z) (ffb z)) okX0_infinityOf hgf trivial qw1_182 ⟨Nat.le_of_ble_eq_true rfl, Nat.le_of_ble_eq_true rfl⟩ ⟨(Nat.le_of_ble_eq_true rfl), (Nat.le_of_ble_eq_true rfl)⟩ hl.1 (Nat.le_of_ble_eq_true rfl) rfl dX0_init_19 ?_
  rw [show fX0_infinityOf (fwd z) (ffb z) = finf z from x0b z]
  refine kEI (wr := []) G (ceX2_init_f l D o (fwd z) 7 (flo z) (finf z)) okI_X2_init hgf hP hD hS hA [0] [] rfl rfl rfl rfl (by decide) qw1_185 ⟨Nat.le_of_ble_eq_true rfl, Nat.le_of_ble_eq_true rfl⟩ ⟨(Nat.le_of_ble_eq_true rfl), (Nat.le_of_ble_eq_true rfl)⟩ hl.1 (Nat.le_of_ble_eq_true rfl) rfl dX0_init_22 (fun _ H locs hP hD hS => ?_)
  have hP : va_P D.1 vwCl [(o, .inr (0, [.long (flo z), .long (finf z), .int (fwd z), .int 7, .int 0, .long 0, .long 0, .int 0, .long 0, .long 0, .long 0]))] H := hP
  have hD : va_D A [(o, .inr (0, [.long (flo z), .long (finf z), .int (fwd z), .int 7, .int 0, .long 0, .long 0, .int 0, .long 0, .long 0, .long 0]))] := hD
  refine lv_aload_n hx hb dX0_init_25 rfl (lv_at hl 0 rfl) ?_
  refine lv_iload_n hx hb dX0_init_26 rfl (lv_at hl 2 rfl) ?_
  refine mw_putF (w1' := [(o, .inr (0, [.long (flo z), .long (finf z), .int (fwd z), .int 7, .int (ffb z), .long 0, .long 0, .int 0, .long 0, .long 0, .long 0]))]) G hnm hgf hP hD hS 0 rfl rfl inX0 tyX0_ok nmX0 4 (by decide) qw1_186 rfl rfl rfl rfl rfl (Nat.le_of_ble_eq_true rfl) rfl dX0_init_27 (fun H locs hP hD hS => ?_)
  refine lv_aload_n hx hb dX0_init_30 rfl (lv_at hl 0 rfl) ?_
  refine lv_ldc2 (v := (-1)) hx hb G.2.2.2.1 (G.2.2.2.2 _ qw1_181) dX0_init_31 ?_
  refine lv_iload_n hx hb dX0_init_34 rfl (lv_at hl 1 rfl) ?_
  refine lv_iconst (v := 1) hx hb dX0_init_35 (by decide) ?_
  refine lv_isub hx hb dX0_init_36 ?_
  refine lv_lshl (v := jshl (-1) ((fwd z) - 1)) hx hb dX0_init_37 rfl ?_
  rw [show jshl (-1) ((fwd z) - 1) = fsm z from x0a z]
  refine mw_putF (w1' := [(o, .inr (0, [.long (flo z), .long (finf z), .int (fwd z), .int 7, .int (ffb z), .long (fsm z), .long 0, .int 0, .long 0, .long 0, .long 0]))]) G hnm hgf hP hD hS 0 rfl rfl inX0 tyX0_ok nmX0 5 (by decide) qw1_187 rfl rfl rfl rfl rfl (Nat.le_of_ble_eq_true rfl) rfl dX0_init_38 (fun H locs hP hD hS => ?_)
  refine lv_aload_n hx hb dX0_init_41 rfl (lv_at hl 0 rfl) ?_
  refine lv_iload_n hx hb dX0_init_42 rfl (lv_at hl 1 rfl) ?_
  refine lv_iload_n hx hb dX0_init_43 rfl (lv_at hl 2 rfl) ?_
  refine kS G (cvX0_infinityOf l D (fwd z) (ffb z)) okX0_infinityOf hgf trivial qw1_182 ⟨Nat.le_of_ble_eq_true rfl, Nat.le_of_ble_eq_true rfl⟩ ⟨(Nat.le_of_ble_eq_true rfl), (Nat.le_of_ble_eq_true rfl)⟩ hl.1 (Nat.le_of_ble_eq_true rfl) rfl dX0_init_44 ?_
  rw [show fX0_infinityOf (fwd z) (ffb z) = finf z from x0b z]
  refine mw_putF (w1' := [(o, .inr (0, [.long (flo z), .long (finf z), .int (fwd z), .int 7, .int (ffb z), .long (fsm z), .long (finf z), .int 0, .long 0, .long 0, .long 0]))]) G hnm hgf hP hD hS 0 rfl rfl inX0 tyX0_ok nmX0 6 (by decide) qw1_188 rfl rfl rfl rfl rfl (Nat.le_of_ble_eq_true rfl) rfl dX0_init_47 (fun H locs hP hD hS => ?_)
  refine lv_aload_n hx hb dX0_init_50 rfl (lv_at hl 0 rfl) ?_
  refine lv_aload_n hx hb dX0_init_51 rfl (lv_at hl 0 rfl) ?_
  refine mw_get G hgf (hP 0 _ rfl) rfl inX0 6 (by decide) qw1_188 rfl dX0_init_52 ?_
  refine lv_iload_n hx hb dX0_init_55 rfl (lv_at hl 2 rfl) ?_
  refine lv_lushr (v := jushr (finf z) (ffb z)) hx hb dX0_init_56 rfl ?_
  refine lv_l2i hx hb dX0_init_57 rfl ?_
  refine lv_iconst (v := 1) hx hb dX0_init_58 (by decide) ?_
  refine lv_ishr hx hb dX0_init_59 ?_
  rw [show ((jushr (finf z) (ffb z)).toInt32) >>> (1 &&& 31) = fbi z from x0d z]
  refine mw_putF (w1' := [(o, .inr (0, [.long (flo z), .long (finf z), .int (fwd z), .int 7, .int (ffb z), .long (fsm z), .long (finf z), .int (fbi z), .long 0, .long 0, .long 0]))]) G hnm hgf hP hD hS 0 rfl rfl inX0 tyX0_ok nmX0 7 (by decide) qw1_189 rfl rfl rfl rfl rfl (Nat.le_of_ble_eq_true rfl) rfl dX0_init_60 (fun H locs hP hD hS => ?_)
  refine lv_aload_n hx hb dX0_init_63 rfl (lv_at hl 0 rfl) ?_
  refine lv_aload_n hx hb dX0_init_64 rfl (lv_at hl 0 rfl) ?_
  refine mw_get G hgf (hP 0 _ rfl) rfl inX0 7 (by decide) qw1_189 rfl dX0_init_65 ?_
  refine lv_i2l hx hb dX0_init_68 rfl ?_
  refine lv_iload_n hx hb dX0_init_69 rfl (lv_at hl 2 rfl) ?_
  refine lv_lshl (v := jshl ((fbi z).toInt64) (ffb z)) hx hb dX0_init_70 rfl ?_
  rw [show jshl ((fbi z).toInt64) (ffb z) = fon z from x0e z]
  refine mw_putF (w1' := [(o, .inr (0, [.long (flo z), .long (finf z), .int (fwd z), .int 7, .int (ffb z), .long (fsm z), .long (finf z), .int (fbi z), .long (fon z), .long 0, .long 0]))]) G hnm hgf hP hD hS 0 rfl rfl inX0 tyX0_ok nmX0 8 (by decide) qw1_190 rfl rfl rfl rfl rfl (Nat.le_of_ble_eq_true rfl) rfl dX0_init_71 (fun H locs hP hD hS => ?_)
  refine lv_aload_n hx hb dX0_init_74 rfl (lv_at hl 0 rfl) ?_
  refine lv_aload_n hx hb dX0_init_75 rfl (lv_at hl 0 rfl) ?_
  refine mw_get G hgf (hP 0 _ rfl) rfl inX0 7 (by decide) qw1_189 rfl dX0_init_76 ?_
  refine lv_iconst (v := 1) hx hb dX0_init_79 (by decide) ?_
  refine lv_isub hx hb dX0_init_80 ?_
  refine lv_i2l hx hb dX0_init_81 rfl ?_
  refine lv_iload_n hx hb dX0_init_82 rfl (lv_at hl 2 rfl) ?_
  refine lv_lshl (v := jshl (((fbi z) - 1).toInt64) (ffb z)) hx hb dX0_init_83 rfl ?_
  rw [show jshl (((fbi z) - 1).toInt64) (ffb z) = fhf z from x0f z]
  refine mw_putF (w1' := [(o, .inr (0, [.long (flo z), .long (finf z), .int (fwd z), .int 7, .int (ffb z), .long (fsm z), .long (finf z), .int (fbi z), .long (fon z), .long (fhf z), .long 0]))]) G hnm hgf hP hD hS 0 rfl rfl inX0 tyX0_ok nmX0 9 (by decide) qw1_191 rfl rfl rfl rfl rfl (Nat.le_of_ble_eq_true rfl) rfl dX0_init_84 (fun H locs hP hD hS => ?_)
  refine lv_aload_n hx hb dX0_init_87 rfl (lv_at hl 0 rfl) ?_
  refine lv_lconst (v := 1) hx hb dX0_init_88 (by decide) ?_
  refine lv_iload_n hx hb dX0_init_89 rfl (lv_at hl 2 rfl) ?_
  refine lv_lshl (v := jshl 1 (ffb z)) hx hb dX0_init_90 rfl ?_
  rw [show jshl 1 (ffb z) = fhi z from x0g z]
  refine mw_putF (w1' := [(o, .inr (0, [.long (flo z), .long (finf z), .int (fwd z), .int 7, .int (ffb z), .long (fsm z), .long (finf z), .int (fbi z), .long (fon z), .long (fhf z), .long (fhi z)]))]) G hnm hgf hP hD hS 0 rfl rfl inX0 tyX0_ok nmX0 10 (by decide) qw1_192 rfl rfl rfl rfl rfl (Nat.le_of_ble_eq_true rfl) rfl dX0_init_91 (fun H locs hP hD hS => ?_)
  exact mE_vret (()) rfl hx hb hr hlocks hP hD hS dX0_init_94
set_option maxRecDepth 100000 in
set_option maxHeartbeats 4000000 in
theorem ceX3_init (l : Launch) (D : mG) (o : Nat) (z : Bool) : cE l D yX3_init cX3_init 2 none { frames := 2, cells := 0, slots := 0, locals := 84 } [(o, .inr (2, [.long 0, .long 0, .int 0, .int 0]))] [.ref o, .int (fwd z)] (S := Unit) (fun _ => none) (fun _ => [(o, .inr (2, wrF z))]) := by
  refine cE_of (by decide) (Nat.le_of_ble_eq_true rfl) ?_
  intro p e s m below meth c ls A hx hb hr hlocks G hnm hgf hA hP hD hS hl
  have hl : lv_has ls 2 [(0, .ref o), (1, .int (fwd z))] := hl
  refine lv_aload_n hx hb dX3_init_0 rfl (lv_at hl 0 rfl) ?_
  refine lv_iload_n hx hb dX3_init_1 rfl (lv_at hl 1 rfl) ?_
  refine lv_iconst (v := 2) hx hb dX3_init_2 (by decide) ?_
  refine lv_ldc2 (v := (-1)) hx hb G.2.2.2.1 (G.2.2.2.2 _ qw1_156) dX3_init_3 ?_
  refine lv_iload_n hx hb dX3_init_6 rfl (lv_at hl 1 rfl) ?_
  refine lv_iconst (v := 1) hx hb dX3_init_7 (by decide) ?_
  refine lv_isub hx hb dX3_init_8 ?_
  refine lv_lshl (v := jshl (-1) ((fwd z) - 1)) hx hb dX3_init_9 rfl ?_
  rw [show jshl (-1) ((fwd z) - 1) = wlo z from x3a z]
  refine lv_ldc2 (v := (-1)) hx hb G.2.2.2.1 (G.2.2.2.2 _ qw1_156) dX3_init_10 ?_
  refine lv_iload_n hx hb dX3_init_13 rfl (lv_at hl 1 rfl) ?_
  refine lv_iconst (v := 1) hx hb dX3_init_14 (by decide) ?_
  refine lv_isub hx hb dX3_init_15 ?_
  refine lv_lshl (v := jshl (-1) ((fwd z) - 1)) hx hb dX3_init_16 rfl ?_
  rw [show jshl (-1) ((fwd z) - 1) = wlo z from x3a z]
  refine lv_ldc2 (v := (-1)) hx hb G.2.2.2.1 (G.2.2.2.2 _ qw1_156) dX3_init_17 ?_
  refine lv_lxor hx hb dX3_init_20 ?_
  rw [show (wlo z) ^^^ (-1) = whi z from x3b z]
  refine kEI (wr := []) G (ceX2_init_w l D o (fwd z) 2 (wlo z) (whi z)) okI_X2_init hgf hP hD hS hA [0] [] rfl rfl rfl rfl (by decide) qw1_157 ⟨Nat.le_of_ble_eq_true rfl, Nat.le_of_ble_eq_true rfl⟩ ⟨(Nat.le_of_ble_eq_true rfl), (Nat.le_of_ble_eq_true rfl)⟩ hl.1 (Nat.le_of_ble_eq_true rfl) rfl dX3_init_21 (fun _ H locs hP hD hS => ?_)
  have hP : va_P D.1 vwCl [(o, .inr (2, [.long (wlo z), .long (whi z), .int (fwd z), .int 2]))] H := hP
  have hD : va_D A [(o, .inr (2, [.long (wlo z), .long (whi z), .int (fwd z), .int 2]))] := hD
  exact mE_vret (()) rfl hx hb hr hlocks hP hD hS dX3_init_24
set_option maxRecDepth 100000 in
set_option maxHeartbeats 4000000 in
theorem ceX1_init_f (l : Launch) (D : mG) (o nb : Nat) (z : Bool) (so : Int32) : cE l D yX1_init cX1_init 3 none { frames := 1, cells := 4, slots := 34, locals := 42 } [(o, .inr (1, [.int 0, .null, .long 0, .long 0, .int 0, .int 0, .long 0, .long 0, .long 0, .long 0, .null, .null, .null, .null, .int 0])), (nb, .inr (0, flF z))] [.ref o, .int so, .ref nb] (S := Nat → Nat) (fun _ => none) (fun u => [(o, .inr (1, [.int so, .ref nb, .long (flo z), .long (finf z), .int 0, .int 0, .long 0, .long 0, .long 0, .long 0, .ref (u 0), .ref (u 1), .ref (u 2), .ref (u 3), .int 0])), (nb, .inr (0, flF z)), (u 0, .inl (D.2.1, 6, .inl (fun _ => 0))), (u 1, .inl (D.2.2.1, 6, .inr (.inl (fun _ => 0)))), (u 2, .inl (D.2.2.2, 6, .inr (.inr (.inr (.inr (fun _ => none)))))), (u 3, .inl (D.2.2.1, 16, .inr (.inl (fun _ => 0))))]) := by
  refine cE_of (by decide) (Nat.le_of_ble_eq_true rfl) ?_
  intro p e s m below meth c ls A hx hb hr hlocks G hnm hgf hA hP hD hS hl
  have hl : lv_has ls 3 [(0, .ref o), (1, .int so), (2, .ref nb)] := hl
  refine lv_aload_n hx hb dX1_init_0 rfl (lv_at hl 0 rfl) ?_
  refine mw_obj G qw1_215 hl.1 (Nat.le_of_ble_eq_true rfl) (Nat.le_of_ble_eq_true rfl) dX1_init_1 ?_
  refine lv_aload_n hx hb dX1_init_4 rfl (lv_at hl 0 rfl) ?_
  refine lv_iload_n hx hb dX1_init_5 rfl (lv_at hl 1 rfl) ?_
  refine mw_putF (w1' := [(o, .inr (1, [.int so, .null, .long 0, .long 0, .int 0, .int 0, .long 0, .long 0, .long 0, .long 0, .null, .null, .null, .null, .int 0])), (nb, .inr (0, flF z))]) G hnm hgf hP hD hS 0 rfl rfl inX1 tyX1_ok nmX1 0 (by decide) qw1_217 rfl rfl rfl rfl rfl (Nat.le_of_ble_eq_true rfl) rfl dX1_init_6 (fun H locs hP hD hS => ?_)
  refine lv_aload_n hx hb dX1_init_9 rfl (lv_at hl 0 rfl) ?_
  refine lv_aload_n hx hb dX1_init_10 rfl (lv_at hl 2 rfl) ?_
  refine mw_putF (w1' := [(o, .inr (1, [.int so, .ref nb, .long 0, .long 0, .int 0, .int 0, .long 0, .long 0, .long 0, .long 0, .null, .null, .null, .null, .int 0])), (nb, .inr (0, flF z))]) G hnm hgf hP hD hS 0 rfl rfl inX1 tyX1_ok nmX1 1 (by decide) qw1_219 rfl rfl rfl rfl rfl (Nat.le_of_ble_eq_true rfl) rfl dX1_init_11 (fun H locs hP hD hS => ?_)
  refine lv_aload_n hx hb dX1_init_14 rfl (lv_at hl 0 rfl) ?_
  refine lv_aload_n hx hb dX1_init_15 rfl (lv_at hl 2 rfl) ?_
  refine mw_get G hgf (hP 1 _ rfl) rfl inX0 0 (by decide) qw1_162 rfl dX1_init_16 ?_
  refine mw_put (w1 := [(o, .inr (1, [.int so, .ref nb, .long (flo z), .long 0, .int 0, .int 0, .long 0, .long 0, .long 0, .long 0, .null, .null, .null, .null, .int 0])), (nb, .inr (0, flF z))]) G hgf hP hD hS 0 rfl rfl inX1 tyX1_ok nmX1 2 (by decide) qw1_221 rfl rfl rfl rfl (Nat.le_of_ble_eq_true rfl) rfl dX1_init_19 (fun H locs hP hD hS => ?_)
  refine lv_aload_n hx hb dX1_init_22 rfl (lv_at hl 0 rfl) ?_
  refine lv_aload_n hx hb dX1_init_23 rfl (lv_at hl 2 rfl) ?_
  refine mw_get G hgf (hP 1 _ rfl) rfl inX0 1 (by decide) qw1_164 rfl dX1_init_24 ?_
  refine mw_put (w1 := [(o, .inr (1, [.int so, .ref nb, .long (flo z), .long (finf z), .int 0, .int 0, .long 0, .long 0, .long 0, .long 0, .null, .null, .null, .null, .int 0])), (nb, .inr (0, flF z))]) G hgf hP hD hS 0 rfl rfl inX1 tyX1_ok nmX1 3 (by decide) qw1_223 rfl rfl rfl rfl (Nat.le_of_ble_eq_true rfl) rfl dX1_init_27 (fun H locs hP hD hS => ?_)
  refine lv_aload_n hx hb dX1_init_30 rfl (lv_at hl 0 rfl) ?_
  refine lv_bipush (v := 6) hx hb dX1_init_31 (by decide) ?_
  refine mw_newI (N := 6) G hgf hP hD hS hA rfl (by decide) (Nat.le_of_ble_eq_true rfl) (Nat.le_of_ble_eq_true rfl) dX1_init_33 (fun q_1 H hP hD hS => ?_)
  have hP : va_P D.1 vwCl [(o, .inr (1, [.int so, .ref nb, .long (flo z), .long (finf z), .int 0, .int 0, .long 0, .long 0, .long 0, .long 0, .null, .null, .null, .null, .int 0])), (nb, .inr (0, flF z)), (q_1, .inl (D.2.1, 6, .inl (fun _ => 0)))] H := hP
  have hD : va_D A [(o, .inr (1, [.int so, .ref nb, .long (flo z), .long (finf z), .int 0, .int 0, .long 0, .long 0, .long 0, .long 0, .null, .null, .null, .null, .int 0])), (nb, .inr (0, flF z)), (q_1, .inl (D.2.1, 6, .inl (fun _ => 0)))] := hD
  refine mw_putF (w1' := [(o, .inr (1, [.int so, .ref nb, .long (flo z), .long (finf z), .int 0, .int 0, .long 0, .long 0, .long 0, .long 0, .ref q_1, .null, .null, .null, .int 0])), (nb, .inr (0, flF z)), (q_1, .inl (D.2.1, 6, .inl (fun _ => 0)))]) G hnm hgf hP hD hS 0 rfl rfl inX1 tyX1_ok nmX1 10 (by decide) qw1_236 rfl rfl rfl rfl rfl (Nat.le_of_ble_eq_true rfl) rfl dX1_init_35 (fun H locs hP hD hS => ?_)
  refine lv_aload_n hx hb dX1_init_38 rfl (lv_at hl 0 rfl) ?_
  refine lv_bipush (v := 6) hx hb dX1_init_39 (by decide) ?_
  refine mw_newJ (N := 6) G hgf hP hD hS hA rfl (by decide) (Nat.le_of_ble_eq_true rfl) (Nat.le_of_ble_eq_true rfl) dX1_init_41 (fun q_2 H hP hD hS => ?_)
  have hP : va_P D.1 vwCl [(o, .inr (1, [.int so, .ref nb, .long (flo z), .long (finf z), .int 0, .int 0, .long 0, .long 0, .long 0, .long 0, .ref q_1, .null, .null, .null, .int 0])), (nb, .inr (0, flF z)), (q_1, .inl (D.2.1, 6, .inl (fun _ => 0))), (q_2, .inl (D.2.2.1, 6, .inr (.inl (fun _ => 0))))] H := hP
  have hD : va_D A [(o, .inr (1, [.int so, .ref nb, .long (flo z), .long (finf z), .int 0, .int 0, .long 0, .long 0, .long 0, .long 0, .ref q_1, .null, .null, .null, .int 0])), (nb, .inr (0, flF z)), (q_1, .inl (D.2.1, 6, .inl (fun _ => 0))), (q_2, .inl (D.2.2.1, 6, .inr (.inl (fun _ => 0))))] := hD
  refine mw_putF (w1' := [(o, .inr (1, [.int so, .ref nb, .long (flo z), .long (finf z), .int 0, .int 0, .long 0, .long 0, .long 0, .long 0, .ref q_1, .ref q_2, .null, .null, .int 0])), (nb, .inr (0, flF z)), (q_1, .inl (D.2.1, 6, .inl (fun _ => 0))), (q_2, .inl (D.2.2.1, 6, .inr (.inl (fun _ => 0))))]) G hnm hgf hP hD hS 0 rfl rfl inX1 tyX1_ok nmX1 11 (by decide) qw1_237 rfl rfl rfl rfl rfl (Nat.le_of_ble_eq_true rfl) rfl dX1_init_43 (fun H locs hP hD hS => ?_)
  refine lv_aload_n hx hb dX1_init_46 rfl (lv_at hl 0 rfl) ?_
  refine lv_bipush (v := 6) hx hb dX1_init_47 (by decide) ?_
  refine mw_newQ (N := 6) G hgf hP hD hS hA qw1_216 rfl (by decide) (Nat.le_of_ble_eq_true rfl) (Nat.le_of_ble_eq_true rfl) dX1_init_49 (fun q_3 H hP hD hS => ?_)
  have hP : va_P D.1 vwCl [(o, .inr (1, [.int so, .ref nb, .long (flo z), .long (finf z), .int 0, .int 0, .long 0, .long 0, .long 0, .long 0, .ref q_1, .ref q_2, .null, .null, .int 0])), (nb, .inr (0, flF z)), (q_1, .inl (D.2.1, 6, .inl (fun _ => 0))), (q_2, .inl (D.2.2.1, 6, .inr (.inl (fun _ => 0)))), (q_3, .inl (D.2.2.2, 6, .inr (.inr (.inr (.inr (fun _ => none))))))] H := hP
  have hD : va_D A [(o, .inr (1, [.int so, .ref nb, .long (flo z), .long (finf z), .int 0, .int 0, .long 0, .long 0, .long 0, .long 0, .ref q_1, .ref q_2, .null, .null, .int 0])), (nb, .inr (0, flF z)), (q_1, .inl (D.2.1, 6, .inl (fun _ => 0))), (q_2, .inl (D.2.2.1, 6, .inr (.inl (fun _ => 0)))), (q_3, .inl (D.2.2.2, 6, .inr (.inr (.inr (.inr (fun _ => none))))))] := hD
  refine mw_putF (w1' := [(o, .inr (1, [.int so, .ref nb, .long (flo z), .long (finf z), .int 0, .int 0, .long 0, .long 0, .long 0, .long 0, .ref q_1, .ref q_2, .ref q_3, .null, .int 0])), (nb, .inr (0, flF z)), (q_1, .inl (D.2.1, 6, .inl (fun _ => 0))), (q_2, .inl (D.2.2.1, 6, .inr (.inl (fun _ => 0)))), (q_3, .inl (D.2.2.2, 6, .inr (.inr (.inr (.inr (fun _ => none))))))]) G hnm hgf hP hD hS 0 rfl rfl inX1 tyX1_ok nmX1 12 (by decide) qw1_238 rfl rfl rfl rfl rfl (Nat.le_of_ble_eq_true rfl) rfl dX1_init_52 (fun H locs hP hD hS => ?_)
  refine lv_aload_n hx hb dX1_init_55 rfl (lv_at hl 0 rfl) ?_
  refine lv_bipush (v := 16) hx hb dX1_init_56 (by decide) ?_
  refine mw_newJ (N := 16) G hgf hP hD hS hA rfl (by decide) (Nat.le_of_ble_eq_true rfl) (Nat.le_of_ble_eq_true rfl) dX1_init_58 (fun q_4 H hP hD hS => ?_)
  have hP : va_P D.1 vwCl [(o, .inr (1, [.int so, .ref nb, .long (flo z), .long (finf z), .int 0, .int 0, .long 0, .long 0, .long 0, .long 0, .ref q_1, .ref q_2, .ref q_3, .null, .int 0])), (nb, .inr (0, flF z)), (q_1, .inl (D.2.1, 6, .inl (fun _ => 0))), (q_2, .inl (D.2.2.1, 6, .inr (.inl (fun _ => 0)))), (q_3, .inl (D.2.2.2, 6, .inr (.inr (.inr (.inr (fun _ => none)))))), (q_4, .inl (D.2.2.1, 16, .inr (.inl (fun _ => 0))))] H := hP
  have hD : va_D A [(o, .inr (1, [.int so, .ref nb, .long (flo z), .long (finf z), .int 0, .int 0, .long 0, .long 0, .long 0, .long 0, .ref q_1, .ref q_2, .ref q_3, .null, .int 0])), (nb, .inr (0, flF z)), (q_1, .inl (D.2.1, 6, .inl (fun _ => 0))), (q_2, .inl (D.2.2.1, 6, .inr (.inl (fun _ => 0)))), (q_3, .inl (D.2.2.2, 6, .inr (.inr (.inr (.inr (fun _ => none)))))), (q_4, .inl (D.2.2.1, 16, .inr (.inl (fun _ => 0))))] := hD
  refine mw_putF (w1' := [(o, .inr (1, [.int so, .ref nb, .long (flo z), .long (finf z), .int 0, .int 0, .long 0, .long 0, .long 0, .long 0, .ref q_1, .ref q_2, .ref q_3, .ref q_4, .int 0])), (nb, .inr (0, flF z)), (q_1, .inl (D.2.1, 6, .inl (fun _ => 0))), (q_2, .inl (D.2.2.1, 6, .inr (.inl (fun _ => 0)))), (q_3, .inl (D.2.2.2, 6, .inr (.inr (.inr (.inr (fun _ => none)))))), (q_4, .inl (D.2.2.1, 16, .inr (.inl (fun _ => 0))))]) G hnm hgf hP hD hS 0 rfl rfl inX1 tyX1_ok nmX1 13 (by decide) qw1_239 rfl rfl rfl rfl rfl (Nat.le_of_ble_eq_true rfl) rfl dX1_init_60 (fun H locs hP hD hS => ?_)
  exact mE_vret (fun i => [q_1, q_2, q_3, q_4].getD i 0) rfl hx hb hr hlocks hP hD hS dX1_init_63
set_option maxRecDepth 100000 in
set_option maxHeartbeats 4000000 in
theorem ceX1_init_w (l : Launch) (D : mG) (o nb : Nat) (z : Bool) (so : Int32) : cE l D yX1_init cX1_init 3 none { frames := 1, cells := 4, slots := 34, locals := 42 } [(o, .inr (1, [.int 0, .null, .long 0, .long 0, .int 0, .int 0, .long 0, .long 0, .long 0, .long 0, .null, .null, .null, .null, .int 0])), (nb, .inr (2, wrF z))] [.ref o, .int so, .ref nb] (S := Nat → Nat) (fun _ => none) (fun u => [(o, .inr (1, [.int so, .ref nb, .long (wlo z), .long (whi z), .int 0, .int 0, .long 0, .long 0, .long 0, .long 0, .ref (u 0), .ref (u 1), .ref (u 2), .ref (u 3), .int 0])), (nb, .inr (2, wrF z)), (u 0, .inl (D.2.1, 6, .inl (fun _ => 0))), (u 1, .inl (D.2.2.1, 6, .inr (.inl (fun _ => 0)))), (u 2, .inl (D.2.2.2, 6, .inr (.inr (.inr (.inr (fun _ => none)))))), (u 3, .inl (D.2.2.1, 16, .inr (.inl (fun _ => 0))))]) := by
  refine cE_of (by decide) (Nat.le_of_ble_eq_true rfl) ?_
  intro p e s m below meth c ls A hx hb hr hlocks G hnm hgf hA hP hD hS hl
  have hl : lv_has ls 3 [(0, .ref o), (1, .int so), (2, .ref nb)] := hl
  refine lv_aload_n hx hb dX1_init_0 rfl (lv_at hl 0 rfl) ?_
  refine mw_obj G qw1_215 hl.1 (Nat.le_of_ble_eq_true rfl) (Nat.le_of_ble_eq_true rfl) dX1_init_1 ?_
  refine lv_aload_n hx hb dX1_init_4 rfl (lv_at hl 0 rfl) ?_
  refine lv_iload_n hx hb dX1_init_5 rfl (lv_at hl 1 rfl) ?_
  refine mw_putF (w1' := [(o, .inr (1, [.int so, .null, .long 0, .long 0, .int 0, .int 0, .long 0, .long 0, .long 0, .long 0, .null, .null, .null, .null, .int 0])), (nb, .inr (2, wrF z))]) G hnm hgf hP hD hS 0 rfl rfl inX1 tyX1_ok nmX1 0 (by decide) qw1_217 rfl rfl rfl rfl rfl (Nat.le_of_ble_eq_true rfl) rfl dX1_init_6 (fun H locs hP hD hS => ?_)
  refine lv_aload_n hx hb dX1_init_9 rfl (lv_at hl 0 rfl) ?_
  refine lv_aload_n hx hb dX1_init_10 rfl (lv_at hl 2 rfl) ?_
  refine mw_putF (w1' := [(o, .inr (1, [.int so, .ref nb, .long 0, .long 0, .int 0, .int 0, .long 0, .long 0, .long 0, .long 0, .null, .null, .null, .null, .int 0])), (nb, .inr (2, wrF z))]) G hnm hgf hP hD hS 0 rfl rfl inX1 tyX1_ok nmX1 1 (by decide) qw1_219 rfl rfl rfl rfl rfl (Nat.le_of_ble_eq_true rfl) rfl dX1_init_11 (fun H locs hP hD hS => ?_)
  refine lv_aload_n hx hb dX1_init_14 rfl (lv_at hl 0 rfl) ?_
  refine lv_aload_n hx hb dX1_init_15 rfl (lv_at hl 2 rfl) ?_
  refine mw_get G hgf (hP 1 _ rfl) rfl inX3 0 (by decide) qw1_162 rfl dX1_init_16 ?_
  refine mw_put (w1 := [(o, .inr (1, [.int so, .ref nb, .long (wlo z), .long 0, .int 0, .int 0, .long 0, .long 0, .long 0, .long 0, .null, .null, .null, .null, .int 0])), (nb, .inr (2, wrF z))]) G hgf hP hD hS 0 rfl rfl inX1 tyX1_ok nmX1 2 (by decide) qw1_221 rfl rfl rfl rfl (Nat.le_of_ble_eq_true rfl) rfl dX1_init_19 (fun H locs hP hD hS => ?_)
  refine lv_aload_n hx hb dX1_init_22 rfl (lv_at hl 0 rfl) ?_
  refine lv_aload_n hx hb dX1_init_23 rfl (lv_at hl 2 rfl) ?_
  refine mw_get G hgf (hP 1 _ rfl) rfl inX3 1 (by decide) qw1_164 rfl dX1_init_24 ?_
  refine mw_put (w1 := [(o, .inr (1, [.int so, .ref nb, .long (wlo z), .long (whi z), .int 0, .int 0, .long 0, .long 0, .long 0, .long 0, .null, .null, .null, .null, .int 0])), (nb, .inr (2, wrF z))]) G hgf hP hD hS 0 rfl rfl inX1 tyX1_ok nmX1 3 (by decide) qw1_223 rfl rfl rfl rfl (Nat.le_of_ble_eq_true rfl) rfl dX1_init_27 (fun H locs hP hD hS => ?_)
  refine lv_aload_n hx hb dX1_init_30 rfl (lv_at hl 0 rfl) ?_
  refine lv_bipush (v := 6) hx hb dX1_init_31 (by decide) ?_
  refine mw_newI (N := 6) G hgf hP hD hS hA rfl (by decide) (Nat.le_of_ble_eq_true rfl) (Nat.le_of_ble_eq_true rfl) dX1_init_33 (fun q_1 H hP hD hS => ?_)
  have hP : va_P D.1 vwCl [(o, .inr (1, [.int so, .ref nb, .long (wlo z), .long (whi z), .int 0, .int 0, .long 0, .long 0, .long 0, .long 0, .null, .null, .null, .null, .int 0])), (nb, .inr (2, wrF z)), (q_1, .inl (D.2.1, 6, .inl (fun _ => 0)))] H := hP
  have hD : va_D A [(o, .inr (1, [.int so, .ref nb, .long (wlo z), .long (whi z), .int 0, .int 0, .long 0, .long 0, .long 0, .long 0, .null, .null, .null, .null, .int 0])), (nb, .inr (2, wrF z)), (q_1, .inl (D.2.1, 6, .inl (fun _ => 0)))] := hD
  refine mw_putF (w1' := [(o, .inr (1, [.int so, .ref nb, .long (wlo z), .long (whi z), .int 0, .int 0, .long 0, .long 0, .long 0, .long 0, .ref q_1, .null, .null, .null, .int 0])), (nb, .inr (2, wrF z)), (q_1, .inl (D.2.1, 6, .inl (fun _ => 0)))]) G hnm hgf hP hD hS 0 rfl rfl inX1 tyX1_ok nmX1 10 (by decide) qw1_236 rfl rfl rfl rfl rfl (Nat.le_of_ble_eq_true rfl) rfl dX1_init_35 (fun H locs hP hD hS => ?_)
  refine lv_aload_n hx hb dX1_init_38 rfl (lv_at hl 0 rfl) ?_
  refine lv_bipush (v := 6) hx hb dX1_init_39 (by decide) ?_
  refine mw_newJ (N := 6) G hgf hP hD hS hA rfl (by decide) (Nat.le_of_ble_eq_true rfl) (Nat.le_of_ble_eq_true rfl) dX1_init_41 (fun q_2 H hP hD hS => ?_)
  have hP : va_P D.1 vwCl [(o, .inr (1, [.int so, .ref nb, .long (wlo z), .long (whi z), .int 0, .int 0, .long 0, .long 0, .long 0, .long 0, .ref q_1, .null, .null, .null, .int 0])), (nb, .inr (2, wrF z)), (q_1, .inl (D.2.1, 6, .inl (fun _ => 0))), (q_2, .inl (D.2.2.1, 6, .inr (.inl (fun _ => 0))))] H := hP
  have hD : va_D A [(o, .inr (1, [.int so, .ref nb, .long (wlo z), .long (whi z), .int 0, .int 0, .long 0, .long 0, .long 0, .long 0, .ref q_1, .null, .null, .null, .int 0])), (nb, .inr (2, wrF z)), (q_1, .inl (D.2.1, 6, .inl (fun _ => 0))), (q_2, .inl (D.2.2.1, 6, .inr (.inl (fun _ => 0))))] := hD
  refine mw_putF (w1' := [(o, .inr (1, [.int so, .ref nb, .long (wlo z), .long (whi z), .int 0, .int 0, .long 0, .long 0, .long 0, .long 0, .ref q_1, .ref q_2, .null, .null, .int 0])), (nb, .inr (2, wrF z)), (q_1, .inl (D.2.1, 6, .inl (fun _ => 0))), (q_2, .inl (D.2.2.1, 6, .inr (.inl (fun _ => 0))))]) G hnm hgf hP hD hS 0 rfl rfl inX1 tyX1_ok nmX1 11 (by decide) qw1_237 rfl rfl rfl rfl rfl (Nat.le_of_ble_eq_true rfl) rfl dX1_init_43 (fun H locs hP hD hS => ?_)
  refine lv_aload_n hx hb dX1_init_46 rfl (lv_at hl 0 rfl) ?_
  refine lv_bipush (v := 6) hx hb dX1_init_47 (by decide) ?_
  refine mw_newQ (N := 6) G hgf hP hD hS hA qw1_216 rfl (by decide) (Nat.le_of_ble_eq_true rfl) (Nat.le_of_ble_eq_true rfl) dX1_init_49 (fun q_3 H hP hD hS => ?_)
  have hP : va_P D.1 vwCl [(o, .inr (1, [.int so, .ref nb, .long (wlo z), .long (whi z), .int 0, .int 0, .long 0, .long 0, .long 0, .long 0, .ref q_1, .ref q_2, .null, .null, .int 0])), (nb, .inr (2, wrF z)), (q_1, .inl (D.2.1, 6, .inl (fun _ => 0))), (q_2, .inl (D.2.2.1, 6, .inr (.inl (fun _ => 0)))), (q_3, .inl (D.2.2.2, 6, .inr (.inr (.inr (.inr (fun _ => none))))))] H := hP
  have hD : va_D A [(o, .inr (1, [.int so, .ref nb, .long (wlo z), .long (whi z), .int 0, .int 0, .long 0, .long 0, .long 0, .long 0, .ref q_1, .ref q_2, .null, .null, .int 0])), (nb, .inr (2, wrF z)), (q_1, .inl (D.2.1, 6, .inl (fun _ => 0))), (q_2, .inl (D.2.2.1, 6, .inr (.inl (fun _ => 0)))), (q_3, .inl (D.2.2.2, 6, .inr (.inr (.inr (.inr (fun _ => none))))))] := hD
  refine mw_putF (w1' := [(o, .inr (1, [.int so, .ref nb, .long (wlo z), .long (whi z), .int 0, .int 0, .long 0, .long 0, .long 0, .long 0, .ref q_1, .ref q_2, .ref q_3, .null, .int 0])), (nb, .inr (2, wrF z)), (q_1, .inl (D.2.1, 6, .inl (fun _ => 0))), (q_2, .inl (D.2.2.1, 6, .inr (.inl (fun _ => 0)))), (q_3, .inl (D.2.2.2, 6, .inr (.inr (.inr (.inr (fun _ => none))))))]) G hnm hgf hP hD hS 0 rfl rfl inX1 tyX1_ok nmX1 12 (by decide) qw1_238 rfl rfl rfl rfl rfl (Nat.le_of_ble_eq_true rfl) rfl dX1_init_52 (fun H locs hP hD hS => ?_)
  refine lv_aload_n hx hb dX1_init_55 rfl (lv_at hl 0 rfl) ?_
  refine lv_bipush (v := 16) hx hb dX1_init_56 (by decide) ?_
  refine mw_newJ (N := 16) G hgf hP hD hS hA rfl (by decide) (Nat.le_of_ble_eq_true rfl) (Nat.le_of_ble_eq_true rfl) dX1_init_58 (fun q_4 H hP hD hS => ?_)
  have hP : va_P D.1 vwCl [(o, .inr (1, [.int so, .ref nb, .long (wlo z), .long (whi z), .int 0, .int 0, .long 0, .long 0, .long 0, .long 0, .ref q_1, .ref q_2, .ref q_3, .null, .int 0])), (nb, .inr (2, wrF z)), (q_1, .inl (D.2.1, 6, .inl (fun _ => 0))), (q_2, .inl (D.2.2.1, 6, .inr (.inl (fun _ => 0)))), (q_3, .inl (D.2.2.2, 6, .inr (.inr (.inr (.inr (fun _ => none)))))), (q_4, .inl (D.2.2.1, 16, .inr (.inl (fun _ => 0))))] H := hP
  have hD : va_D A [(o, .inr (1, [.int so, .ref nb, .long (wlo z), .long (whi z), .int 0, .int 0, .long 0, .long 0, .long 0, .long 0, .ref q_1, .ref q_2, .ref q_3, .null, .int 0])), (nb, .inr (2, wrF z)), (q_1, .inl (D.2.1, 6, .inl (fun _ => 0))), (q_2, .inl (D.2.2.1, 6, .inr (.inl (fun _ => 0)))), (q_3, .inl (D.2.2.2, 6, .inr (.inr (.inr (.inr (fun _ => none)))))), (q_4, .inl (D.2.2.1, 16, .inr (.inl (fun _ => 0))))] := hD
  refine mw_putF (w1' := [(o, .inr (1, [.int so, .ref nb, .long (wlo z), .long (whi z), .int 0, .int 0, .long 0, .long 0, .long 0, .long 0, .ref q_1, .ref q_2, .ref q_3, .ref q_4, .int 0])), (nb, .inr (2, wrF z)), (q_1, .inl (D.2.1, 6, .inl (fun _ => 0))), (q_2, .inl (D.2.2.1, 6, .inr (.inl (fun _ => 0)))), (q_3, .inl (D.2.2.2, 6, .inr (.inr (.inr (.inr (fun _ => none)))))), (q_4, .inl (D.2.2.1, 16, .inr (.inl (fun _ => 0))))]) G hnm hgf hP hD hS 0 rfl rfl inX1 tyX1_ok nmX1 13 (by decide) qw1_239 rfl rfl rfl rfl rfl (Nat.le_of_ble_eq_true rfl) rfl dX1_init_60 (fun H locs hP hD hS => ?_)
  exact mE_vret (fun i => [q_1, q_2, q_3, q_4].getD i 0) rfl hx hb hr hlocks hP hD hS dX1_init_63
set_option maxRecDepth 100000 in
set_option maxHeartbeats 4000000 in
theorem ceX4_init (l : Launch) (D : mG) (o : Nat) : cE l D yX4_init cX4_init 1 none { frames := 1, cells := 1, slots := 8, locals := 42 } [(o, .inr (3, [.null, .int 0, .int 0, .int 0, .int 0]))] [.ref o] (S := Nat) (fun _ => none) (fun u => [(o, .inr (3, [.ref u, .int 0, .int 0, .int 0, .int 0])), (u, .inl (D.2.2.2, 8, .inr (.inr (.inr (.inr (fun _ => none))))))]) := by
  refine cE_of (by decide) (Nat.le_of_ble_eq_true rfl) ?_
  intro p e s m below meth c ls A hx hb hr hlocks G hnm hgf hA hP hD hS hl
  have hl : lv_has ls 1 [(0, .ref o)] := hl
  refine lv_aload_n hx hb dX4_init_0 rfl (lv_at hl 0 rfl) ?_
  refine mw_obj G qw1_24 hl.1 (Nat.le_of_ble_eq_true rfl) (Nat.le_of_ble_eq_true rfl) dX4_init_1 ?_
  refine lv_aload_n hx hb dX4_init_4 rfl (lv_at hl 0 rfl) ?_
  refine lv_bipush (v := 8) hx hb dX4_init_5 (by decide) ?_
  refine mw_newQ (N := 8) G hgf hP hD hS hA qw1_27 rfl (by decide) (Nat.le_of_ble_eq_true rfl) (Nat.le_of_ble_eq_true rfl) dX4_init_7 (fun q_1 H hP hD hS => ?_)
  have hP : va_P D.1 vwCl [(o, .inr (3, [.null, .int 0, .int 0, .int 0, .int 0])), (q_1, .inl (D.2.2.2, 8, .inr (.inr (.inr (.inr (fun _ => none))))))] H := hP
  have hD : va_D A [(o, .inr (3, [.null, .int 0, .int 0, .int 0, .int 0])), (q_1, .inl (D.2.2.2, 8, .inr (.inr (.inr (.inr (fun _ => none))))))] := hD
  refine mw_putF (w1' := [(o, .inr (3, [.ref q_1, .int 0, .int 0, .int 0, .int 0])), (q_1, .inl (D.2.2.2, 8, .inr (.inr (.inr (.inr (fun _ => none))))))]) G hnm hgf hP hD hS 0 rfl rfl inX4 tyX4_ok nmX4 0 (by decide) qw1_29 rfl rfl rfl rfl rfl (Nat.le_of_ble_eq_true rfl) rfl dX4_init_10 (fun H locs hP hD hS => ?_)
  exact mE_vret (q_1) rfl hx hb hr hlocks hP hD hS dX4_init_13
