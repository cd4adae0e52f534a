set_option maxRecDepth 100000 in
set_option maxHeartbeats 4000000 in
theorem ct_step_b (l : Launch) (D : mG) (x xa : Nat) (n rd ae se : Int32) (IA : Nat → Option Nat) (st : Int32) (k : Int64) (hlt : l.stackTraces = false) {i : Int32} (hbad : i < 0 ∨ 8 ≤ i ∨ IA i.toNatClampNeg = none) : cT l D yX4_step cX4_step 9 .int 7 (fun H => va_P D.1 vwCl [(x, .inr (3, xF xa n rd ae se)), (xa, .inl (D.2.2.2, 8, .inr (.inr (.inr (.inr IA)))))] H) [.ref x, .int i, .int st, .long k] "java/lang/IndexOutOfBoundsException" := by
  refine cT_of (by decide) (Nat.le_of_ble_eq_true rfl) ?_
  intro p e s m below meth c ls hx hb hlocks hex G hgf hz hP hl
  have hP : va_P D.1 vwCl [(x, .inr (3, xF xa n rd ae se)), (xa, .inl (D.2.2.2, 8, .inr (.inr (.inr (.inr IA)))))] s.heap := hP
  have hl : lv_has ls 9 [(0, .ref x), (1, .int i), (2, .int st), (3, .long k)] := hl
  refine lv_aload_n hx hb dX4_step_0 rfl (lv_at hl 0 rfl) ?_
  refine lv_iload_n hx hb dX4_step_1 rfl (lv_at hl 1 rfl) ?_
  exact kT (C := RX4) G hlocks hex (ct_instAt l D x xa n rd ae se IA hlt hbad) okX4_instrumentAt hgf hz (va_P.sub hP [0, 1] rfl) (mw_recv hgf (hP 0 _ rfl) rfl) qw2_43 ⟨Nat.le_of_ble_eq_true rfl, Nat.le_of_ble_eq_true rfl⟩ ⟨(Nat.le_of_ble_eq_true rfl), (Nat.le_of_ble_eq_true rfl)⟩ hl.1 (Nat.le_of_ble_eq_true rfl) rfl dX4_step_2
set_option maxRecDepth 100000 in
set_option maxHeartbeats 4000000 in
theorem ct_follow_b (l : Launch) (D : mG) (x xa : Nat) (n rd ae se : Int32) (IA : Nat → Option Nat) (st : Int32) (o : Int32) (hlt : l.stackTraces = false) {i : Int32} (hbad : i < 0 ∨ 8 ≤ i ∨ IA i.toNatClampNeg = none) : cT l D yX4_follow cX4_follow 6 .int 7 (fun H => va_P D.1 vwCl [(x, .inr (3, xF xa n rd ae se)), (xa, .inl (D.2.2.2, 8, .inr (.inr (.inr (.inr IA)))))] H) [.ref x, .int i, .int st, .int o] "java/lang/IndexOutOfBoundsException" := by
  refine cT_of (by decide) (Nat.le_of_ble_eq_true rfl) ?_
  intro p e s m below meth c ls hx hb hlocks hex G hgf hz hP hl
  have hP : va_P D.1 vwCl [(x, .inr (3, xF xa n rd ae se)), (xa, .inl (D.2.2.2, 8, .inr (.inr (.inr (.inr IA)))))] s.heap := hP
  have hl : lv_has ls 6 [(0, .ref x), (1, .int i), (2, .int st), (3, .int o)] := hl
  refine lv_aload_n hx hb dX4_follow_0 rfl (lv_at hl 0 rfl) ?_
  refine lv_iload_n hx hb dX4_follow_1 rfl (lv_at hl 1 rfl) ?_
  exact kT (C := RX4) G hlocks hex (ct_instAt l D x xa n rd ae se IA hlt hbad) okX4_instrumentAt hgf hz (va_P.sub hP [0, 1] rfl) (mw_recv hgf (hP 0 _ rfl) rfl) qw2_43 ⟨Nat.le_of_ble_eq_true rfl, Nat.le_of_ble_eq_true rfl⟩ ⟨(Nat.le_of_ble_eq_true rfl), (Nat.le_of_ble_eq_true rfl)⟩ hl.1 (Nat.le_of_ble_eq_true rfl) rfl dX4_follow_2
set_option maxRecDepth 100000 in
set_option maxHeartbeats 4000000 in
theorem ct_read_b (l : Launch) (D : mG) (x xa : Nat) (n rd ae se : Int32) (IA : Nat → Option Nat) (bits : Int64) (hlt : l.stackTraces = false) {i : Int32} (hbad : i < 0 ∨ 8 ≤ i ∨ IA i.toNatClampNeg = none) : cT l D yX4_read cX4_read 9 .long 7 (fun H => va_P D.1 vwCl [(x, .inr (3, xF xa n rd ae se)), (xa, .inl (D.2.2.2, 8, .inr (.inr (.inr (.inr IA)))))] H) [.ref x, .int i, .long bits] "java/lang/IndexOutOfBoundsException" := by
  refine cT_of (by decide) (Nat.le_of_ble_eq_true rfl) ?_
  intro p e s m below meth c ls hx hb hlocks hex G hgf hz hP hl
  have hP : va_P D.1 vwCl [(x, .inr (3, xF xa n rd ae se)), (xa, .inl (D.2.2.2, 8, .inr (.inr (.inr (.inr IA)))))] s.heap := hP
  have hl : lv_has ls 9 [(0, .ref x), (1, .int i), (2, .long bits)] := hl
  refine lv_aload_n hx hb dX4_read_0 rfl (lv_at hl 0 rfl) ?_
  refine lv_iload_n hx hb dX4_read_1 rfl (lv_at hl 1 rfl) ?_
  exact kT (C := RX4) G hlocks hex (ct_instAt l D x xa n rd ae se IA hlt hbad) okX4_instrumentAt hgf hz (va_P.sub hP [0, 1] rfl) (mw_recv hgf (hP 0 _ rfl) rfl) qw2_43 ⟨Nat.le_of_ble_eq_true rfl, Nat.le_of_ble_eq_true rfl⟩ ⟨(Nat.le_of_ble_eq_true rfl), (Nat.le_of_ble_eq_true rfl)⟩ hl.1 (Nat.le_of_ble_eq_true rfl) rfl dX4_read_2
set_option maxRecDepth 100000 in
set_option maxHeartbeats 4000000 in
theorem ct_reading_b (l : Launch) (D : mG) (x xa : Nat) (n rd ae se : Int32) (IA : Nat → Option Nat) (w : Int32) (hlt : l.stackTraces = false) {i : Int32} (hbad : i < 0 ∨ 8 ≤ i ∨ IA i.toNatClampNeg = none) : cT l D yX4_reading cX4_reading 4 .long 7 (fun H => va_P D.1 vwCl [(x, .inr (3, xF xa n rd ae se)), (xa, .inl (D.2.2.2, 8, .inr (.inr (.inr (.inr IA)))))] H) [.ref x, .int i, .int w] "java/lang/IndexOutOfBoundsException" := by
  refine cT_of (by decide) (Nat.le_of_ble_eq_true rfl) ?_
  intro p e s m below meth c ls hx hb hlocks hex G hgf hz hP hl
  have hP : va_P D.1 vwCl [(x, .inr (3, xF xa n rd ae se)), (xa, .inl (D.2.2.2, 8, .inr (.inr (.inr (.inr IA)))))] s.heap := hP
  have hl : lv_has ls 4 [(0, .ref x), (1, .int i), (2, .int w)] := hl
  refine lv_aload_n hx hb dX4_reading_0 rfl (lv_at hl 0 rfl) ?_
  refine lv_iload_n hx hb dX4_reading_1 rfl (lv_at hl 1 rfl) ?_
  exact kT (C := RX4) G hlocks hex (ct_instAt l D x xa n rd ae se IA hlt hbad) okX4_instrumentAt hgf hz (va_P.sub hP [0, 1] rfl) (mw_recv hgf (hP 0 _ rfl) rfl) qw2_43 ⟨Nat.le_of_ble_eq_true rfl, Nat.le_of_ble_eq_true rfl⟩ ⟨(Nat.le_of_ble_eq_true rfl), (Nat.le_of_ble_eq_true rfl)⟩ hl.1 (Nat.le_of_ble_eq_true rfl) rfl dX4_reading_2
set_option maxRecDepth 100000 in
set_option maxHeartbeats 4000000 in
theorem ct_tell_b (l : Launch) (D : mG) (x xa : Nat) (n rd ae se : Int32) (IA : Nat → Option Nat) (w : Int32) (hlt : l.stackTraces = false) {i : Int32} (hbad : i < 0 ∨ 8 ≤ i ∨ IA i.toNatClampNeg = none) : cT l D yX4_tell cX4_tell 4 .long 7 (fun H => va_P D.1 vwCl [(x, .inr (3, xF xa n rd ae se)), (xa, .inl (D.2.2.2, 8, .inr (.inr (.inr (.inr IA)))))] H) [.ref x, .int i, .int w] "java/lang/IndexOutOfBoundsException" := by
  refine cT_of (by decide) (Nat.le_of_ble_eq_true rfl) ?_
  intro p e s m below meth c ls hx hb hlocks hex G hgf hz hP hl
  have hP : va_P D.1 vwCl [(x, .inr (3, xF xa n rd ae se)), (xa, .inl (D.2.2.2, 8, .inr (.inr (.inr (.inr IA)))))] s.heap := hP
  have hl : lv_has ls 4 [(0, .ref x), (1, .int i), (2, .int w)] := hl
  refine lv_aload_n hx hb dX4_tell_0 rfl (lv_at hl 0 rfl) ?_
  refine lv_iload_n hx hb dX4_tell_1 rfl (lv_at hl 1 rfl) ?_
  exact kT (C := RX4) G hlocks hex (ct_instAt l D x xa n rd ae se IA hlt hbad) okX4_instrumentAt hgf hz (va_P.sub hP [0, 1] rfl) (mw_recv hgf (hP 0 _ rfl) rfl) qw2_43 ⟨Nat.le_of_ble_eq_true rfl, Nat.le_of_ble_eq_true rfl⟩ ⟨(Nat.le_of_ble_eq_true rfl), (Nat.le_of_ble_eq_true rfl)⟩ hl.1 (Nat.le_of_ble_eq_true rfl) rfl dX4_tell_2
set_option maxRecDepth 100000 in
set_option maxHeartbeats 4000000 in
theorem ct_whole_b (l : Launch) (D : mG) (x xa : Nat) (n rd ae se : Int32) (IA : Nat → Option Nat) (hlt : l.stackTraces = false) {i : Int32} (hbad : i < 0 ∨ 8 ≤ i ∨ IA i.toNatClampNeg = none) : cT l D yX4_whole cX4_whole 3 .int 7 (fun H => va_P D.1 vwCl [(x, .inr (3, xF xa n rd ae se)), (xa, .inl (D.2.2.2, 8, .inr (.inr (.inr (.inr IA)))))] H) [.ref x, .int i] "java/lang/IndexOutOfBoundsException" := by
  refine cT_of (by decide) (Nat.le_of_ble_eq_true rfl) ?_
  intro p e s m below meth c ls hx hb hlocks hex G hgf hz hP hl
  have hP : va_P D.1 vwCl [(x, .inr (3, xF xa n rd ae se)), (xa, .inl (D.2.2.2, 8, .inr (.inr (.inr (.inr IA)))))] s.heap := hP
  have hl : lv_has ls 3 [(0, .ref x), (1, .int i)] := hl
  refine lv_aload_n hx hb dX4_whole_0 rfl (lv_at hl 0 rfl) ?_
  refine lv_iload_n hx hb dX4_whole_1 rfl (lv_at hl 1 rfl) ?_
  exact kT (C := RX4) G hlocks hex (ct_instAt l D x xa n rd ae se IA hlt hbad) okX4_instrumentAt hgf hz (va_P.sub hP [0, 1] rfl) (mw_recv hgf (hP 0 _ rfl) rfl) qw2_43 ⟨Nat.le_of_ble_eq_true rfl, Nat.le_of_ble_eq_true rfl⟩ ⟨(Nat.le_of_ble_eq_true rfl), (Nat.le_of_ble_eq_true rfl)⟩ hl.1 (Nat.le_of_ble_eq_true rfl) rfl dX4_whole_2
set_option maxRecDepth 100000 in
set_option maxHeartbeats 4000000 in
theorem ct_limits_b (l : Launch) (D : mG) (x xa : Nat) (n rd ae se : Int32) (IA : Nat → Option Nat) (u : Int64) (w : Int64) (hlt : l.stackTraces = false) {i : Int32} (hbad : i < 0 ∨ 8 ≤ i ∨ IA i.toNatClampNeg = none) : cT l D yX4_limits cX4_limits 12 .boolean 7 (fun H => va_P D.1 vwCl [(x, .inr (3, xF xa n rd ae se)), (xa, .inl (D.2.2.2, 8, .inr (.inr (.inr (.inr IA)))))] H) [.ref x, .int i, .long u, .long w] "java/lang/IndexOutOfBoundsException" := by
  refine cT_of (by decide) (Nat.le_of_ble_eq_true rfl) ?_
  intro p e s m below meth c ls hx hb hlocks hex G hgf hz hP hl
  have hP : va_P D.1 vwCl [(x, .inr (3, xF xa n rd ae se)), (xa, .inl (D.2.2.2, 8, .inr (.inr (.inr (.inr IA)))))] s.heap := hP
  have hl : lv_has ls 12 [(0, .ref x), (1, .int i), (2, .long u), (4, .long w)] := hl
  refine lv_aload_n hx hb dX4_limits_0 rfl (lv_at hl 0 rfl) ?_
  refine lv_iload_n hx hb dX4_limits_1 rfl (lv_at hl 1 rfl) ?_
  exact kT (C := RX4) G hlocks hex (ct_instAt l D x xa n rd ae se IA hlt hbad) okX4_instrumentAt hgf hz (va_P.sub hP [0, 1] rfl) (mw_recv hgf (hP 0 _ rfl) rfl) qw2_43 ⟨Nat.le_of_ble_eq_true rfl, Nat.le_of_ble_eq_true rfl⟩ ⟨(Nat.le_of_ble_eq_true rfl), (Nat.le_of_ble_eq_true rfl)⟩ hl.1 (Nat.le_of_ble_eq_true rfl) rfl dX4_limits_2
set_option maxRecDepth 100000 in
set_option maxHeartbeats 4000000 in
theorem ct_forget_b (l : Launch) (D : mG) (x xa : Nat) (n rd ae se : Int32) (IA : Nat → Option Nat) (hlt : l.stackTraces = false) {i : Int32} (hbad : i < 0 ∨ 8 ≤ i ∨ IA i.toNatClampNeg = none) : cT l D yX4_forget cX4_forget 2 .int 7 (fun H => va_P D.1 vwCl [(x, .inr (3, xF xa n rd ae se)), (xa, .inl (D.2.2.2, 8, .inr (.inr (.inr (.inr IA)))))] H) [.ref x, .int i] "java/lang/IndexOutOfBoundsException" := by
  refine cT_of (by decide) (Nat.le_of_ble_eq_true rfl) ?_
  intro p e s m below meth c ls hx hb hlocks hex G hgf hz hP hl
  have hP : va_P D.1 vwCl [(x, .inr (3, xF xa n rd ae se)), (xa, .inl (D.2.2.2, 8, .inr (.inr (.inr (.inr IA)))))] s.heap := hP
  have hl : lv_has ls 2 [(0, .ref x), (1, .int i)] := hl
  refine lv_aload_n hx hb dX4_forget_0 rfl (lv_at hl 0 rfl) ?_
  refine lv_iload_n hx hb dX4_forget_1 rfl (lv_at hl 1 rfl) ?_
  exact kT (C := RX4) G hlocks hex (ct_instAt l D x xa n rd ae se IA hlt hbad) okX4_instrumentAt hgf hz (va_P.sub hP [0, 1] rfl) (mw_recv hgf (hP 0 _ rfl) rfl) qw2_43 ⟨Nat.le_of_ble_eq_true rfl, Nat.le_of_ble_eq_true rfl⟩ ⟨(Nat.le_of_ble_eq_true rfl), (Nat.le_of_ble_eq_true rfl)⟩ hl.1 (Nat.le_of_ble_eq_true rfl) rfl dX4_forget_2
set_option maxRecDepth 100000 in
set_option maxHeartbeats 4000000 in
theorem ct_alarms_b (l : Launch) (D : mG) (x xa : Nat) (n rd ae se : Int32) (IA : Nat → Option Nat) (hlt : l.stackTraces = false) {i : Int32} (hbad : i < 0 ∨ 8 ≤ i ∨ IA i.toNatClampNeg = none) : cT l D yX4_alarms cX4_alarms 2 .int 7 (fun H => va_P D.1 vwCl [(x, .inr (3, xF xa n rd ae se)), (xa, .inl (D.2.2.2, 8, .inr (.inr (.inr (.inr IA)))))] H) [.ref x, .int i] "java/lang/IndexOutOfBoundsException" := by
  refine cT_of (by decide) (Nat.le_of_ble_eq_true rfl) ?_
  intro p e s m below meth c ls hx hb hlocks hex G hgf hz hP hl
  have hP : va_P D.1 vwCl [(x, .inr (3, xF xa n rd ae se)), (xa, .inl (D.2.2.2, 8, .inr (.inr (.inr (.inr IA)))))] s.heap := hP
  have hl : lv_has ls 2 [(0, .ref x), (1, .int i)] := hl
  refine lv_aload_n hx hb dX4_alarms_0 rfl (lv_at hl 0 rfl) ?_
  refine lv_iload_n hx hb dX4_alarms_1 rfl (lv_at hl 1 rfl) ?_
  exact kT (C := RX4) G hlocks hex (ct_instAt l D x xa n rd ae se IA hlt hbad) okX4_instrumentAt hgf hz (va_P.sub hP [0, 1] rfl) (mw_recv hgf (hP 0 _ rfl) rfl) qw2_43 ⟨Nat.le_of_ble_eq_true rfl, Nat.le_of_ble_eq_true rfl⟩ ⟨(Nat.le_of_ble_eq_true rfl), (Nat.le_of_ble_eq_true rfl)⟩ hl.1 (Nat.le_of_ble_eq_true rfl) rfl dX4_alarms_2
set_option maxRecDepth 100000 in
set_option maxHeartbeats 4000000 in
theorem ct_mount_1 (l : Launch) (D : mG) (x xa : Nat) (n rd ae se : Int32) (IA : Nat → Option Nat) (so : Int32) (hlt : l.stackTraces = false) (h1 : fX4_isSort so = 0) : cT l D yX4_mount cX4_mount 3 .int 6 (fun H => va_P D.1 vwCl [(x, .inr (3, xF xa n rd ae se)), (xa, .inl (D.2.2.2, 8, .inr (.inr (.inr (.inr IA)))))] H) [.ref x, .int so] "java/lang/IllegalArgumentException" := by
  refine cT_of (by decide) (Nat.le_of_ble_eq_true rfl) ?_
  intro p e s m below meth c ls hx hb hlocks hex G hgf hz hP hl
  have hP : va_P D.1 vwCl [(x, .inr (3, xF xa n rd ae se)), (xa, .inl (D.2.2.2, 8, .inr (.inr (.inr (.inr IA)))))] s.heap := hP
  have hl : lv_has ls 3 [(0, .ref x), (1, .int so)] := hl
  refine lv_iload_n hx hb dX4_mount_0 rfl (lv_at hl 1 rfl) ?_
  refine kS G (cvX4_isSort l D so) okX4_isSort hgf trivial qw1_58 ⟨Nat.le_of_ble_eq_true rfl, Nat.le_of_ble_eq_true rfl⟩ ⟨(Nat.le_of_ble_eq_true rfl), (Nat.le_of_ble_eq_true rfl)⟩ hl.1 (Nat.le_of_ble_eq_true rfl) rfl dX4_mount_1 ?_
  refine lv_if_ne (tgt := 17) hx hb dX4_mount_4 (by decide) (fun h => absurd h1 h) (fun _ => ?_)
  exact mw_throw hlt G hlocks hex hgf hz (by decide +kernel) qw1_61 qw1_6 (text := "no such sort") (by decide +kernel) (by decide +kernel) ex1_IllegalArgumentException ex2_IllegalArgumentException ex3_IllegalArgumentException hl.1 ⟨(Nat.le_of_ble_eq_true rfl), (Nat.le_of_ble_eq_true rfl), (Nat.le_of_ble_eq_true rfl), (Nat.le_of_ble_eq_true rfl)⟩ dX4_mount_7 dX4_mount_10 dX4_mount_11 dX4_mount_13 dX4_mount_16
set_option maxRecDepth 100000 in
set_option maxHeartbeats 4000000 in
theorem ct_mount_2 (l : Launch) (D : mG) (x xa : Nat) (n rd ae se : Int32) (IA : Nat → Option Nat) (so : Int32) (hlt : l.stackTraces = false) (h1 : ¬ fX4_isSort so = 0) (h2 : ¬ n < 8) : cT l D yX4_mount cX4_mount 3 .int 6 (fun H => va_P D.1 vwCl [(x, .inr (3, xF xa n rd ae se)), (xa, .inl (D.2.2.2, 8, .inr (.inr (.inr (.inr IA)))))] H) [.ref x, .int so] "java/lang/UnsupportedOperationException" := by
  refine cT_of (by decide) (Nat.le_of_ble_eq_true rfl) ?_
  intro p e s m below meth c ls hx hb hlocks hex G hgf hz hP hl
  have hP : va_P D.1 vwCl [(x, .inr (3, xF xa n rd ae se)), (xa, .inl (D.2.2.2, 8, .inr (.inr (.inr (.inr IA)))))] s.heap := hP
  have hl : lv_has ls 3 [(0, .ref x), (1, .int so)] := hl
  refine lv_iload_n hx hb dX4_mount_0 rfl (lv_at hl 1 rfl) ?_
  refine kS G (cvX4_isSort l D so) okX4_isSort hgf trivial qw1_58 ⟨Nat.le_of_ble_eq_true rfl, Nat.le_of_ble_eq_true rfl⟩ ⟨(Nat.le_of_ble_eq_true rfl), (Nat.le_of_ble_eq_true rfl)⟩ hl.1 (Nat.le_of_ble_eq_true rfl) rfl dX4_mount_1 ?_
  refine lv_if_ne (tgt := 17) hx hb dX4_mount_4 (by decide) (fun _ => ?_) (fun h => absurd h h1)
  refine lv_aload_n hx hb dX4_mount_17 rfl (lv_at hl 0 rfl) ?_
  refine mw_get G hgf (hP 0 _ rfl) rfl inX4 1 (by decide) qw1_30 rfl dX4_mount_18 ?_
  refine lv_aload_n hx hb dX4_mount_21 rfl (lv_at hl 0 rfl) ?_
  refine mw_get G hgf (hP 0 _ rfl) rfl inX4 0 (by decide) qw1_29 rfl dX4_mount_22 ?_
  refine va_alen (v := 8) hx hb hgf.K hP 1 2 rfl rfl rfl dX4_mount_25 ?_
  refine lv_icmp_lt (tgt := 39) hx hb dX4_mount_26 (by decide) (fun h => absurd h h2) (fun _ => ?_)
  exact mw_throw hlt G hlocks hex hgf hz (by decide +kernel) qw1_131 qw1_7 (text := "there are eight instruments") (by decide +kernel) (by decide +kernel) ex1_UnsupportedOperationException ex2_UnsupportedOperationException ex3_UnsupportedOperationException hl.1 ⟨(Nat.le_of_ble_eq_true rfl), (Nat.le_of_ble_eq_true rfl), (Nat.le_of_ble_eq_true rfl), (Nat.le_of_ble_eq_true rfl)⟩ dX4_mount_29 dX4_mount_32 dX4_mount_33 dX4_mount_35 dX4_mount_38
set_option maxRecDepth 100000 in
set_option maxHeartbeats 4000000 in
theorem ct_step_1 (l : Launch) (D : mG) (x xa : Nat) (n rd ae se : Int32) (IA : Nat → Option Nat) (a : Nat → Nat) (so : Int32) (lo hi : Int64) (al ch : Int32) (le gr sw su : Int64) (mn : Int32) (f z : Bool) (KI : Nat → Int32) (KJ : Nat → Int64) (L : Nat → Option Nat) (KE : Nat → Int64) (st : Int32) (k : Int64) (hlt : l.stackTraces = false) {N : Nat} (hn : n = nI N) (hN : N ≤ 8) {j : Nat} (hj : j < N) (hq : IA j = some (a 0)) (h1 : gn_hasStep f z st = 0) : cT l D yX4_step cX4_step 9 .int 6 (fun H => va_P D.1 vwCl [(x, .inr (3, xF xa n rd ae se)), (xa, .inl (D.2.2.2, 8, .inr (.inr (.inr (.inr IA))))), (a 0, .inr (1, iF a so lo hi al ch le gr sw su mn)), (a 1, nE f z), (a 2, .inl (D.2.1, 6, .inl KI)), (a 3, .inl (D.2.2.1, 6, .inr (.inl KJ))), (a 4, .inl (D.2.2.2, 6, .inr (.inr (.inr (.inr L))))), (a 5, .inl (D.2.2.1, 16, .inr (.inl KE)))] H) [.ref x, .int (nI j), .int st, .long k] "java/lang/IllegalArgumentException" := by
  refine cT_of (by decide) (Nat.le_of_ble_eq_true rfl) ?_
  intro p e s m below meth c ls hx hb hlocks hex G hgf hz hP hl
  have hP : va_P D.1 vwCl [(x, .inr (3, xF xa n rd ae se)), (xa, .inl (D.2.2.2, 8, .inr (.inr (.inr (.inr IA))))), (a 0, .inr (1, iF a so lo hi al ch le gr sw su mn)), (a 1, nE f z), (a 2, .inl (D.2.1, 6, .inl KI)), (a 3, .inl (D.2.2.1, 6, .inr (.inl KJ))), (a 4, .inl (D.2.2.2, 6, .inr (.inr (.inr (.inr L))))), (a 5, .inl (D.2.2.1, 16, .inr (.inl KE)))] s.heap := hP
  have hl : lv_has ls 9 [(0, .ref x), (1, .int (nI j)), (2, .int st), (3, .long k)] := hl
  refine lv_aload_n hx hb dX4_step_0 rfl (lv_at hl 0 rfl) ?_
  refine lv_iload_n hx hb dX4_step_1 rfl (lv_at hl 1 rfl) ?_
  refine kV (C := RX4) G (cv_instAt l D x xa n rd ae se IA hn hN hj hq) okX4_instrumentAt hgf (va_P.sub hP [0, 1] rfl) (mw_recv hgf (hP 0 _ rfl) rfl) qw2_43 ⟨Nat.le_of_ble_eq_true rfl, Nat.le_of_ble_eq_true rfl⟩ ⟨(Nat.le_of_ble_eq_true rfl), (Nat.le_of_ble_eq_true rfl)⟩ hl.1 (Nat.le_of_ble_eq_true rfl) rfl dX4_step_2 ?_
  refine lv_astore (lv' := [(5, .ref (a 0)), (0, .ref x), (1, .int (nI j)), (2, .int st), (3, .long k)]) hx hb dX4_step_5 hl (by decide) rfl (fun ls hl => ?_)
  refine lv_aload hx hb dX4_step_7 (lv_at hl 0 rfl) ?_
  refine mw_get G hgf (hP 2 _ rfl) rfl inX1 1 (by decide) qw1_220 rfl dX4_step_9 ?_
  refine lv_astore (lv' := [(6, .ref (a 1)), (5, .ref (a 0)), (0, .ref x), (1, .int (nI j)), (2, .int st), (3, .long k)]) hx hb dX4_step_12 hl (by decide) rfl (fun ls hl => ?_)
  refine lv_aload hx hb dX4_step_14 (lv_at hl 0 rfl) ?_
  refine lv_iload_n hx hb dX4_step_16 rfl (lv_at hl 4 rfl) ?_
  refine kgn_hasStep (f := f) (z := z) st G hgf (hP 3 _ rfl) qw2_63 ⟨Nat.le_of_ble_eq_true rfl, Nat.le_of_ble_eq_true rfl⟩ ⟨(Nat.le_of_ble_eq_true rfl), (Nat.le_of_ble_eq_true rfl)⟩ hl.1 (Nat.le_of_ble_eq_true rfl) dX4_step_17 ?_
  refine lv_if_ne (tgt := 33) hx hb dX4_step_20 (by decide) (fun h => absurd h1 h) (fun _ => ?_)
  exact mw_throw hlt G hlocks hex hgf hz (by decide +kernel) qw1_61 qw1_6 (text := "no such step of this sort") (by decide +kernel) (by decide +kernel) ex1_IllegalArgumentException ex2_IllegalArgumentException ex3_IllegalArgumentException hl.1 ⟨(Nat.le_of_ble_eq_true rfl), (Nat.le_of_ble_eq_true rfl), (Nat.le_of_ble_eq_true rfl), (Nat.le_of_ble_eq_true rfl)⟩ dX4_step_23 dX4_step_26 dX4_step_27 dX4_step_29 dX4_step_32
set_option maxRecDepth 100000 in
set_option maxHeartbeats 4000000 in
theorem ct_step_2 (l : Launch) (D : mG) (x xa : Nat) (n rd ae se : Int32) (IA : Nat → Option Nat) (a : Nat → Nat) (so : Int32) (lo hi : Int64) (al ch : Int32) (le gr sw su : Int64) (mn : Int32) (f z : Bool) (KI : Nat → Int32) (KJ : Nat → Int64) (L : Nat → Option Nat) (KE : Nat → Int64) (st : Int32) (k : Int64) (hlt : l.stackTraces = false) {N : Nat} (hn : n = nI N) (hN : N ≤ 8) {j : Nat} (hj : j < N) (hq : IA j = some (a 0)) (h1 : ¬ gn_hasStep f z st = 0) (h2 : ¬ fX4_takesK st = 0) (h3 : gn_isNumber f z (gn_ofWidth f z k) = 0) : cT l D yX4_step cX4_step 9 .int 6 (fun H => va_P D.1 vwCl [(x, .inr (3, xF xa n rd ae se)), (xa, .inl (D.2.2.2, 8, .inr (.inr (.inr (.inr IA))))), (a 0, .inr (1, iF a so lo hi al ch le gr sw su mn)), (a 1, nE f z), (a 2, .inl (D.2.1, 6, .inl KI)), (a 3, .inl (D.2.2.1, 6, .inr (.inl KJ))), (a 4, .inl (D.2.2.2, 6, .inr (.inr (.inr (.inr L))))), (a 5, .inl (D.2.2.1, 16, .inr (.inl KE)))] H) [.ref x, .int (nI j), .int st, .long k] "java/lang/IllegalArgumentException" := by
  refine cT_of (by decide) (Nat.le_of_ble_eq_true rfl) ?_
  intro p e s m below meth c ls hx hb hlocks hex G hgf hz hP hl
  have hP : va_P D.1 vwCl [(x, .inr (3, xF xa n rd ae se)), (xa, .inl (D.2.2.2, 8, .inr (.inr (.inr (.inr IA))))), (a 0, .inr (1, iF a so lo hi al ch le gr sw su mn)), (a 1, nE f z), (a 2, .inl (D.2.1, 6, .inl KI)), (a 3, .inl (D.2.2.1, 6, .inr (.inl KJ))), (a 4, .inl (D.2.2.2, 6, .inr (.inr (.inr (.inr L))))), (a 5, .inl (D.2.2.1, 16, .inr (.inl KE)))] s.heap := hP
  have hl : lv_has ls 9 [(0, .ref x), (1, .int (nI j)), (2, .int st), (3, .long k)] := hl
  refine lv_aload_n hx hb dX4_step_0 rfl (lv_at hl 0 rfl) ?_
  refine lv_iload_n hx hb dX4_step_1 rfl (lv_at hl 1 rfl) ?_
  refine kV (C := RX4) G (cv_instAt l D x xa n rd ae se IA hn hN hj hq) okX4_instrumentAt hgf (va_P.sub hP [0, 1] rfl) (mw_recv hgf (hP 0 _ rfl) rfl) qw2_43 ⟨Nat.le_of_ble_eq_true rfl, Nat.le_of_ble_eq_true rfl⟩ ⟨(Nat.le_of_ble_eq_true rfl), (Nat.le_of_ble_eq_true rfl)⟩ hl.1 (Nat.le_of_ble_eq_true rfl) rfl dX4_step_2 ?_
  refine lv_astore (lv' := [(5, .ref (a 0)), (0, .ref x), (1, .int (nI j)), (2, .int st), (3, .long k)]) hx hb dX4_step_5 hl (by decide) rfl (fun ls hl => ?_)
  refine lv_aload hx hb dX4_step_7 (lv_at hl 0 rfl) ?_
  refine mw_get G hgf (hP 2 _ rfl) rfl inX1 1 (by decide) qw1_220 rfl dX4_step_9 ?_
  refine lv_astore (lv' := [(6, .ref (a 1)), (5, .ref (a 0)), (0, .ref x), (1, .int (nI j)), (2, .int st), (3, .long k)]) hx hb dX4_step_12 hl (by decide) rfl (fun ls hl => ?_)
  refine lv_aload hx hb dX4_step_14 (lv_at hl 0 rfl) ?_
  refine lv_iload_n hx hb dX4_step_16 rfl (lv_at hl 4 rfl) ?_
  refine kgn_hasStep (f := f) (z := z) st G hgf (hP 3 _ rfl) qw2_63 ⟨Nat.le_of_ble_eq_true rfl, Nat.le_of_ble_eq_true rfl⟩ ⟨(Nat.le_of_ble_eq_true rfl), (Nat.le_of_ble_eq_true rfl)⟩ hl.1 (Nat.le_of_ble_eq_true rfl) dX4_step_17 ?_
  refine lv_if_ne (tgt := 33) hx hb dX4_step_20 (by decide) (fun _ => ?_) (fun h => absurd h h1)
  refine lv_aload hx hb dX4_step_33 (lv_at hl 0 rfl) ?_
  refine lv_lload_n hx hb dX4_step_35 rfl (lv_at hl 5 rfl) ?_
  refine kgn_ofWidth (f := f) (z := z) k G hgf (hP 3 _ rfl) qw2_70 ⟨Nat.le_of_ble_eq_true rfl, Nat.le_of_ble_eq_true rfl⟩ ⟨(Nat.le_of_ble_eq_true rfl), (Nat.le_of_ble_eq_true rfl)⟩ hl.1 (Nat.le_of_ble_eq_true rfl) dX4_step_36 ?_
  refine lv_lstore (lv' := [(7, .long (gn_ofWidth f z k)), (6, .ref (a 1)), (5, .ref (a 0)), (0, .ref x), (1, .int (nI j)), (2, .int st), (3, .long k)]) hx hb dX4_step_39 hl (by decide) rfl (fun ls hl => ?_)
  refine lv_iload_n hx hb dX4_step_41 rfl (lv_at hl 5 rfl) ?_
  refine kS G (cvX4_takesK l D st) okX4_takesK hgf trivial qw2_76 ⟨Nat.le_of_ble_eq_true rfl, Nat.le_of_ble_eq_true rfl⟩ ⟨(Nat.le_of_ble_eq_true rfl), (Nat.le_of_ble_eq_true rfl)⟩ hl.1 (Nat.le_of_ble_eq_true rfl) rfl dX4_step_42 ?_
  refine lv_if_eq (tgt := 68) hx hb dX4_step_45 (by decide) (fun h => absurd h h2) (fun _ => ?_)
  refine lv_aload hx hb dX4_step_48 (lv_at hl 1 rfl) ?_
  refine lv_lload hx hb dX4_step_50 (lv_at hl 0 rfl) ?_
  refine kgn_isNumber (f := f) (z := z) (gn_ofWidth f z k) G hgf (hP 3 _ rfl) qw2_79 ⟨Nat.le_of_ble_eq_true rfl, Nat.le_of_ble_eq_true rfl⟩ ⟨(Nat.le_of_ble_eq_true rfl), (Nat.le_of_ble_eq_true rfl)⟩ hl.1 (Nat.le_of_ble_eq_true rfl) dX4_step_52 ?_
  refine lv_if_ne (tgt := 68) hx hb dX4_step_55 (by decide) (fun h => absurd h3 h) (fun _ => ?_)
  exact mw_throw hlt G hlocks hex hgf hz (by decide +kernel) qw1_61 qw1_6 (text := "K is no number") (by decide +kernel) (by decide +kernel) ex1_IllegalArgumentException ex2_IllegalArgumentException ex3_IllegalArgumentException hl.1 ⟨(Nat.le_of_ble_eq_true rfl), (Nat.le_of_ble_eq_true rfl), (Nat.le_of_ble_eq_true rfl), (Nat.le_of_ble_eq_true rfl)⟩ dX4_step_58 dX4_step_61 dX4_step_62 dX4_step_64 dX4_step_67
set_option maxRecDepth 100000 in
set_option maxHeartbeats 4000000 in
theorem ct_step_3 (l : Launch) (D : mG) (x xa : Nat) (n rd ae se : Int32) (IA : Nat → Option Nat) (a : Nat → Nat) (so : Int32) (lo hi : Int64) (al ch : Int32) (le gr sw su : Int64) (mn : Int32) (f z : Bool) (KI : Nat → Int32) (KJ : Nat → Int64) (L : Nat → Option Nat) (KE : Nat → Int64) (st : Int32) (k : Int64) (hlt : l.stackTraces = false) {N : Nat} (hn : n = nI N) (hN : N ≤ 8) {j : Nat} (hj : j < N) (hq : IA j = some (a 0)) (h1 : ¬ gn_hasStep f z st = 0) (h2 : fX4_takesK st = 0) (h4 : ¬ gi_chainIsFull ch = 0) : cT l D yX4_step cX4_step 9 .int 6 (fun H => va_P D.1 vwCl [(x, .inr (3, xF xa n rd ae se)), (xa, .inl (D.2.2.2, 8, .inr (.inr (.inr (.inr IA))))), (a 0, .inr (1, iF a so lo hi al ch le gr sw su mn)), (a 1, nE f z), (a 2, .inl (D.2.1, 6, .inl KI)), (a 3, .inl (D.2.2.1, 6, .inr (.inl KJ))), (a 4, .inl (D.2.2.2, 6, .inr (.inr (.inr (.inr L))))), (a 5, .inl (D.2.2.1, 16, .inr (.inl KE)))] H) [.ref x, .int (nI j), .int st, .long k] "java/lang/IllegalStateException" := by
  refine cT_of (by decide) (Nat.le_of_ble_eq_true rfl) ?_
  intro p e s m below meth c ls hx hb hlocks hex G hgf hz hP hl
  have hP : va_P D.1 vwCl [(x, .inr (3, xF xa n rd ae se)), (xa, .inl (D.2.2.2, 8, .inr (.inr (.inr (.inr IA))))), (a 0, .inr (1, iF a so lo hi al ch le gr sw su mn)), (a 1, nE f z), (a 2, .inl (D.2.1, 6, .inl KI)), (a 3, .inl (D.2.2.1, 6, .inr (.inl KJ))), (a 4, .inl (D.2.2.2, 6, .inr (.inr (.inr (.inr L))))), (a 5, .inl (D.2.2.1, 16, .inr (.inl KE)))] s.heap := hP
  have hl : lv_has ls 9 [(0, .ref x), (1, .int (nI j)), (2, .int st), (3, .long k)] := hl
  refine lv_aload_n hx hb dX4_step_0 rfl (lv_at hl 0 rfl) ?_
  refine lv_iload_n hx hb dX4_step_1 rfl (lv_at hl 1 rfl) ?_
  refine kV (C := RX4) G (cv_instAt l D x xa n rd ae se IA hn hN hj hq) okX4_instrumentAt hgf (va_P.sub hP [0, 1] rfl) (mw_recv hgf (hP 0 _ rfl) rfl) qw2_43 ⟨Nat.le_of_ble_eq_true rfl, Nat.le_of_ble_eq_true rfl⟩ ⟨(Nat.le_of_ble_eq_true rfl), (Nat.le_of_ble_eq_true rfl)⟩ hl.1 (Nat.le_of_ble_eq_true rfl) rfl dX4_step_2 ?_
  refine lv_astore (lv' := [(5, .ref (a 0)), (0, .ref x), (1, .int (nI j)), (2, .int st), (3, .long k)]) hx hb dX4_step_5 hl (by decide) rfl (fun ls hl => ?_)
  refine lv_aload hx hb dX4_step_7 (lv_at hl 0 rfl) ?_
  refine mw_get G hgf (hP 2 _ rfl) rfl inX1 1 (by decide) qw1_220 rfl dX4_step_9 ?_
  refine lv_astore (lv' := [(6, .ref (a 1)), (5, .ref (a 0)), (0, .ref x), (1, .int (nI j)), (2, .int st), (3, .long k)]) hx hb dX4_step_12 hl (by decide) rfl (fun ls hl => ?_)
  refine lv_aload hx hb dX4_step_14 (lv_at hl 0 rfl) ?_
  refine lv_iload_n hx hb dX4_step_16 rfl (lv_at hl 4 rfl) ?_
  refine kgn_hasStep (f := f) (z := z) st G hgf (hP 3 _ rfl) qw2_63 ⟨Nat.le_of_ble_eq_true rfl, Nat.le_of_ble_eq_true rfl⟩ ⟨(Nat.le_of_ble_eq_true rfl), (Nat.le_of_ble_eq_true rfl)⟩ hl.1 (Nat.le_of_ble_eq_true rfl) dX4_step_17 ?_
  refine lv_if_ne (tgt := 33) hx hb dX4_step_20 (by decide) (fun _ => ?_) (fun h => absurd h h1)
  refine lv_aload hx hb dX4_step_33 (lv_at hl 0 rfl) ?_
  refine lv_lload_n hx hb dX4_step_35 rfl (lv_at hl 5 rfl) ?_
  refine kgn_ofWidth (f := f) (z := z) k G hgf (hP 3 _ rfl) qw2_70 ⟨Nat.le_of_ble_eq_true rfl, Nat.le_of_ble_eq_true rfl⟩ ⟨(Nat.le_of_ble_eq_true rfl), (Nat.le_of_ble_eq_true rfl)⟩ hl.1 (Nat.le_of_ble_eq_true rfl) dX4_step_36 ?_
  refine lv_lstore (lv' := [(7, .long (gn_ofWidth f z k)), (6, .ref (a 1)), (5, .ref (a 0)), (0, .ref x), (1, .int (nI j)), (2, .int st), (3, .long k)]) hx hb dX4_step_39 hl (by decide) rfl (fun ls hl => ?_)
  refine lv_iload_n hx hb dX4_step_41 rfl (lv_at hl 5 rfl) ?_
  refine kS G (cvX4_takesK l D st) okX4_takesK hgf trivial qw2_76 ⟨Nat.le_of_ble_eq_true rfl, Nat.le_of_ble_eq_true rfl⟩ ⟨(Nat.le_of_ble_eq_true rfl), (Nat.le_of_ble_eq_true rfl)⟩ hl.1 (Nat.le_of_ble_eq_true rfl) rfl dX4_step_42 ?_
  refine lv_if_eq (tgt := 68) hx hb dX4_step_45 (by decide) (fun _ => ?_) (fun h => absurd h2 h)
  refine lv_aload hx hb dX4_step_68 (lv_at hl 2 rfl) ?_
  refine kV (C := RX1) G (cv_gi_chainIsFull l D a so lo hi al ch le gr sw su mn f z KI KJ L KE ) okX1_chainIsFull hgf (va_P.sub hP [2, 4] rfl) (mw_recv hgf (hP 2 _ rfl) rfl) qw2_93 ⟨Nat.le_of_ble_eq_true rfl, Nat.le_of_ble_eq_true rfl⟩ ⟨(Nat.le_of_ble_eq_true rfl), (Nat.le_of_ble_eq_true rfl)⟩ hl.1 (Nat.le_of_ble_eq_true rfl) rfl dX4_step_70 ?_
  refine lv_if_eq (tgt := 86) hx hb dX4_step_73 (by decide) (fun h => absurd h h4) (fun _ => ?_)
  exact mw_throw hlt G hlocks hex hgf hz (by decide +kernel) qw2_97 qw1_13 (text := "there are six steps") (by decide +kernel) (by decide +kernel) ex1_IllegalStateException ex2_IllegalStateException ex3_IllegalStateException hl.1 ⟨(Nat.le_of_ble_eq_true rfl), (Nat.le_of_ble_eq_true rfl), (Nat.le_of_ble_eq_true rfl), (Nat.le_of_ble_eq_true rfl)⟩ dX4_step_76 dX4_step_79 dX4_step_80 dX4_step_82 dX4_step_85
set_option maxRecDepth 100000 in
set_option maxHeartbeats 4000000 in
theorem ct_step_4 (l : Launch) (D : mG) (x xa : Nat) (n rd ae se : Int32) (IA : Nat → Option Nat) (a : Nat → Nat) (so : Int32) (lo hi : Int64) (al ch : Int32) (le gr sw su : Int64) (mn : Int32) (f z : Bool) (KI : Nat → Int32) (KJ : Nat → Int64) (L : Nat → Option Nat) (KE : Nat → Int64) (st : Int32) (k : Int64) (hlt : l.stackTraces = false) {N : Nat} (hn : n = nI N) (hN : N ≤ 8) {j : Nat} (hj : j < N) (hq : IA j = some (a 0)) (h1 : ¬ gn_hasStep f z st = 0) (h2 : ¬ fX4_takesK st = 0) (h3 : ¬ gn_isNumber f z (gn_ofWidth f z k) = 0) (h4 : ¬ gi_chainIsFull ch = 0) : cT l D yX4_step cX4_step 9 .int 6 (fun H => va_P D.1 vwCl [(x, .inr (3, xF xa n rd ae se)), (xa, .inl (D.2.2.2, 8, .inr (.inr (.inr (.inr IA))))), (a 0, .inr (1, iF a so lo hi al ch le gr sw su mn)), (a 1, nE f z), (a 2, .inl (D.2.1, 6, .inl KI)), (a 3, .inl (D.2.2.1, 6, .inr (.inl KJ))), (a 4, .inl (D.2.2.2, 6, .inr (.inr (.inr (.inr L))))), (a 5, .inl (D.2.2.1, 16, .inr (.inl KE)))] H) [.ref x, .int (nI j), .int st, .long k] "java/lang/IllegalStateException" := by
  refine cT_of (by decide) (Nat.le_of_ble_eq_true rfl) ?_
  intro p e s m below meth c ls hx hb hlocks hex G hgf hz hP hl
  have hP : va_P D.1 vwCl [(x, .inr (3, xF xa n rd ae se)), (xa, .inl (D.2.2.2, 8, .inr (.inr (.inr (.inr IA))))), (a 0, .inr (1, iF a so lo hi al ch le gr sw su mn)), (a 1, nE f z), (a 2, .inl (D.2.1, 6, .inl KI)), (a 3, .inl (D.2.2.1, 6, .inr (.inl KJ))), (a 4, .inl (D.2.2.2, 6, .inr (.inr (.inr (.inr L))))), (a 5, .inl (D.2.2.1, 16, .inr (.inl KE)))] s.heap := hP
  have hl : lv_has ls 9 [(0, .ref x), (1, .int (nI j)), (2, .int st), (3, .long k)] := hl
  refine lv_aload_n hx hb dX4_step_0 rfl (lv_at hl 0 rfl) ?_
  refine lv_iload_n hx hb dX4_step_1 rfl (lv_at hl 1 rfl) ?_
  refine kV (C := RX4) G (cv_instAt l D x xa n rd ae se IA hn hN hj hq) okX4_instrumentAt hgf (va_P.sub hP [0, 1] rfl) (mw_recv hgf (hP 0 _ rfl) rfl) qw2_43 ⟨Nat.le_of_ble_eq_true rfl, Nat.le_of_ble_eq_true rfl⟩ ⟨(Nat.le_of_ble_eq_true rfl), (Nat.le_of_ble_eq_true rfl)⟩ hl.1 (Nat.le_of_ble_eq_true rfl) rfl dX4_step_2 ?_
  refine lv_astore (lv' := [(5, .ref (a 0)), (0, .ref x), (1, .int (nI j)), (2, .int st), (3, .long k)]) hx hb dX4_step_5 hl (by decide) rfl (fun ls hl => ?_)
  refine lv_aload hx hb dX4_step_7 (lv_at hl 0 rfl) ?_
  refine mw_get G hgf (hP 2 _ rfl) rfl inX1 1 (by decide) qw1_220 rfl dX4_step_9 ?_
  refine lv_astore (lv' := [(6, .ref (a 1)), (5, .ref (a 0)), (0, .ref x), (1, .int (nI j)), (2, .int st), (3, .long k)]) hx hb dX4_step_12 hl (by decide) rfl (fun ls hl => ?_)
  refine lv_aload hx hb dX4_step_14 (lv_at hl 0 rfl) ?_
  refine lv_iload_n hx hb dX4_step_16 rfl (lv_at hl 4 rfl) ?_
  refine kgn_hasStep (f := f) (z := z) st G hgf (hP 3 _ rfl) qw2_63 ⟨Nat.le_of_ble_eq_true rfl, Nat.le_of_ble_eq_true rfl⟩ ⟨(Nat.le_of_ble_eq_true rfl), (Nat.le_of_ble_eq_true rfl)⟩ hl.1 (Nat.le_of_ble_eq_true rfl) dX4_step_17 ?_
  refine lv_if_ne (tgt := 33) hx hb dX4_step_20 (by decide) (fun _ => ?_) (fun h => absurd h h1)
  refine lv_aload hx hb dX4_step_33 (lv_at hl 0 rfl) ?_
  refine lv_lload_n hx hb dX4_step_35 rfl (lv_at hl 5 rfl) ?_
  refine kgn_ofWidth (f := f) (z := z) k G hgf (hP 3 _ rfl) qw2_70 ⟨Nat.le_of_ble_eq_true rfl, Nat.le_of_ble_eq_true rfl⟩ ⟨(Nat.le_of_ble_eq_true rfl), (Nat.le_of_ble_eq_true rfl)⟩ hl.1 (Nat.le_of_ble_eq_true rfl) dX4_step_36 ?_
  refine lv_lstore (lv' := [(7, .long (gn_ofWidth f z k)), (6, .ref (a 1)), (5, .ref (a 0)), (0, .ref x), (1, .int (nI j)), (2, .int st), (3, .long k)]) hx hb dX4_step_39 hl (by decide) rfl (fun ls hl => ?_)
  refine lv_iload_n hx hb dX4_step_41 rfl (lv_at hl 5 rfl) ?_
  refine kS G (cvX4_takesK l D st) okX4_takesK hgf trivial qw2_76 ⟨Nat.le_of_ble_eq_true rfl, Nat.le_of_ble_eq_true rfl⟩ ⟨(Nat.le_of_ble_eq_true rfl), (Nat.le_of_ble_eq_true rfl)⟩ hl.1 (Nat.le_of_ble_eq_true rfl) rfl dX4_step_42 ?_
  refine lv_if_eq (tgt := 68) hx hb dX4_step_45 (by decide) (fun h => absurd h h2) (fun _ => ?_)
  refine lv_aload hx hb dX4_step_48 (lv_at hl 1 rfl) ?_
  refine lv_lload hx hb dX4_step_50 (lv_at hl 0 rfl) ?_
  refine kgn_isNumber (f := f) (z := z) (gn_ofWidth f z k) G hgf (hP 3 _ rfl) qw2_79 ⟨Nat.le_of_ble_eq_true rfl, Nat.le_of_ble_eq_true rfl⟩ ⟨(Nat.le_of_ble_eq_true rfl), (Nat.le_of_ble_eq_true rfl)⟩ hl.1 (Nat.le_of_ble_eq_true rfl) dX4_step_52 ?_
  refine lv_if_ne (tgt := 68) hx hb dX4_step_55 (by decide) (fun _ => ?_) (fun h => absurd h h3)
  refine lv_aload hx hb dX4_step_68 (lv_at hl 2 rfl) ?_
  refine kV (C := RX1) G (cv_gi_chainIsFull l D a so lo hi al ch le gr sw su mn f z KI KJ L KE ) okX1_chainIsFull hgf (va_P.sub hP [2, 4] rfl) (mw_recv hgf (hP 2 _ rfl) rfl) qw2_93 ⟨Nat.le_of_ble_eq_true rfl, Nat.le_of_ble_eq_true rfl⟩ ⟨(Nat.le_of_ble_eq_true rfl), (Nat.le_of_ble_eq_true rfl)⟩ hl.1 (Nat.le_of_ble_eq_true rfl) rfl dX4_step_70 ?_
  refine lv_if_eq (tgt := 86) hx hb dX4_step_73 (by decide) (fun h => absurd h h4) (fun _ => ?_)
  exact mw_throw hlt G hlocks hex hgf hz (by decide +kernel) qw2_97 qw1_13 (text := "there are six steps") (by decide +kernel) (by decide +kernel) ex1_IllegalStateException ex2_IllegalStateException ex3_IllegalStateException hl.1 ⟨(Nat.le_of_ble_eq_true rfl), (Nat.le_of_ble_eq_true rfl), (Nat.le_of_ble_eq_true rfl), (Nat.le_of_ble_eq_true rfl)⟩ dX4_step_76 dX4_step_79 dX4_step_80 dX4_step_82 dX4_step_85
set_option maxRecDepth 100000 in
set_option maxHeartbeats 4000000 in
theorem ct_follow_c (l : Launch) (D : mG) (x xa : Nat) (n rd ae se : Int32) (IA : Nat → Option Nat) (a : Nat → Nat) (so : Int32) (lo hi : Int64) (al ch : Int32) (le gr sw su : Int64) (mn : Int32) (f z : Bool) (KI : Nat → Int32) (KJ : Nat → Int64) (L : Nat → Option Nat) (KE : Nat → Int64) (st : Int32) (hlt : l.stackTraces = false) {N : Nat} (hn : n = nI N) (hN : N ≤ 8) {j : Nat} (hj : j < N) (hq : IA j = some (a 0)) {i : Int32} (hbad : i < 0 ∨ 8 ≤ i ∨ IA i.toNatClampNeg = none) : cT l D yX4_follow cX4_follow 6 .int 7 (fun H => va_P D.1 vwCl [(x, .inr (3, xF xa n rd ae se)), (xa, .inl (D.2.2.2, 8, .inr (.inr (.inr (.inr IA))))), (a 0, .inr (1, iF a so lo hi al ch le gr sw su mn)), (a 1, nE f z), (a 2, .inl (D.2.1, 6, .inl KI)), (a 3, .inl (D.2.2.1, 6, .inr (.inl KJ))), (a 4, .inl (D.2.2.2, 6, .inr (.inr (.inr (.inr L))))), (a 5, .inl (D.2.2.1, 16, .inr (.inl KE)))] H) [.ref x, .int (nI j), .int st, .int i] "java/lang/IndexOutOfBoundsException" := by
  refine cT_of (by decide) (Nat.le_of_ble_eq_true rfl) ?_
  intro p e s m below meth c ls hx hb hlocks hex G hgf hz hP hl
  have hP : va_P D.1 vwCl [(x, .inr (3, xF xa n rd ae se)), (xa, .inl (D.2.2.2, 8, .inr (.inr (.inr (.inr IA))))), (a 0, .inr (1, iF a so lo hi al ch le gr sw su mn)), (a 1, nE f z), (a 2, .inl (D.2.1, 6, .inl KI)), (a 3, .inl (D.2.2.1, 6, .inr (.inl KJ))), (a 4, .inl (D.2.2.2, 6, .inr (.inr (.inr (.inr L))))), (a 5, .inl (D.2.2.1, 16, .inr (.inl KE)))] s.heap := hP
  have hl : lv_has ls 6 [(0, .ref x), (1, .int (nI j)), (2, .int st), (3, .int i)] := hl
  refine lv_aload_n hx hb dX4_follow_0 rfl (lv_at hl 0 rfl) ?_
  refine lv_iload_n hx hb dX4_follow_1 rfl (lv_at hl 1 rfl) ?_
  refine kV (C := RX4) G (cv_instAt l D x xa n rd ae se IA hn hN hj hq) okX4_instrumentAt hgf (va_P.sub hP [0, 1] rfl) (mw_recv hgf (hP 0 _ rfl) rfl) qw2_43 ⟨Nat.le_of_ble_eq_true rfl, Nat.le_of_ble_eq_true rfl⟩ ⟨(Nat.le_of_ble_eq_true rfl), (Nat.le_of_ble_eq_true rfl)⟩ hl.1 (Nat.le_of_ble_eq_true rfl) rfl dX4_follow_2 ?_
  refine lv_astore (lv' := [(4, .ref (a 0)), (0, .ref x), (1, .int (nI j)), (2, .int st), (3, .int i)]) hx hb dX4_follow_5 hl (by decide) rfl (fun ls hl => ?_)
  refine lv_aload_n hx hb dX4_follow_7 rfl (lv_at hl 1 rfl) ?_
  refine lv_iload_n hx hb dX4_follow_8 rfl (lv_at hl 4 rfl) ?_
  exact kT (C := RX4) G hlocks hex (ct_instAt l D x xa n rd ae se IA hlt hbad) okX4_instrumentAt hgf hz (va_P.sub hP [0, 1] rfl) (mw_recv hgf (hP 0 _ rfl) rfl) qw2_43 ⟨Nat.le_of_ble_eq_true rfl, Nat.le_of_ble_eq_true rfl⟩ ⟨(Nat.le_of_ble_eq_true rfl), (Nat.le_of_ble_eq_true rfl)⟩ hl.1 (Nat.le_of_ble_eq_true rfl) rfl dX4_follow_9
set_option maxRecDepth 100000 in
set_option maxHeartbeats 4000000 in
theorem ct_follow_1 (l : Launch) (D : mG) (x xa : Nat) (n rd ae se : Int32) (IA : Nat → Option Nat) (a : Nat → Nat) (so : Int32) (lo hi : Int64) (al ch : Int32) (le gr sw su : Int64) (mn : Int32) (f z : Bool) (KI : Nat → Int32) (KJ : Nat → Int64) (L : Nat → Option Nat) (KE : Nat → Int64) (a2 : Nat → Nat) (so2 : Int32) (lo2 hi2 : Int64) (al2 ch2 : Int32) (le2 gr2 sw2 su2 : Int64) (mn2 : Int32) (st : Int32) (hlt : l.stackTraces = false) {N : Nat} (hn : n = nI N) (hN : N ≤ 8) {j : Nat} (hj : j < N) (hq : IA j = some (a 0)) {o : Nat} (ho : o < N) (hqo : IA o = some (a2 0)) (h1 : gn_hasStep f z st = 0) : cT l D yX4_follow cX4_follow 6 .int 6 (fun H => va_P D.1 vwCl [(x, .inr (3, xF xa n rd ae se)), (xa, .inl (D.2.2.2, 8, .inr (.inr (.inr (.inr IA))))), (a 0, .inr (1, iF a so lo hi al ch le gr sw su mn)), (a 1, nE f z), (a 2, .inl (D.2.1, 6, .inl KI)), (a 3, .inl (D.2.2.1, 6, .inr (.inl KJ))), (a 4, .inl (D.2.2.2, 6, .inr (.inr (.inr (.inr L))))), (a 5, .inl (D.2.2.1, 16, .inr (.inl KE))), (a2 0, .inr (1, iF a2 so2 lo2 hi2 al2 ch2 le2 gr2 sw2 su2 mn2))] H) [.ref x, .int (nI j), .int st, .int (nI o)] "java/lang/IllegalArgumentException" := by
  refine cT_of (by decide) (Nat.le_of_ble_eq_true rfl) ?_
  intro p e s m below meth c ls hx hb hlocks hex G hgf hz hP hl
  have hP : va_P D.1 vwCl [(x, .inr (3, xF xa n rd ae se)), (xa, .inl (D.2.2.2, 8, .inr (.inr (.inr (.inr IA))))), (a 0, .inr (1, iF a so lo hi al ch le gr sw su mn)), (a 1, nE f z), (a 2, .inl (D.2.1, 6, .inl KI)), (a 3, .inl (D.2.2.1, 6, .inr (.inl KJ))), (a 4, .inl (D.2.2.2, 6, .inr (.inr (.inr (.inr L))))), (a 5, .inl (D.2.2.1, 16, .inr (.inl KE))), (a2 0, .inr (1, iF a2 so2 lo2 hi2 al2 ch2 le2 gr2 sw2 su2 mn2))] s.heap := hP
  have hl : lv_has ls 6 [(0, .ref x), (1, .int (nI j)), (2, .int st), (3, .int (nI o))] := hl
  refine lv_aload_n hx hb dX4_follow_0 rfl (lv_at hl 0 rfl) ?_
  refine lv_iload_n hx hb dX4_follow_1 rfl (lv_at hl 1 rfl) ?_
  refine kV (C := RX4) G (cv_instAt l D x xa n rd ae se IA hn hN hj hq) okX4_instrumentAt hgf (va_P.sub hP [0, 1] rfl) (mw_recv hgf (hP 0 _ rfl) rfl) qw2_43 ⟨Nat.le_of_ble_eq_true rfl, Nat.le_of_ble_eq_true rfl⟩ ⟨(Nat.le_of_ble_eq_true rfl), (Nat.le_of_ble_eq_true rfl)⟩ hl.1 (Nat.le_of_ble_eq_true rfl) rfl dX4_follow_2 ?_
  refine lv_astore (lv' := [(4, .ref (a 0)), (0, .ref x), (1, .int (nI j)), (2, .int st), (3, .int (nI o))]) hx hb dX4_follow_5 hl (by decide) rfl (fun ls hl => ?_)
  refine lv_aload_n hx hb dX4_follow_7 rfl (lv_at hl 1 rfl) ?_
  refine lv_iload_n hx hb dX4_follow_8 rfl (lv_at hl 4 rfl) ?_
  refine kV (C := RX4) G (cv_instAt l D x xa n rd ae se IA hn hN ho hqo) okX4_instrumentAt hgf (va_P.sub hP [0, 1] rfl) (mw_recv hgf (hP 0 _ rfl) rfl) qw2_43 ⟨Nat.le_of_ble_eq_true rfl, Nat.le_of_ble_eq_true rfl⟩ ⟨(Nat.le_of_ble_eq_true rfl), (Nat.le_of_ble_eq_true rfl)⟩ hl.1 (Nat.le_of_ble_eq_true rfl) rfl dX4_follow_9 ?_
  refine lv_astore (lv' := [(5, .ref (a2 0)), (4, .ref (a 0)), (0, .ref x), (1, .int (nI j)), (2, .int st), (3, .int (nI o))]) hx hb dX4_follow_12 hl (by decide) rfl (fun ls hl => ?_)
  refine lv_aload hx hb dX4_follow_14 (lv_at hl 1 rfl) ?_
  refine mw_get G hgf (hP 2 _ rfl) rfl inX1 1 (by decide) qw1_220 rfl dX4_follow_16 ?_
  refine lv_iload_n hx hb dX4_follow_19 rfl (lv_at hl 4 rfl) ?_
  refine kgn_hasStep (f := f) (z := z) st G hgf (hP 3 _ rfl) qw2_63 ⟨Nat.le_of_ble_eq_true rfl, Nat.le_of_ble_eq_true rfl⟩ ⟨(Nat.le_of_ble_eq_true rfl), (Nat.le_of_ble_eq_true rfl)⟩ hl.1 (Nat.le_of_ble_eq_true rfl) dX4_follow_20 ?_
  refine lv_if_eq (tgt := 33) hx hb dX4_follow_23 (by decide) (fun _ => ?_) (fun h => absurd h1 h)
  exact mw_throw hlt G hlocks hex hgf hz (by decide +kernel) qw1_61 qw1_6 (text := "no such step with K of this sort") (by decide +kernel) (by decide +kernel) ex1_IllegalArgumentException ex2_IllegalArgumentException ex3_IllegalArgumentException hl.1 ⟨(Nat.le_of_ble_eq_true rfl), (Nat.le_of_ble_eq_true rfl), (Nat.le_of_ble_eq_true rfl), (Nat.le_of_ble_eq_true rfl)⟩ dX4_follow_33 dX4_follow_36 dX4_follow_37 dX4_follow_39 dX4_follow_42
set_option maxRecDepth 100000 in
set_option maxHeartbeats 4000000 in
theorem ct_follow_1s (l : Launch) (D : mG) (x xa : Nat) (n rd ae se : Int32) (IA : Nat → Option Nat) (a : Nat → Nat) (so : Int32) (lo hi : Int64) (al ch : Int32) (le gr sw su : Int64) (mn : Int32) (f z : Bool) (KI : Nat → Int32) (KJ : Nat → Int64) (L : Nat → Option Nat) (KE : Nat → Int64) (st : Int32) (hlt : l.stackTraces = false) {N : Nat} (hn : n = nI N) (hN : N ≤ 8) {j : Nat} (hj : j < N) (hq : IA j = some (a 0)) (h1 : gn_hasStep f z st = 0) : cT l D yX4_follow cX4_follow 6 .int 6 (fun H => va_P D.1 vwCl [(x, .inr (3, xF xa n rd ae se)), (xa, .inl (D.2.2.2, 8, .inr (.inr (.inr (.inr IA))))), (a 0, .inr (1, iF a so lo hi al ch le gr sw su mn)), (a 1, nE f z), (a 2, .inl (D.2.1, 6, .inl KI)), (a 3, .inl (D.2.2.1, 6, .inr (.inl KJ))), (a 4, .inl (D.2.2.2, 6, .inr (.inr (.inr (.inr L))))), (a 5, .inl (D.2.2.1, 16, .inr (.inl KE)))] H) [.ref x, .int (nI j), .int st, .int (nI j)] "java/lang/IllegalArgumentException" := by
  refine cT_of (by decide) (Nat.le_of_ble_eq_true rfl) ?_
  intro p e s m below meth c ls hx hb hlocks hex G hgf hz hP hl
  have hP : va_P D.1 vwCl [(x, .inr (3, xF xa n rd ae se)), (xa, .inl (D.2.2.2, 8, .inr (.inr (.inr (.inr IA))))), (a 0, .inr (1, iF a so lo hi al ch le gr sw su mn)), (a 1, nE f z), (a 2, .inl (D.2.1, 6, .inl KI)), (a 3, .inl (D.2.2.1, 6, .inr (.inl KJ))), (a 4, .inl (D.2.2.2, 6, .inr (.inr (.inr (.inr L))))), (a 5, .inl (D.2.2.1, 16, .inr (.inl KE)))] s.heap := hP
  have hl : lv_has ls 6 [(0, .ref x), (1, .int (nI j)), (2, .int st), (3, .int (nI j))] := hl
  refine lv_aload_n hx hb dX4_follow_0 rfl (lv_at hl 0 rfl) ?_
  refine lv_iload_n hx hb dX4_follow_1 rfl (lv_at hl 1 rfl) ?_
  refine kV (C := RX4) G (cv_instAt l D x xa n rd ae se IA hn hN hj hq) okX4_instrumentAt hgf (va_P.sub hP [0, 1] rfl) (mw_recv hgf (hP 0 _ rfl) rfl) qw2_43 ⟨Nat.le_of_ble_eq_true rfl, Nat.le_of_ble_eq_true rfl⟩ ⟨(Nat.le_of_ble_eq_true rfl), (Nat.le_of_ble_eq_true rfl)⟩ hl.1 (Nat.le_of_ble_eq_true rfl) rfl dX4_follow_2 ?_
  refine lv_astore (lv' := [(4, .ref (a 0)), (0, .ref x), (1, .int (nI j)), (2, .int st), (3, .int (nI j))]) hx hb dX4_follow_5 hl (by decide) rfl (fun ls hl => ?_)
  refine lv_aload_n hx hb dX4_follow_7 rfl (lv_at hl 1 rfl) ?_
  refine lv_iload_n hx hb dX4_follow_8 rfl (lv_at hl 4 rfl) ?_
  refine kV (C := RX4) G (cv_instAt l D x xa n rd ae se IA hn hN hj hq) okX4_instrumentAt hgf (va_P.sub hP [0, 1] rfl) (mw_recv hgf (hP 0 _ rfl) rfl) qw2_43 ⟨Nat.le_of_ble_eq_true rfl, Nat.le_of_ble_eq_true rfl⟩ ⟨(Nat.le_of_ble_eq_true rfl), (Nat.le_of_ble_eq_true rfl)⟩ hl.1 (Nat.le_of_ble_eq_true rfl) rfl dX4_follow_9 ?_
  refine lv_astore (lv' := [(5, .ref (a 0)), (4, .ref (a 0)), (0, .ref x), (1, .int (nI j)), (2, .int st), (3, .int (nI j))]) hx hb dX4_follow_12 hl (by decide) rfl (fun ls hl => ?_)
  refine lv_aload hx hb dX4_follow_14 (lv_at hl 1 rfl) ?_
  refine mw_get G hgf (hP 2 _ rfl) rfl inX1 1 (by decide) qw1_220 rfl dX4_follow_16 ?_
  refine lv_iload_n hx hb dX4_follow_19 rfl (lv_at hl 4 rfl) ?_
  refine kgn_hasStep (f := f) (z := z) st G hgf (hP 3 _ rfl) qw2_63 ⟨Nat.le_of_ble_eq_true rfl, Nat.le_of_ble_eq_true rfl⟩ ⟨(Nat.le_of_ble_eq_true rfl), (Nat.le_of_ble_eq_true rfl)⟩ hl.1 (Nat.le_of_ble_eq_true rfl) dX4_follow_20 ?_
  refine lv_if_eq (tgt := 33) hx hb dX4_follow_23 (by decide) (fun _ => ?_) (fun h => absurd h1 h)
  exact mw_throw hlt G hlocks hex hgf hz (by decide +kernel) qw1_61 qw1_6 (text := "no such step with K of this sort") (by decide +kernel) (by decide +kernel) ex1_IllegalArgumentException ex2_IllegalArgumentException ex3_IllegalArgumentException hl.1 ⟨(Nat.le_of_ble_eq_true rfl), (Nat.le_of_ble_eq_true rfl), (Nat.le_of_ble_eq_true rfl), (Nat.le_of_ble_eq_true rfl)⟩ dX4_follow_33 dX4_follow_36 dX4_follow_37 dX4_follow_39 dX4_follow_42
set_option maxRecDepth 100000 in
set_option maxHeartbeats 4000000 in
theorem ct_follow_2 (l : Launch) (D : mG) (x xa : Nat) (n rd ae se : Int32) (IA : Nat → Option Nat) (a : Nat → Nat) (so : Int32) (lo hi : Int64) (al ch : Int32) (le gr sw su : Int64) (mn : Int32) (f z : Bool) (KI : Nat → Int32) (KJ : Nat → Int64) (L : Nat → Option Nat) (KE : Nat → Int64) (a2 : Nat → Nat) (so2 : Int32) (lo2 hi2 : Int64) (al2 ch2 : Int32) (le2 gr2 sw2 su2 : Int64) (mn2 : Int32) (st : Int32) (hlt : l.stackTraces = false) {N : Nat} (hn : n = nI N) (hN : N ≤ 8) {j : Nat} (hj : j < N) (hq : IA j = some (a 0)) {o : Nat} (ho : o < N) (hqo : IA o = some (a2 0)) (h1 : ¬ gn_hasStep f z st = 0) (h2 : fX4_takesK st = 0) : cT l D yX4_follow cX4_follow 6 .int 6 (fun H => va_P D.1 vwCl [(x, .inr (3, xF xa n rd ae se)), (xa, .inl (D.2.2.2, 8, .inr (.inr (.inr (.inr IA))))), (a 0, .inr (1, iF a so lo hi al ch le gr sw su mn)), (a 1, nE f z), (a 2, .inl (D.2.1, 6, .inl KI)), (a 3, .inl (D.2.2.1, 6, .inr (.inl KJ))), (a 4, .inl (D.2.2.2, 6, .inr (.inr (.inr (.inr L))))), (a 5, .inl (D.2.2.1, 16, .inr (.inl KE))), (a2 0, .inr (1, iF a2 so2 lo2 hi2 al2 ch2 le2 gr2 sw2 su2 mn2))] H) [.ref x, .int (nI j), .int st, .int (nI o)] "java/lang/IllegalArgumentException" := by
  refine cT_of (by decide) (Nat.le_of_ble_eq_true rfl) ?_
  intro p e s m below meth c ls hx hb hlocks hex G hgf hz hP hl
  have hP : va_P D.1 vwCl [(x, .inr (3, xF xa n rd ae se)), (xa, .inl (D.2.2.2, 8, .inr (.inr (.inr (.inr IA))))), (a 0, .inr (1, iF a so lo hi al ch le gr sw su mn)), (a 1, nE f z), (a 2, .inl (D.2.1, 6, .inl KI)), (a 3, .inl (D.2.2.1, 6, .inr (.inl KJ))), (a 4, .inl (D.2.2.2, 6, .inr (.inr (.inr (.inr L))))), (a 5, .inl (D.2.2.1, 16, .inr (.inl KE))), (a2 0, .inr (1, iF a2 so2 lo2 hi2 al2 ch2 le2 gr2 sw2 su2 mn2))] s.heap := hP
  have hl : lv_has ls 6 [(0, .ref x), (1, .int (nI j)), (2, .int st), (3, .int (nI o))] := hl
  refine lv_aload_n hx hb dX4_follow_0 rfl (lv_at hl 0 rfl) ?_
  refine lv_iload_n hx hb dX4_follow_1 rfl (lv_at hl 1 rfl) ?_
  refine kV (C := RX4) G (cv_instAt l D x xa n rd ae se IA hn hN hj hq) okX4_instrumentAt hgf (va_P.sub hP [0, 1] rfl) (mw_recv hgf (hP 0 _ rfl) rfl) qw2_43 ⟨Nat.le_of_ble_eq_true rfl, Nat.le_of_ble_eq_true rfl⟩ ⟨(Nat.le_of_ble_eq_true rfl), (Nat.le_of_ble_eq_true rfl)⟩ hl.1 (Nat.le_of_ble_eq_true rfl) rfl dX4_follow_2 ?_
  refine lv_astore (lv' := [(4, .ref (a 0)), (0, .ref x), (1, .int (nI j)), (2, .int st), (3, .int (nI o))]) hx hb dX4_follow_5 hl (by decide) rfl (fun ls hl => ?_)
  refine lv_aload_n hx hb dX4_follow_7 rfl (lv_at hl 1 rfl) ?_
  refine lv_iload_n hx hb dX4_follow_8 rfl (lv_at hl 4 rfl) ?_
  refine kV (C := RX4) G (cv_instAt l D x xa n rd ae se IA hn hN ho hqo) okX4_instrumentAt hgf (va_P.sub hP [0, 1] rfl) (mw_recv hgf (hP 0 _ rfl) rfl) qw2_43 ⟨Nat.le_of_ble_eq_true rfl, Nat.le_of_ble_eq_true rfl⟩ ⟨(Nat.le_of_ble_eq_true rfl), (Nat.le_of_ble_eq_true rfl)⟩ hl.1 (Nat.le_of_ble_eq_true rfl) rfl dX4_follow_9 ?_
  refine lv_astore (lv' := [(5, .ref (a2 0)), (4, .ref (a 0)), (0, .ref x), (1, .int (nI j)), (2, .int st), (3, .int (nI o))]) hx hb dX4_follow_12 hl (by decide) rfl (fun ls hl => ?_)
  refine lv_aload hx hb dX4_follow_14 (lv_at hl 1 rfl) ?_
  refine mw_get G hgf (hP 2 _ rfl) rfl inX1 1 (by decide) qw1_220 rfl dX4_follow_16 ?_
  refine lv_iload_n hx hb dX4_follow_19 rfl (lv_at hl 4 rfl) ?_
  refine kgn_hasStep (f := f) (z := z) st G hgf (hP 3 _ rfl) qw2_63 ⟨Nat.le_of_ble_eq_true rfl, Nat.le_of_ble_eq_true rfl⟩ ⟨(Nat.le_of_ble_eq_true rfl), (Nat.le_of_ble_eq_true rfl)⟩ hl.1 (Nat.le_of_ble_eq_true rfl) dX4_follow_20 ?_
  refine lv_if_eq (tgt := 33) hx hb dX4_follow_23 (by decide) (fun h => absurd h h1) (fun _ => ?_)
  refine lv_iload_n hx hb dX4_follow_26 rfl (lv_at hl 4 rfl) ?_
  refine kS G (cvX4_takesK l D st) okX4_takesK hgf trivial qw2_76 ⟨Nat.le_of_ble_eq_true rfl, Nat.le_of_ble_eq_true rfl⟩ ⟨(Nat.le_of_ble_eq_true rfl), (Nat.le_of_ble_eq_true rfl)⟩ hl.1 (Nat.le_of_ble_eq_true rfl) rfl dX4_follow_27 ?_
  refine lv_if_ne (tgt := 43) hx hb dX4_follow_30 (by decide) (fun h => absurd h2 h) (fun _ => ?_)
  exact mw_throw hlt G hlocks hex hgf hz (by decide +kernel) qw1_61 qw1_6 (text := "no such step with K of this sort") (by decide +kernel) (by decide +kernel) ex1_IllegalArgumentException ex2_IllegalArgumentException ex3_IllegalArgumentException hl.1 ⟨(Nat.le_of_ble_eq_true rfl), (Nat.le_of_ble_eq_true rfl), (Nat.le_of_ble_eq_true rfl), (Nat.le_of_ble_eq_true rfl)⟩ dX4_follow_33 dX4_follow_36 dX4_follow_37 dX4_follow_39 dX4_follow_42
set_option maxRecDepth 100000 in
set_option maxHeartbeats 4000000 in
theorem ct_follow_2s (l : Launch) (D : mG) (x xa : Nat) (n rd ae se : Int32) (IA : Nat → Option Nat) (a : Nat → Nat) (so : Int32) (lo hi : Int64) (al ch : Int32) (le gr sw su : Int64) (mn : Int32) (f z : Bool) (KI : Nat → Int32) (KJ : Nat → Int64) (L : Nat → Option Nat) (KE : Nat → Int64) (st : Int32) (hlt : l.stackTraces = false) {N : Nat} (hn : n = nI N) (hN : N ≤ 8) {j : Nat} (hj : j < N) (hq : IA j = some (a 0)) (h1 : ¬ gn_hasStep f z st = 0) (h2 : fX4_takesK st = 0) : cT l D yX4_follow cX4_follow 6 .int 6 (fun H => va_P D.1 vwCl [(x, .inr (3, xF xa n rd ae se)), (xa, .inl (D.2.2.2, 8, .inr (.inr (.inr (.inr IA))))), (a 0, .inr (1, iF a so lo hi al ch le gr sw su mn)), (a 1, nE f z), (a 2, .inl (D.2.1, 6, .inl KI)), (a 3, .inl (D.2.2.1, 6, .inr (.inl KJ))), (a 4, .inl (D.2.2.2, 6, .inr (.inr (.inr (.inr L))))), (a 5, .inl (D.2.2.1, 16, .inr (.inl KE)))] H) [.ref x, .int (nI j), .int st, .int (nI j)] "java/lang/IllegalArgumentException" := by
  refine cT_of (by decide) (Nat.le_of_ble_eq_true rfl) ?_
  intro p e s m below meth c ls hx hb hlocks hex G hgf hz hP hl
  have hP : va_P D.1 vwCl [(x, .inr (3, xF xa n rd ae se)), (xa, .inl (D.2.2.2, 8, .inr (.inr (.inr (.inr IA))))), (a 0, .inr (1, iF a so lo hi al ch le gr sw su mn)), (a 1, nE f z), (a 2, .inl (D.2.1, 6, .inl KI)), (a 3, .inl (D.2.2.1, 6, .inr (.inl KJ))), (a 4, .inl (D.2.2.2, 6, .inr (.inr (.inr (.inr L))))), (a 5, .inl (D.2.2.1, 16, .inr (.inl KE)))] s.heap := hP
  have hl : lv_has ls 6 [(0, .ref x), (1, .int (nI j)), (2, .int st), (3, .int (nI j))] := hl
  refine lv_aload_n hx hb dX4_follow_0 rfl (lv_at hl 0 rfl) ?_
  refine lv_iload_n hx hb dX4_follow_1 rfl (lv_at hl 1 rfl) ?_
  refine kV (C := RX4) G (cv_instAt l D x xa n rd ae se IA hn hN hj hq) okX4_instrumentAt hgf (va_P.sub hP [0, 1] rfl) (mw_recv hgf (hP 0 _ rfl) rfl) qw2_43 ⟨Nat.le_of_ble_eq_true rfl, Nat.le_of_ble_eq_true rfl⟩ ⟨(Nat.le_of_ble_eq_true rfl), (Nat.le_of_ble_eq_true rfl)⟩ hl.1 (Nat.le_of_ble_eq_true rfl) rfl dX4_follow_2 ?_
  refine lv_astore (lv' := [(4, .ref (a 0)), (0, .ref x), (1, .int (nI j)), (2, .int st), (3, .int (nI j))]) hx hb dX4_follow_5 hl (by decide) rfl (fun ls hl => ?_)
  refine lv_aload_n hx hb dX4_follow_7 rfl (lv_at hl 1 rfl) ?_
  refine lv_iload_n hx hb dX4_follow_8 rfl (lv_at hl 4 rfl) ?_
  refine kV (C := RX4) G (cv_instAt l D x xa n rd ae se IA hn hN hj hq) okX4_instrumentAt hgf (va_P.sub hP [0, 1] rfl) (mw_recv hgf (hP 0 _ rfl) rfl) qw2_43 ⟨Nat.le_of_ble_eq_true rfl, Nat.le_of_ble_eq_true rfl⟩ ⟨(Nat.le_of_ble_eq_true rfl), (Nat.le_of_ble_eq_true rfl)⟩ hl.1 (Nat.le_of_ble_eq_true rfl) rfl dX4_follow_9 ?_
  refine lv_astore (lv' := [(5, .ref (a 0)), (4, .ref (a 0)), (0, .ref x), (1, .int (nI j)), (2, .int st), (3, .int (nI j))]) hx hb dX4_follow_12 hl (by decide) rfl (fun ls hl => ?_)
  refine lv_aload hx hb dX4_follow_14 (lv_at hl 1 rfl) ?_
  refine mw_get G hgf (hP 2 _ rfl) rfl inX1 1 (by decide) qw1_220 rfl dX4_follow_16 ?_
  refine lv_iload_n hx hb dX4_follow_19 rfl (lv_at hl 4 rfl) ?_
  refine kgn_hasStep (f := f) (z := z) st G hgf (hP 3 _ rfl) qw2_63 ⟨Nat.le_of_ble_eq_true rfl, Nat.le_of_ble_eq_true rfl⟩ ⟨(Nat.le_of_ble_eq_true rfl), (Nat.le_of_ble_eq_true rfl)⟩ hl.1 (Nat.le_of_ble_eq_true rfl) dX4_follow_20 ?_
  refine lv_if_eq (tgt := 33) hx hb dX4_follow_23 (by decide) (fun h => absurd h h1) (fun _ => ?_)
  refine lv_iload_n hx hb dX4_follow_26 rfl (lv_at hl 4 rfl) ?_
  refine kS G (cvX4_takesK l D st) okX4_takesK hgf trivial qw2_76 ⟨Nat.le_of_ble_eq_true rfl, Nat.le_of_ble_eq_true rfl⟩ ⟨(Nat.le_of_ble_eq_true rfl), (Nat.le_of_ble_eq_true rfl)⟩ hl.1 (Nat.le_of_ble_eq_true rfl) rfl dX4_follow_27 ?_
  refine lv_if_ne (tgt := 43) hx hb dX4_follow_30 (by decide) (fun h => absurd h2 h) (fun _ => ?_)
  exact mw_throw hlt G hlocks hex hgf hz (by decide +kernel) qw1_61 qw1_6 (text := "no such step with K of this sort") (by decide +kernel) (by decide +kernel) ex1_IllegalArgumentException ex2_IllegalArgumentException ex3_IllegalArgumentException hl.1 ⟨(Nat.le_of_ble_eq_true rfl), (Nat.le_of_ble_eq_true rfl), (Nat.le_of_ble_eq_true rfl), (Nat.le_of_ble_eq_true rfl)⟩ dX4_follow_33 dX4_follow_36 dX4_follow_37 dX4_follow_39 dX4_follow_42
set_option maxRecDepth 100000 in
set_option maxHeartbeats 4000000 in
theorem ct_follow_3 (l : Launch) (D : mG) (x xa : Nat) (n rd ae se : Int32) (IA : Nat → Option Nat) (a : Nat → Nat) (so : Int32) (lo hi : Int64) (al ch : Int32) (le gr sw su : Int64) (mn : Int32) (f z : Bool) (KI : Nat → Int32) (KJ : Nat → Int64) (L : Nat → Option Nat) (KE : Nat → Int64) (a2 : Nat → Nat) (so2 : Int32) (lo2 hi2 : Int64) (al2 ch2 : Int32) (le2 gr2 sw2 su2 : Int64) (mn2 : Int32) (st : Int32) (hlt : l.stackTraces = false) {N : Nat} (hn : n = nI N) (hN : N ≤ 8) {j : Nat} (hj : j < N) (hq : IA j = some (a 0)) {o : Nat} (ho : o < N) (hqo : IA o = some (a2 0)) (h1 : ¬ gn_hasStep f z st = 0) (h2 : ¬ fX4_takesK st = 0) (h3 : ¬ so = so2) : cT l D yX4_follow cX4_follow 6 .int 6 (fun H => va_P D.1 vwCl [(x, .inr (3, xF xa n rd ae se)), (xa, .inl (D.2.2.2, 8, .inr (.inr (.inr (.inr IA))))), (a 0, .inr (1, iF a so lo hi al ch le gr sw su mn)), (a 1, nE f z), (a 2, .inl (D.2.1, 6, .inl KI)), (a 3, .inl (D.2.2.1, 6, .inr (.inl KJ))), (a 4, .inl (D.2.2.2, 6, .inr (.inr (.inr (.inr L))))), (a 5, .inl (D.2.2.1, 16, .inr (.inl KE))), (a2 0, .inr (1, iF a2 so2 lo2 hi2 al2 ch2 le2 gr2 sw2 su2 mn2))] H) [.ref x, .int (nI j), .int st, .int (nI o)] "java/lang/IllegalArgumentException" := by
  refine cT_of (by decide) (Nat.le_of_ble_eq_true rfl) ?_
  intro p e s m below meth c ls hx hb hlocks hex G hgf hz hP hl
  have hP : va_P D.1 vwCl [(x, .inr (3, xF xa n rd ae se)), (xa, .inl (D.2.2.2, 8, .inr (.inr (.inr (.inr IA))))), (a 0, .inr (1, iF a so lo hi al ch le gr sw su mn)), (a 1, nE f z), (a 2, .inl (D.2.1, 6, .inl KI)), (a 3, .inl (D.2.2.1, 6, .inr (.inl KJ))), (a 4, .inl (D.2.2.2, 6, .inr (.inr (.inr (.inr L))))), (a 5, .inl (D.2.2.1, 16, .inr (.inl KE))), (a2 0, .inr (1, iF a2 so2 lo2 hi2 al2 ch2 le2 gr2 sw2 su2 mn2))] s.heap := hP
  have hl : lv_has ls 6 [(0, .ref x), (1, .int (nI j)), (2, .int st), (3, .int (nI o))] := hl
  refine lv_aload_n hx hb dX4_follow_0 rfl (lv_at hl 0 rfl) ?_
  refine lv_iload_n hx hb dX4_follow_1 rfl (lv_at hl 1 rfl) ?_
  refine kV (C := RX4) G (cv_instAt l D x xa n rd ae se IA hn hN hj hq) okX4_instrumentAt hgf (va_P.sub hP [0, 1] rfl) (mw_recv hgf (hP 0 _ rfl) rfl) qw2_43 ⟨Nat.le_of_ble_eq_true rfl, Nat.le_of_ble_eq_true rfl⟩ ⟨(Nat.le_of_ble_eq_true rfl), (Nat.le_of_ble_eq_true rfl)⟩ hl.1 (Nat.le_of_ble_eq_true rfl) rfl dX4_follow_2 ?_
  refine lv_astore (lv' := [(4, .ref (a 0)), (0, .ref x), (1, .int (nI j)), (2, .int st), (3, .int (nI o))]) hx hb dX4_follow_5 hl (by decide) rfl (fun ls hl => ?_)
  refine lv_aload_n hx hb dX4_follow_7 rfl (lv_at hl 1 rfl) ?_
  refine lv_iload_n hx hb dX4_follow_8 rfl (lv_at hl 4 rfl) ?_
  refine kV (C := RX4) G (cv_instAt l D x xa n rd ae se IA hn hN ho hqo) okX4_instrumentAt hgf (va_P.sub hP [0, 1] rfl) (mw_recv hgf (hP 0 _ rfl) rfl) qw2_43 ⟨Nat.le_of_ble_eq_true rfl, Nat.le_of_ble_eq_true rfl⟩ ⟨(Nat.le_of_ble_eq_true rfl), (Nat.le_of_ble_eq_true rfl)⟩ hl.1 (Nat.le_of_ble_eq_true rfl) rfl dX4_follow_9 ?_
  refine lv_astore (lv' := [(5, .ref (a2 0)), (4, .ref (a 0)), (0, .ref x), (1, .int (nI j)), (2, .int st), (3, .int (nI o))]) hx hb dX4_follow_12 hl (by decide) rfl (fun ls hl => ?_)
  refine lv_aload hx hb dX4_follow_14 (lv_at hl 1 rfl) ?_
  refine mw_get G hgf (hP 2 _ rfl) rfl inX1 1 (by decide) qw1_220 rfl dX4_follow_16 ?_
  refine lv_iload_n hx hb dX4_follow_19 rfl (lv_at hl 4 rfl) ?_
  refine kgn_hasStep (f := f) (z := z) st G hgf (hP 3 _ rfl) qw2_63 ⟨Nat.le_of_ble_eq_true rfl, Nat.le_of_ble_eq_true rfl⟩ ⟨(Nat.le_of_ble_eq_true rfl), (Nat.le_of_ble_eq_true rfl)⟩ hl.1 (Nat.le_of_ble_eq_true rfl) dX4_follow_20 ?_
  refine lv_if_eq (tgt := 33) hx hb dX4_follow_23 (by decide) (fun h => absurd h h1) (fun _ => ?_)
  refine lv_iload_n hx hb dX4_follow_26 rfl (lv_at hl 4 rfl) ?_
  refine kS G (cvX4_takesK l D st) okX4_takesK hgf trivial qw2_76 ⟨Nat.le_of_ble_eq_true rfl, Nat.le_of_ble_eq_true rfl⟩ ⟨(Nat.le_of_ble_eq_true rfl), (Nat.le_of_ble_eq_true rfl)⟩ hl.1 (Nat.le_of_ble_eq_true rfl) rfl dX4_follow_27 ?_
  refine lv_if_ne (tgt := 43) hx hb dX4_follow_30 (by decide) (fun _ => ?_) (fun h => absurd h h2)
  refine lv_aload hx hb dX4_follow_43 (lv_at hl 1 rfl) ?_
  refine mw_get G hgf (hP 2 _ rfl) rfl inX1 0 (by decide) qw1_218 rfl dX4_follow_45 ?_
  refine lv_aload hx hb dX4_follow_48 (lv_at hl 0 rfl) ?_
  refine mw_get G hgf (hP 8 _ rfl) rfl inX1 0 (by decide) qw1_218 rfl dX4_follow_50 ?_
  refine lv_icmp_eq (tgt := 66) hx hb dX4_follow_53 (by decide) (fun h => absurd h h3) (fun _ => ?_)
  exact mw_throw hlt G hlocks hex hgf hz (by decide +kernel) qw1_61 qw1_6 (text := "the other instrument is of another sort") (by decide +kernel) (by decide +kernel) ex1_IllegalArgumentException ex2_IllegalArgumentException ex3_IllegalArgumentException hl.1 ⟨(Nat.le_of_ble_eq_true rfl), (Nat.le_of_ble_eq_true rfl), (Nat.le_of_ble_eq_true rfl), (Nat.le_of_ble_eq_true rfl)⟩ dX4_follow_56 dX4_follow_59 dX4_follow_60 dX4_follow_62 dX4_follow_65
set_option maxRecDepth 100000 in
set_option maxHeartbeats 4000000 in
theorem ct_follow_4 (l : Launch) (D : mG) (x xa : Nat) (n rd ae se : Int32) (IA : Nat → Option Nat) (a : Nat → Nat) (so : Int32) (lo hi : Int64) (al ch : Int32) (le gr sw su : Int64) (mn : Int32) (f z : Bool) (KI : Nat → Int32) (KJ : Nat → Int64) (L : Nat → Option Nat) (KE : Nat → Int64) (a2 : Nat → Nat) (so2 : Int32) (lo2 hi2 : Int64) (al2 ch2 : Int32) (le2 gr2 sw2 su2 : Int64) (mn2 : Int32) (st : Int32) (hlt : l.stackTraces = false) {N : Nat} (hn : n = nI N) (hN : N ≤ 8) {j : Nat} (hj : j < N) (hq : IA j = some (a 0)) {o : Nat} (ho : o < N) (hqo : IA o = some (a2 0)) (h1 : ¬ gn_hasStep f z st = 0) (h2 : ¬ fX4_takesK st = 0) (h3 : so = so2) (h4 : ¬ gi_chainIsFull ch = 0) : cT l D yX4_follow cX4_follow 6 .int 6 (fun H => va_P D.1 vwCl [(x, .inr (3, xF xa n rd ae se)), (xa, .inl (D.2.2.2, 8, .inr (.inr (.inr (.inr IA))))), (a 0, .inr (1, iF a so lo hi al ch le gr sw su mn)), (a 1, nE f z), (a 2, .inl (D.2.1, 6, .inl KI)), (a 3, .inl (D.2.2.1, 6, .inr (.inl KJ))), (a 4, .inl (D.2.2.2, 6, .inr (.inr (.inr (.inr L))))), (a 5, .inl (D.2.2.1, 16, .inr (.inl KE))), (a2 0, .inr (1, iF a2 so2 lo2 hi2 al2 ch2 le2 gr2 sw2 su2 mn2))] H) [.ref x, .int (nI j), .int st, .int (nI o)] "java/lang/IllegalStateException" := by
  refine cT_of (by decide) (Nat.le_of_ble_eq_true rfl) ?_
  intro p e s m below meth c ls hx hb hlocks hex G hgf hz hP hl
  have hP : va_P D.1 vwCl [(x, .inr (3, xF xa n rd ae se)), (xa, .inl (D.2.2.2, 8, .inr (.inr (.inr (.inr IA))))), (a 0, .inr (1, iF a so lo hi al ch le gr sw su mn)), (a 1, nE f z), (a 2, .inl (D.2.1, 6, .inl KI)), (a 3, .inl (D.2.2.1, 6, .inr (.inl KJ))), (a 4, .inl (D.2.2.2, 6, .inr (.inr (.inr (.inr L))))), (a 5, .inl (D.2.2.1, 16, .inr (.inl KE))), (a2 0, .inr (1, iF a2 so2 lo2 hi2 al2 ch2 le2 gr2 sw2 su2 mn2))] s.heap := hP
  have hl : lv_has ls 6 [(0, .ref x), (1, .int (nI j)), (2, .int st), (3, .int (nI o))] := hl
  refine lv_aload_n hx hb dX4_follow_0 rfl (lv_at hl 0 rfl) ?_
  refine lv_iload_n hx hb dX4_follow_1 rfl (lv_at hl 1 rfl) ?_
  refine kV (C := RX4) G (cv_instAt l D x xa n rd ae se IA hn hN hj hq) okX4_instrumentAt hgf (va_P.sub hP [0, 1] rfl) (mw_recv hgf (hP 0 _ rfl) rfl) qw2_43 ⟨Nat.le_of_ble_eq_true rfl, Nat.le_of_ble_eq_true rfl⟩ ⟨(Nat.le_of_ble_eq_true rfl), (Nat.le_of_ble_eq_true rfl)⟩ hl.1 (Nat.le_of_ble_eq_true rfl) rfl dX4_follow_2 ?_
  refine lv_astore (lv' := [(4, .ref (a 0)), (0, .ref x), (1, .int (nI j)), (2, .int st), (3, .int (nI o))]) hx hb dX4_follow_5 hl (by decide) rfl (fun ls hl => ?_)
  refine lv_aload_n hx hb dX4_follow_7 rfl (lv_at hl 1 rfl) ?_
  refine lv_iload_n hx hb dX4_follow_8 rfl (lv_at hl 4 rfl) ?_
  refine kV (C := RX4) G (cv_instAt l D x xa n rd ae se IA hn hN ho hqo) okX4_instrumentAt hgf (va_P.sub hP [0, 1] rfl) (mw_recv hgf (hP 0 _ rfl) rfl) qw2_43 ⟨Nat.le_of_ble_eq_true rfl, Nat.le_of_ble_eq_true rfl⟩ ⟨(Nat.le_of_ble_eq_true rfl), (Nat.le_of_ble_eq_true rfl)⟩ hl.1 (Nat.le_of_ble_eq_true rfl) rfl dX4_follow_9 ?_
  refine lv_astore (lv' := [(5, .ref (a2 0)), (4, .ref (a 0)), (0, .ref x), (1, .int (nI j)), (2, .int st), (3, .int (nI o))]) hx hb dX4_follow_12 hl (by decide) rfl (fun ls hl => ?_)
  refine lv_aload hx hb dX4_follow_14 (lv_at hl 1 rfl) ?_
  refine mw_get G hgf (hP 2 _ rfl) rfl inX1 1 (by decide) qw1_220 rfl dX4_follow_16 ?_
  refine lv_iload_n hx hb dX4_follow_19 rfl (lv_at hl 4 rfl) ?_
  refine kgn_hasStep (f := f) (z := z) st G hgf (hP 3 _ rfl) qw2_63 ⟨Nat.le_of_ble_eq_true rfl, Nat.le_of_ble_eq_true rfl⟩ ⟨(Nat.le_of_ble_eq_true rfl), (Nat.le_of_ble_eq_true rfl)⟩ hl.1 (Nat.le_of_ble_eq_true rfl) dX4_follow_20 ?_
  refine lv_if_eq (tgt := 33) hx hb dX4_follow_23 (by decide) (fun h => absurd h h1) (fun _ => ?_)
  refine lv_iload_n hx hb dX4_follow_26 rfl (lv_at hl 4 rfl) ?_
  refine kS G (cvX4_takesK l D st) okX4_takesK hgf trivial qw2_76 ⟨Nat.le_of_ble_eq_true rfl, Nat.le_of_ble_eq_true rfl⟩ ⟨(Nat.le_of_ble_eq_true rfl), (Nat.le_of_ble_eq_true rfl)⟩ hl.1 (Nat.le_of_ble_eq_true rfl) rfl dX4_follow_27 ?_
  refine lv_if_ne (tgt := 43) hx hb dX4_follow_30 (by decide) (fun _ => ?_) (fun h => absurd h h2)
  refine lv_aload hx hb dX4_follow_43 (lv_at hl 1 rfl) ?_
  refine mw_get G hgf (hP 2 _ rfl) rfl inX1 0 (by decide) qw1_218 rfl dX4_follow_45 ?_
  refine lv_aload hx hb dX4_follow_48 (lv_at hl 0 rfl) ?_
  refine mw_get G hgf (hP 8 _ rfl) rfl inX1 0 (by decide) qw1_218 rfl dX4_follow_50 ?_
  refine lv_icmp_eq (tgt := 66) hx hb dX4_follow_53 (by decide) (fun _ => ?_) (fun h => absurd h3 h)
  refine lv_aload hx hb dX4_follow_66 (lv_at hl 1 rfl) ?_
  refine kV (C := RX1) G (cv_gi_chainIsFull l D a so lo hi al ch le gr sw su mn f z KI KJ L KE ) okX1_chainIsFull hgf (va_P.sub hP [2, 4] rfl) (mw_recv hgf (hP 2 _ rfl) rfl) qw2_93 ⟨Nat.le_of_ble_eq_true rfl, Nat.le_of_ble_eq_true rfl⟩ ⟨(Nat.le_of_ble_eq_true rfl), (Nat.le_of_ble_eq_true rfl)⟩ hl.1 (Nat.le_of_ble_eq_true rfl) rfl dX4_follow_68 ?_
  refine lv_if_eq (tgt := 84) hx hb dX4_follow_71 (by decide) (fun h => absurd h h4) (fun _ => ?_)
  exact mw_throw hlt G hlocks hex hgf hz (by decide +kernel) qw2_97 qw1_13 (text := "there are six steps") (by decide +kernel) (by decide +kernel) ex1_IllegalStateException ex2_IllegalStateException ex3_IllegalStateException hl.1 ⟨(Nat.le_of_ble_eq_true rfl), (Nat.le_of_ble_eq_true rfl), (Nat.le_of_ble_eq_true rfl), (Nat.le_of_ble_eq_true rfl)⟩ dX4_follow_74 dX4_follow_77 dX4_follow_78 dX4_follow_80 dX4_follow_83
set_option maxRecDepth 100000 in
set_option maxHeartbeats 4000000 in
theorem ct_follow_4s (l : Launch) (D : mG) (x xa : Nat) (n rd ae se : Int32) (IA : Nat → Option Nat) (a : Nat → Nat) (so : Int32) (lo hi : Int64) (al ch : Int32) (le gr sw su : Int64) (mn : Int32) (f z : Bool) (KI : Nat → Int32) (KJ : Nat → Int64) (L : Nat → Option Nat) (KE : Nat → Int64) (st : Int32) (hlt : l.stackTraces = false) {N : Nat} (hn : n = nI N) (hN : N ≤ 8) {j : Nat} (hj : j < N) (hq : IA j = some (a 0)) (h1 : ¬ gn_hasStep f z st = 0) (h2 : ¬ fX4_takesK st = 0) (h4 : ¬ gi_chainIsFull ch = 0) : cT l D yX4_follow cX4_follow 6 .int 6 (fun H => va_P D.1 vwCl [(x, .inr (3, xF xa n rd ae se)), (xa, .inl (D.2.2.2, 8, .inr (.inr (.inr (.inr IA))))), (a 0, .inr (1, iF a so lo hi al ch le gr sw su mn)), (a 1, nE f z), (a 2, .inl (D.2.1, 6, .inl KI)), (a 3, .inl (D.2.2.1, 6, .inr (.inl KJ))), (a 4, .inl (D.2.2.2, 6, .inr (.inr (.inr (.inr L))))), (a 5, .inl (D.2.2.1, 16, .inr (.inl KE)))] H) [.ref x, .int (nI j), .int st, .int (nI j)] "java/lang/IllegalStateException" := by
  refine cT_of (by decide) (Nat.le_of_ble_eq_true rfl) ?_
  intro p e s m below meth c ls hx hb hlocks hex G hgf hz hP hl
  have hP : va_P D.1 vwCl [(x, .inr (3, xF xa n rd ae se)), (xa, .inl (D.2.2.2, 8, .inr (.inr (.inr (.inr IA))))), (a 0, .inr (1, iF a so lo hi al ch le gr sw su mn)), (a 1, nE f z), (a 2, .inl (D.2.1, 6, .inl KI)), (a 3, .inl (D.2.2.1, 6, .inr (.inl KJ))), (a 4, .inl (D.2.2.2, 6, .inr (.inr (.inr (.inr L))))), (a 5, .inl (D.2.2.1, 16, .inr (.inl KE)))] s.heap := hP
  have hl : lv_has ls 6 [(0, .ref x), (1, .int (nI j)), (2, .int st), (3, .int (nI j))] := hl
  refine lv_aload_n hx hb dX4_follow_0 rfl (lv_at hl 0 rfl) ?_
  refine lv_iload_n hx hb dX4_follow_1 rfl (lv_at hl 1 rfl) ?_
  refine kV (C := RX4) G (cv_instAt l D x xa n rd ae se IA hn hN hj hq) okX4_instrumentAt hgf (va_P.sub hP [0, 1] rfl) (mw_recv hgf (hP 0 _ rfl) rfl) qw2_43 ⟨Nat.le_of_ble_eq_true rfl, Nat.le_of_ble_eq_true rfl⟩ ⟨(Nat.le_of_ble_eq_true rfl), (Nat.le_of_ble_eq_true rfl)⟩ hl.1 (Nat.le_of_ble_eq_true rfl) rfl dX4_follow_2 ?_
  refine lv_astore (lv' := [(4, .ref (a 0)), (0, .ref x), (1, .int (nI j)), (2, .int st), (3, .int (nI j))]) hx hb dX4_follow_5 hl (by decide) rfl (fun ls hl => ?_)
  refine lv_aload_n hx hb dX4_follow_7 rfl (lv_at hl 1 rfl) ?_
  refine lv_iload_n hx hb dX4_follow_8 rfl (lv_at hl 4 rfl) ?_
  refine kV (C := RX4) G (cv_instAt l D x xa n rd ae se IA hn hN hj hq) okX4_instrumentAt hgf (va_P.sub hP [0, 1] rfl) (mw_recv hgf (hP 0 _ rfl) rfl) qw2_43 ⟨Nat.le_of_ble_eq_true rfl, Nat.le_of_ble_eq_true rfl⟩ ⟨(Nat.le_of_ble_eq_true rfl), (Nat.le_of_ble_eq_true rfl)⟩ hl.1 (Nat.le_of_ble_eq_true rfl) rfl dX4_follow_9 ?_
  refine lv_astore (lv' := [(5, .ref (a 0)), (4, .ref (a 0)), (0, .ref x), (1, .int (nI j)), (2, .int st), (3, .int (nI j))]) hx hb dX4_follow_12 hl (by decide) rfl (fun ls hl => ?_)
  refine lv_aload hx hb dX4_follow_14 (lv_at hl 1 rfl) ?_
  refine mw_get G hgf (hP 2 _ rfl) rfl inX1 1 (by decide) qw1_220 rfl dX4_follow_16 ?_
  refine lv_iload_n hx hb dX4_follow_19 rfl (lv_at hl 4 rfl) ?_
  refine kgn_hasStep (f := f) (z := z) st G hgf (hP 3 _ rfl) qw2_63 ⟨Nat.le_of_ble_eq_true rfl, Nat.le_of_ble_eq_true rfl⟩ ⟨(Nat.le_of_ble_eq_true rfl), (Nat.le_of_ble_eq_true rfl)⟩ hl.1 (Nat.le_of_ble_eq_true rfl) dX4_follow_20 ?_
  refine lv_if_eq (tgt := 33) hx hb dX4_follow_23 (by decide) (fun h => absurd h h1) (fun _ => ?_)
  refine lv_iload_n hx hb dX4_follow_26 rfl (lv_at hl 4 rfl) ?_
  refine kS G (cvX4_takesK l D st) okX4_takesK hgf trivial qw2_76 ⟨Nat.le_of_ble_eq_true rfl, Nat.le_of_ble_eq_true rfl⟩ ⟨(Nat.le_of_ble_eq_true rfl), (Nat.le_of_ble_eq_true rfl)⟩ hl.1 (Nat.le_of_ble_eq_true rfl) rfl dX4_follow_27 ?_
  refine lv_if_ne (tgt := 43) hx hb dX4_follow_30 (by decide) (fun _ => ?_) (fun h => absurd h h2)
  refine lv_aload hx hb dX4_follow_43 (lv_at hl 1 rfl) ?_
  refine mw_get G hgf (hP 2 _ rfl) rfl inX1 0 (by decide) qw1_218 rfl dX4_follow_45 ?_
  refine lv_aload hx hb dX4_follow_48 (lv_at hl 0 rfl) ?_
  refine mw_get G hgf (hP 2 _ rfl) rfl inX1 0 (by decide) qw1_218 rfl dX4_follow_50 ?_
  refine lv_icmp_eq (tgt := 66) hx hb dX4_follow_53 (by decide) (fun _ => ?_) (fun h => absurd rfl h)
  refine lv_aload hx hb dX4_follow_66 (lv_at hl 1 rfl) ?_
  refine kV (C := RX1) G (cv_gi_chainIsFull l D a so lo hi al ch le gr sw su mn f z KI KJ L KE ) okX1_chainIsFull hgf (va_P.sub hP [2, 4] rfl) (mw_recv hgf (hP 2 _ rfl) rfl) qw2_93 ⟨Nat.le_of_ble_eq_true rfl, Nat.le_of_ble_eq_true rfl⟩ ⟨(Nat.le_of_ble_eq_true rfl), (Nat.le_of_ble_eq_true rfl)⟩ hl.1 (Nat.le_of_ble_eq_true rfl) rfl dX4_follow_68 ?_
  refine lv_if_eq (tgt := 84) hx hb dX4_follow_71 (by decide) (fun h => absurd h h4) (fun _ => ?_)
  exact mw_throw hlt G hlocks hex hgf hz (by decide +kernel) qw2_97 qw1_13 (text := "there are six steps") (by decide +kernel) (by decide +kernel) ex1_IllegalStateException ex2_IllegalStateException ex3_IllegalStateException hl.1 ⟨(Nat.le_of_ble_eq_true rfl), (Nat.le_of_ble_eq_true rfl), (Nat.le_of_ble_eq_true rfl), (Nat.le_of_ble_eq_true rfl)⟩ dX4_follow_74 dX4_follow_77 dX4_follow_78 dX4_follow_80 dX4_follow_83
set_option maxRecDepth 100000 in
set_option maxHeartbeats 4000000 in
theorem ct_read_1 (l : Launch) (D : mG) (x xa : Nat) (n rd ae se : Int32) (IA : Nat → Option Nat) (a : Nat → Nat) (so : Int32) (lo hi : Int64) (al ch : Int32) (le gr sw su : Int64) (mn : Int32) (f z : Bool) (KI : Nat → Int32) (KJ : Nat → Int64) (L : Nat → Option Nat) (KE : Nat → Int64) (bits : Int64) (hlt : l.stackTraces = false) {N : Nat} (hn : n = nI N) (hN : N ≤ 8) {j : Nat} (hj : j < N) (hq : IA j = some (a 0)) (h1 : gn_isNumber f z (gn_ofWidth f z bits) = 0) : cT l D yX4_read cX4_read 9 .long 6 (fun H => va_P D.1 vwCl [(x, .inr (3, xF xa n rd ae se)), (xa, .inl (D.2.2.2, 8, .inr (.inr (.inr (.inr IA))))), (a 0, .inr (1, iF a so lo hi al ch le gr sw su mn)), (a 1, nE f z), (a 2, .inl (D.2.1, 6, .inl KI)), (a 3, .inl (D.2.2.1, 6, .inr (.inl KJ))), (a 4, .inl (D.2.2.2, 6, .inr (.inr (.inr (.inr L))))), (a 5, .inl (D.2.2.1, 16, .inr (.inl KE)))] H) [.ref x, .int (nI j), .long bits] "java/lang/IllegalArgumentException" := by
  refine cT_of (by decide) (Nat.le_of_ble_eq_true rfl) ?_
  intro p e s m below meth c ls hx hb hlocks hex G hgf hz hP hl
  have hP : va_P D.1 vwCl [(x, .inr (3, xF xa n rd ae se)), (xa, .inl (D.2.2.2, 8, .inr (.inr (.inr (.inr IA))))), (a 0, .inr (1, iF a so lo hi al ch le gr sw su mn)), (a 1, nE f z), (a 2, .inl (D.2.1, 6, .inl KI)), (a 3, .inl (D.2.2.1, 6, .inr (.inl KJ))), (a 4, .inl (D.2.2.2, 6, .inr (.inr (.inr (.inr L))))), (a 5, .inl (D.2.2.1, 16, .inr (.inl KE)))] s.heap := hP
  have hl : lv_has ls 9 [(0, .ref x), (1, .int (nI j)), (2, .long bits)] := hl
  refine lv_aload_n hx hb dX4_read_0 rfl (lv_at hl 0 rfl) ?_
  refine lv_iload_n hx hb dX4_read_1 rfl (lv_at hl 1 rfl) ?_
  refine kV (C := RX4) G (cv_instAt l D x xa n rd ae se IA hn hN hj hq) okX4_instrumentAt hgf (va_P.sub hP [0, 1] rfl) (mw_recv hgf (hP 0 _ rfl) rfl) qw2_43 ⟨Nat.le_of_ble_eq_true rfl, Nat.le_of_ble_eq_true rfl⟩ ⟨(Nat.le_of_ble_eq_true rfl), (Nat.le_of_ble_eq_true rfl)⟩ hl.1 (Nat.le_of_ble_eq_true rfl) rfl dX4_read_2 ?_
  refine lv_astore (lv' := [(4, .ref (a 0)), (0, .ref x), (1, .int (nI j)), (2, .long bits)]) hx hb dX4_read_5 hl (by decide) rfl (fun ls hl => ?_)
  refine lv_aload hx hb dX4_read_7 (lv_at hl 0 rfl) ?_
  refine mw_get G hgf (hP 2 _ rfl) rfl inX1 1 (by decide) qw1_220 rfl dX4_read_9 ?_
  refine lv_lload_n hx hb dX4_read_12 rfl (lv_at hl 3 rfl) ?_
  refine kgn_ofWidth (f := f) (z := z) bits G hgf (hP 3 _ rfl) qw2_70 ⟨Nat.le_of_ble_eq_true rfl, Nat.le_of_ble_eq_true rfl⟩ ⟨(Nat.le_of_ble_eq_true rfl), (Nat.le_of_ble_eq_true rfl)⟩ hl.1 (Nat.le_of_ble_eq_true rfl) dX4_read_13 ?_
  refine lv_lstore (lv' := [(5, .long (gn_ofWidth f z bits)), (4, .ref (a 0)), (0, .ref x), (1, .int (nI j)), (2, .long bits)]) hx hb dX4_read_16 hl (by decide) rfl (fun ls hl => ?_)
  refine lv_aload hx hb dX4_read_18 (lv_at hl 1 rfl) ?_
  refine mw_get G hgf (hP 2 _ rfl) rfl inX1 1 (by decide) qw1_220 rfl dX4_read_20 ?_
  refine lv_lload hx hb dX4_read_23 (lv_at hl 0 rfl) ?_
  refine kgn_isNumber (f := f) (z := z) (gn_ofWidth f z bits) G hgf (hP 3 _ rfl) qw2_79 ⟨Nat.le_of_ble_eq_true rfl, Nat.le_of_ble_eq_true rfl⟩ ⟨(Nat.le_of_ble_eq_true rfl), (Nat.le_of_ble_eq_true rfl)⟩ hl.1 (Nat.le_of_ble_eq_true rfl) dX4_read_25 ?_
  refine lv_if_ne (tgt := 41) hx hb dX4_read_28 (by decide) (fun h => absurd h1 h) (fun _ => ?_)
  exact mw_throw hlt G hlocks hex hgf hz (by decide +kernel) qw1_61 qw1_6 (text := "the bits are no number") (by decide +kernel) (by decide +kernel) ex1_IllegalArgumentException ex2_IllegalArgumentException ex3_IllegalArgumentException hl.1 ⟨(Nat.le_of_ble_eq_true rfl), (Nat.le_of_ble_eq_true rfl), (Nat.le_of_ble_eq_true rfl), (Nat.le_of_ble_eq_true rfl)⟩ dX4_read_31 dX4_read_34 dX4_read_35 dX4_read_37 dX4_read_40
set_option maxRecDepth 100000 in
set_option maxHeartbeats 4000000 in
theorem ct_reading_1 (l : Launch) (D : mG) (x xa : Nat) (n rd ae se : Int32) (IA : Nat → Option Nat) (a : Nat → Nat) (so : Int32) (lo hi : Int64) (al ch : Int32) (le gr sw su : Int64) (mn : Int32) (f z : Bool) (KI : Nat → Int32) (KJ : Nat → Int64) (L : Nat → Option Nat) (KE : Nat → Int64) (w : Int32) (hlt : l.stackTraces = false) {N : Nat} (hn : n = nI N) (hN : N ≤ 8) {j : Nat} (hj : j < N) (hq : IA j = some (a 0)) (h1 : gi_keeps mn w = 0) : cT l D yX4_reading cX4_reading 4 .long 6 (fun H => va_P D.1 vwCl [(x, .inr (3, xF xa n rd ae se)), (xa, .inl (D.2.2.2, 8, .inr (.inr (.inr (.inr IA))))), (a 0, .inr (1, iF a so lo hi al ch le gr sw su mn)), (a 1, nE f z), (a 2, .inl (D.2.1, 6, .inl KI)), (a 3, .inl (D.2.2.1, 6, .inr (.inl KJ))), (a 4, .inl (D.2.2.2, 6, .inr (.inr (.inr (.inr L))))), (a 5, .inl (D.2.2.1, 16, .inr (.inl KE)))] H) [.ref x, .int (nI j), .int w] "java/util/NoSuchElementException" := by
  refine cT_of (by decide) (Nat.le_of_ble_eq_true rfl) ?_
  intro p e s m below meth c ls hx hb hlocks hex G hgf hz hP hl
  have hP : va_P D.1 vwCl [(x, .inr (3, xF xa n rd ae se)), (xa, .inl (D.2.2.2, 8, .inr (.inr (.inr (.inr IA))))), (a 0, .inr (1, iF a so lo hi al ch le gr sw su mn)), (a 1, nE f z), (a 2, .inl (D.2.1, 6, .inl KI)), (a 3, .inl (D.2.2.1, 6, .inr (.inl KJ))), (a 4, .inl (D.2.2.2, 6, .inr (.inr (.inr (.inr L))))), (a 5, .inl (D.2.2.1, 16, .inr (.inl KE)))] s.heap := hP
  have hl : lv_has ls 4 [(0, .ref x), (1, .int (nI j)), (2, .int w)] := hl
  refine lv_aload_n hx hb dX4_reading_0 rfl (lv_at hl 0 rfl) ?_
  refine lv_iload_n hx hb dX4_reading_1 rfl (lv_at hl 1 rfl) ?_
  refine kV (C := RX4) G (cv_instAt l D x xa n rd ae se IA hn hN hj hq) okX4_instrumentAt hgf (va_P.sub hP [0, 1] rfl) (mw_recv hgf (hP 0 _ rfl) rfl) qw2_43 ⟨Nat.le_of_ble_eq_true rfl, Nat.le_of_ble_eq_true rfl⟩ ⟨(Nat.le_of_ble_eq_true rfl), (Nat.le_of_ble_eq_true rfl)⟩ hl.1 (Nat.le_of_ble_eq_true rfl) rfl dX4_reading_2 ?_
  refine lv_astore_n (lv' := [(3, .ref (a 0)), (0, .ref x), (1, .int (nI j)), (2, .int w)]) hx hb dX4_reading_5 rfl hl (by decide) rfl (fun ls hl => ?_)
  refine lv_aload_n hx hb dX4_reading_6 rfl (lv_at hl 0 rfl) ?_
  refine lv_iload_n hx hb dX4_reading_7 rfl (lv_at hl 3 rfl) ?_
  refine kV (C := RX1) G (cv_gi_keeps l D a so lo hi al ch le gr sw su mn f z KI KJ L KE w) okX1_keeps hgf (va_P.sub hP [2] rfl) (mw_recv hgf (hP 2 _ rfl) rfl) qw3_67 ⟨Nat.le_of_ble_eq_true rfl, Nat.le_of_ble_eq_true rfl⟩ ⟨(Nat.le_of_ble_eq_true rfl), (Nat.le_of_ble_eq_true rfl)⟩ hl.1 (Nat.le_of_ble_eq_true rfl) rfl dX4_reading_8 ?_
  refine lv_if_ne (tgt := 24) hx hb dX4_reading_11 (by decide) (fun h => absurd h1 h) (fun _ => ?_)
  exact mw_throwN (sup := "java/lang/RuntimeException") (names := ["java/lang/Exception"]) hlt G hlocks hex hgf hz (by decide +kernel) (by decide +kernel) (by decide +kernel) dN_0 dN_1 dN_2 dN_5 qw3_71 qw1_18 (text := "no such reading is kept") (by decide +kernel) (by decide +kernel) ex1_NoSuchElementException ex2_NoSuchElementException ex3_NoSuchElementException hl.1 ⟨(Nat.le_of_ble_eq_true rfl), (Nat.le_of_ble_eq_true rfl), (Nat.le_of_ble_eq_true rfl), (Nat.le_of_ble_eq_true rfl)⟩ dX4_reading_14 dX4_reading_17 dX4_reading_18 dX4_reading_20 dX4_reading_23
set_option maxRecDepth 100000 in
set_option maxHeartbeats 4000000 in
theorem cv_reading (l : Launch) (D : mG) (x xa : Nat) (n rd ae se : Int32) (IA : Nat → Option Nat) (a : Nat → Nat) (so : Int32) (lo hi : Int64) (al ch : Int32) (le gr sw su : Int64) (mn : Int32) (f z : Bool) (KI : Nat → Int32) (KJ : Nat → Int64) (L : Nat → Option Nat) (KE : Nat → Int64) (w : Int32) {N : Nat} (hn : n = nI N) (hN : N ≤ 8) {j : Nat} (hj : j < N) (hq : IA j = some (a 0)) (h1 : ¬ gi_keeps mn w = 0) : cV l D yX4_reading cX4_reading 4 .long 1 (fun H => va_P D.1 vwCl [(x, .inr (3, xF xa n rd ae se)), (xa, .inl (D.2.2.2, 8, .inr (.inr (.inr (.inr IA))))), (a 0, .inr (1, iF a so lo hi al ch le gr sw su mn)), (a 1, nE f z), (a 2, .inl (D.2.1, 6, .inl KI)), (a 3, .inl (D.2.2.1, 6, .inr (.inl KJ))), (a 4, .inl (D.2.2.2, 6, .inr (.inr (.inr (.inr L))))), (a 5, .inl (D.2.2.1, 16, .inr (.inl KE)))] H) [.ref x, .int (nI j), .int w] (.long (gi_latest mn KE w)) := by
  refine cV_of (by decide) (Nat.le_of_ble_eq_true rfl) ?_
  intro p e s m below meth c ls hx hb hr hlocks G hgf hP hl
  have hP : va_P D.1 vwCl [(x, .inr (3, xF xa n rd ae se)), (xa, .inl (D.2.2.2, 8, .inr (.inr (.inr (.inr IA))))), (a 0, .inr (1, iF a so lo hi al ch le gr sw su mn)), (a 1, nE f z), (a 2, .inl (D.2.1, 6, .inl KI)), (a 3, .inl (D.2.2.1, 6, .inr (.inl KJ))), (a 4, .inl (D.2.2.2, 6, .inr (.inr (.inr (.inr L))))), (a 5, .inl (D.2.2.1, 16, .inr (.inl KE)))] s.heap := hP
  have hl : lv_has ls 4 [(0, .ref x), (1, .int (nI j)), (2, .int w)] := hl
  refine lv_aload_n hx hb dX4_reading_0 rfl (lv_at hl 0 rfl) ?_
  refine lv_iload_n hx hb dX4_reading_1 rfl (lv_at hl 1 rfl) ?_
  refine kV (C := RX4) G (cv_instAt l D x xa n rd ae se IA hn hN hj hq) okX4_instrumentAt hgf (va_P.sub hP [0, 1] rfl) (mw_recv hgf (hP 0 _ rfl) rfl) qw2_43 ⟨Nat.le_of_ble_eq_true rfl, Nat.le_of_ble_eq_true rfl⟩ ⟨(Nat.le_of_ble_eq_true rfl), (Nat.le_of_ble_eq_true rfl)⟩ hl.1 (Nat.le_of_ble_eq_true rfl) rfl dX4_reading_2 ?_
  refine lv_astore_n (lv' := [(3, .ref (a 0)), (0, .ref x), (1, .int (nI j)), (2, .int w)]) hx hb dX4_reading_5 rfl hl (by decide) rfl (fun ls hl => ?_)
  refine lv_aload_n hx hb dX4_reading_6 rfl (lv_at hl 0 rfl) ?_
  refine lv_iload_n hx hb dX4_reading_7 rfl (lv_at hl 3 rfl) ?_
  refine kV (C := RX1) G (cv_gi_keeps l D a so lo hi al ch le gr sw su mn f z KI KJ L KE w) okX1_keeps hgf (va_P.sub hP [2] rfl) (mw_recv hgf (hP 2 _ rfl) rfl) qw3_67 ⟨Nat.le_of_ble_eq_true rfl, Nat.le_of_ble_eq_true rfl⟩ ⟨(Nat.le_of_ble_eq_true rfl), (Nat.le_of_ble_eq_true rfl)⟩ hl.1 (Nat.le_of_ble_eq_true rfl) rfl dX4_reading_8 ?_
  refine lv_if_ne (tgt := 24) hx hb dX4_reading_11 (by decide) (fun _ => ?_) (fun h => absurd h h1)
  refine lv_aload_n hx hb dX4_reading_24 rfl (lv_at hl 0 rfl) ?_
  refine lv_iload_n hx hb dX4_reading_25 rfl (lv_at hl 3 rfl) ?_
  refine kV (C := RX1) G (cv_gi_latest l D a so lo hi al ch le gr sw su mn f z KI KJ L KE w) okX1_latest hgf (va_P.sub hP [2, 7] rfl) (mw_recv hgf (hP 2 _ rfl) rfl) qw3_87 ⟨Nat.le_of_ble_eq_true rfl, Nat.le_of_ble_eq_true rfl⟩ ⟨(Nat.le_of_ble_eq_true rfl), (Nat.le_of_ble_eq_true rfl)⟩ hl.1 (Nat.le_of_ble_eq_true rfl) rfl dX4_reading_26 ?_
  exact mw_lret hx hb hr hlocks dX4_reading_29 (rfl).symm
set_option maxRecDepth 100000 in
set_option maxHeartbeats 4000000 in
theorem ct_tell_1 (l : Launch) (D : mG) (x xa : Nat) (n rd ae se : Int32) (IA : Nat → Option Nat) (a : Nat → Nat) (so : Int32) (lo hi : Int64) (al ch : Int32) (le gr sw su : Int64) (mn : Int32) (f z : Bool) (KI : Nat → Int32) (KJ : Nat → Int64) (L : Nat → Option Nat) (KE : Nat → Int64) (w : Int32) (hlt : l.stackTraces = false) {N : Nat} (hn : n = nI N) (hN : N ≤ 8) {j : Nat} (hj : j < N) (hq : IA j = some (a 0)) (h1 : w < 0) : cT l D yX4_tell cX4_tell 4 .long 6 (fun H => va_P D.1 vwCl [(x, .inr (3, xF xa n rd ae se)), (xa, .inl (D.2.2.2, 8, .inr (.inr (.inr (.inr IA))))), (a 0, .inr (1, iF a so lo hi al ch le gr sw su mn)), (a 1, nE f z), (a 2, .inl (D.2.1, 6, .inl KI)), (a 3, .inl (D.2.2.1, 6, .inr (.inl KJ))), (a 4, .inl (D.2.2.2, 6, .inr (.inr (.inr (.inr L))))), (a 5, .inl (D.2.2.1, 16, .inr (.inl KE)))] H) [.ref x, .int (nI j), .int w] "java/lang/IllegalArgumentException" := by
  refine cT_of (by decide) (Nat.le_of_ble_eq_true rfl) ?_
  intro p e s m below meth c ls hx hb hlocks hex G hgf hz hP hl
  have hP : va_P D.1 vwCl [(x, .inr (3, xF xa n rd ae se)), (xa, .inl (D.2.2.2, 8, .inr (.inr (.inr (.inr IA))))), (a 0, .inr (1, iF a so lo hi al ch le gr sw su mn)), (a 1, nE f z), (a 2, .inl (D.2.1, 6, .inl KI)), (a 3, .inl (D.2.2.1, 6, .inr (.inl KJ))), (a 4, .inl (D.2.2.2, 6, .inr (.inr (.inr (.inr L))))), (a 5, .inl (D.2.2.1, 16, .inr (.inl KE)))] s.heap := hP
  have hl : lv_has ls 4 [(0, .ref x), (1, .int (nI j)), (2, .int w)] := hl
  refine lv_aload_n hx hb dX4_tell_0 rfl (lv_at hl 0 rfl) ?_
  refine lv_iload_n hx hb dX4_tell_1 rfl (lv_at hl 1 rfl) ?_
  refine kV (C := RX4) G (cv_instAt l D x xa n rd ae se IA hn hN hj hq) okX4_instrumentAt hgf (va_P.sub hP [0, 1] rfl) (mw_recv hgf (hP 0 _ rfl) rfl) qw2_43 ⟨Nat.le_of_ble_eq_true rfl, Nat.le_of_ble_eq_true rfl⟩ ⟨(Nat.le_of_ble_eq_true rfl), (Nat.le_of_ble_eq_true rfl)⟩ hl.1 (Nat.le_of_ble_eq_true rfl) rfl dX4_tell_2 ?_
  refine lv_astore_n (lv' := [(3, .ref (a 0)), (0, .ref x), (1, .int (nI j)), (2, .int w)]) hx hb dX4_tell_5 rfl hl (by decide) rfl (fun ls hl => ?_)
  refine lv_iload_n hx hb dX4_tell_6 rfl (lv_at hl 3 rfl) ?_
  refine lv_if_lt (tgt := 15) hx hb dX4_tell_7 (by decide) (fun _ => ?_) (fun h => absurd h1 h)
  exact mw_throw hlt G hlocks hex hgf hz (by decide +kernel) qw1_61 qw1_6 (text := "no such thing to tell") (by decide +kernel) (by decide +kernel) ex1_IllegalArgumentException ex2_IllegalArgumentException ex3_IllegalArgumentException hl.1 ⟨(Nat.le_of_ble_eq_true rfl), (Nat.le_of_ble_eq_true rfl), (Nat.le_of_ble_eq_true rfl), (Nat.le_of_ble_eq_true rfl)⟩ dX4_tell_15 dX4_tell_18 dX4_tell_19 dX4_tell_21 dX4_tell_24
set_option maxRecDepth 100000 in
set_option maxHeartbeats 4000000 in
theorem ct_tell_2 (l : Launch) (D : mG) (x xa : Nat) (n rd ae se : Int32) (IA : Nat → Option Nat) (a : Nat → Nat) (so : Int32) (lo hi : Int64) (al ch : Int32) (le gr sw su : Int64) (mn : Int32) (f z : Bool) (KI : Nat → Int32) (KJ : Nat → Int64) (L : Nat → Option Nat) (KE : Nat → Int64) (w : Int32) (hlt : l.stackTraces = false) {N : Nat} (hn : n = nI N) (hN : N ≤ 8) {j : Nat} (hj : j < N) (hq : IA j = some (a 0)) (h1 : ¬ w < 0) (h2 : ¬ w ≤ 3) : cT l D yX4_tell cX4_tell 4 .long 6 (fun H => va_P D.1 vwCl [(x, .inr (3, xF xa n rd ae se)), (xa, .inl (D.2.2.2, 8, .inr (.inr (.inr (.inr IA))))), (a 0, .inr (1, iF a so lo hi al ch le gr sw su mn)), (a 1, nE f z), (a 2, .inl (D.2.1, 6, .inl KI)), (a 3, .inl (D.2.2.1, 6, .inr (.inl KJ))), (a 4, .inl (D.2.2.2, 6, .inr (.inr (.inr (.inr L))))), (a 5, .inl (D.2.2.1, 16, .inr (.inl KE)))] H) [.ref x, .int (nI j), .int w] "java/lang/IllegalArgumentException" := by
  refine cT_of (by decide) (Nat.le_of_ble_eq_true rfl) ?_
  intro p e s m below meth c ls hx hb hlocks hex G hgf hz hP hl
  have hP : va_P D.1 vwCl [(x, .inr (3, xF xa n rd ae se)), (xa, .inl (D.2.2.2, 8, .inr (.inr (.inr (.inr IA))))), (a 0, .inr (1, iF a so lo hi al ch le gr sw su mn)), (a 1, nE f z), (a 2, .inl (D.2.1, 6, .inl KI)), (a 3, .inl (D.2.2.1, 6, .inr (.inl KJ))), (a 4, .inl (D.2.2.2, 6, .inr (.inr (.inr (.inr L))))), (a 5, .inl (D.2.2.1, 16, .inr (.inl KE)))] s.heap := hP
  have hl : lv_has ls 4 [(0, .ref x), (1, .int (nI j)), (2, .int w)] := hl
  refine lv_aload_n hx hb dX4_tell_0 rfl (lv_at hl 0 rfl) ?_
  refine lv_iload_n hx hb dX4_tell_1 rfl (lv_at hl 1 rfl) ?_
  refine kV (C := RX4) G (cv_instAt l D x xa n rd ae se IA hn hN hj hq) okX4_instrumentAt hgf (va_P.sub hP [0, 1] rfl) (mw_recv hgf (hP 0 _ rfl) rfl) qw2_43 ⟨Nat.le_of_ble_eq_true rfl, Nat.le_of_ble_eq_true rfl⟩ ⟨(Nat.le_of_ble_eq_true rfl), (Nat.le_of_ble_eq_true rfl)⟩ hl.1 (Nat.le_of_ble_eq_true rfl) rfl dX4_tell_2 ?_
  refine lv_astore_n (lv' := [(3, .ref (a 0)), (0, .ref x), (1, .int (nI j)), (2, .int w)]) hx hb dX4_tell_5 rfl hl (by decide) rfl (fun ls hl => ?_)
  refine lv_iload_n hx hb dX4_tell_6 rfl (lv_at hl 3 rfl) ?_
  refine lv_if_lt (tgt := 15) hx hb dX4_tell_7 (by decide) (fun h => absurd h h1) (fun _ => ?_)
  refine lv_iload_n hx hb dX4_tell_10 rfl (lv_at hl 3 rfl) ?_
  refine lv_iconst (v := 3) hx hb dX4_tell_11 (by decide) ?_
  refine lv_icmp_le (tgt := 25) hx hb dX4_tell_12 (by decide) (fun h => absurd h h2) (fun _ => ?_)
  exact mw_throw hlt G hlocks hex hgf hz (by decide +kernel) qw1_61 qw1_6 (text := "no such thing to tell") (by decide +kernel) (by decide +kernel) ex1_IllegalArgumentException ex2_IllegalArgumentException ex3_IllegalArgumentException hl.1 ⟨(Nat.le_of_ble_eq_true rfl), (Nat.le_of_ble_eq_true rfl), (Nat.le_of_ble_eq_true rfl), (Nat.le_of_ble_eq_true rfl)⟩ dX4_tell_15 dX4_tell_18 dX4_tell_19 dX4_tell_21 dX4_tell_24
set_option maxRecDepth 100000 in
set_option maxHeartbeats 4000000 in
theorem ct_tell_3 (l : Launch) (D : mG) (x xa : Nat) (n rd ae se : Int32) (IA : Nat → Option Nat) (a : Nat → Nat) (so : Int32) (lo hi : Int64) (al ch : Int32) (le gr sw su : Int64) (mn : Int32) (f z : Bool) (KI : Nat → Int32) (KJ : Nat → Int64) (L : Nat → Option Nat) (KE : Nat → Int64) (w : Int32) (hlt : l.stackTraces = false) {N : Nat} (hn : n = nI N) (hN : N ≤ 8) {j : Nat} (hj : j < N) (hq : IA j = some (a 0)) (h1 : ¬ w < 0) (h2 : w ≤ 3) (h3 : gi_hasRead mn = 0) : cT l D yX4_tell cX4_tell 4 .long 6 (fun H => va_P D.1 vwCl [(x, .inr (3, xF xa n rd ae se)), (xa, .inl (D.2.2.2, 8, .inr (.inr (.inr (.inr IA))))), (a 0, .inr (1, iF a so lo hi al ch le gr sw su mn)), (a 1, nE f z), (a 2, .inl (D.2.1, 6, .inl KI)), (a 3, .inl (D.2.2.1, 6, .inr (.inl KJ))), (a 4, .inl (D.2.2.2, 6, .inr (.inr (.inr (.inr L))))), (a 5, .inl (D.2.2.1, 16, .inr (.inl KE)))] H) [.ref x, .int (nI j), .int w] "java/util/NoSuchElementException" := by
  refine cT_of (by decide) (Nat.le_of_ble_eq_true rfl) ?_
  intro p e s m below meth c ls hx hb hlocks hex G hgf hz hP hl
  have hP : va_P D.1 vwCl [(x, .inr (3, xF xa n rd ae se)), (xa, .inl (D.2.2.2, 8, .inr (.inr (.inr (.inr IA))))), (a 0, .inr (1, iF a so lo hi al ch le gr sw su mn)), (a 1, nE f z), (a 2, .inl (D.2.1, 6, .inl KI)), (a 3, .inl (D.2.2.1, 6, .inr (.inl KJ))), (a 4, .inl (D.2.2.2, 6, .inr (.inr (.inr (.inr L))))), (a 5, .inl (D.2.2.1, 16, .inr (.inl KE)))] s.heap := hP
  have hl : lv_has ls 4 [(0, .ref x), (1, .int (nI j)), (2, .int w)] := hl
  refine lv_aload_n hx hb dX4_tell_0 rfl (lv_at hl 0 rfl) ?_
  refine lv_iload_n hx hb dX4_tell_1 rfl (lv_at hl 1 rfl) ?_
  refine kV (C := RX4) G (cv_instAt l D x xa n rd ae se IA hn hN hj hq) okX4_instrumentAt hgf (va_P.sub hP [0, 1] rfl) (mw_recv hgf (hP 0 _ rfl) rfl) qw2_43 ⟨Nat.le_of_ble_eq_true rfl, Nat.le_of_ble_eq_true rfl⟩ ⟨(Nat.le_of_ble_eq_true rfl), (Nat.le_of_ble_eq_true rfl)⟩ hl.1 (Nat.le_of_ble_eq_true rfl) rfl dX4_tell_2 ?_
  refine lv_astore_n (lv' := [(3, .ref (a 0)), (0, .ref x), (1, .int (nI j)), (2, .int w)]) hx hb dX4_tell_5 rfl hl (by decide) rfl (fun ls hl => ?_)
  refine lv_iload_n hx hb dX4_tell_6 rfl (lv_at hl 3 rfl) ?_
  refine lv_if_lt (tgt := 15) hx hb dX4_tell_7 (by decide) (fun h => absurd h h1) (fun _ => ?_)
  refine lv_iload_n hx hb dX4_tell_10 rfl (lv_at hl 3 rfl) ?_
  refine lv_iconst (v := 3) hx hb dX4_tell_11 (by decide) ?_
  refine lv_icmp_le (tgt := 25) hx hb dX4_tell_12 (by decide) (fun _ => ?_) (fun h => absurd h2 h)
  refine lv_aload_n hx hb dX4_tell_25 rfl (lv_at hl 0 rfl) ?_
  refine kV (C := RX1) G (cv_gi_hasRead l D a so lo hi al ch le gr sw su mn f z KI KJ L KE ) okX1_hasRead hgf (va_P.sub hP [2] rfl) (mw_recv hgf (hP 2 _ rfl) rfl) qw3_96 ⟨Nat.le_of_ble_eq_true rfl, Nat.le_of_ble_eq_true rfl⟩ ⟨(Nat.le_of_ble_eq_true rfl), (Nat.le_of_ble_eq_true rfl)⟩ hl.1 (Nat.le_of_ble_eq_true rfl) rfl dX4_tell_26 ?_
  refine lv_if_ne (tgt := 42) hx hb dX4_tell_29 (by decide) (fun h => absurd h3 h) (fun _ => ?_)
  exact mw_throwN (sup := "java/lang/RuntimeException") (names := ["java/lang/Exception"]) hlt G hlocks hex hgf hz (by decide +kernel) (by decide +kernel) (by decide +kernel) dN_0 dN_1 dN_2 dN_5 qw3_71 qw1_18 (text := "nothing has been read") (by decide +kernel) (by decide +kernel) ex1_NoSuchElementException ex2_NoSuchElementException ex3_NoSuchElementException hl.1 ⟨(Nat.le_of_ble_eq_true rfl), (Nat.le_of_ble_eq_true rfl), (Nat.le_of_ble_eq_true rfl), (Nat.le_of_ble_eq_true rfl)⟩ dX4_tell_32 dX4_tell_35 dX4_tell_36 dX4_tell_38 dX4_tell_41
set_option maxRecDepth 100000 in
set_option maxHeartbeats 4000000 in
theorem cv_tell (l : Launch) (D : mG) (x xa : Nat) (n rd ae se : Int32) (IA : Nat → Option Nat) (a : Nat → Nat) (so : Int32) (lo hi : Int64) (al ch : Int32) (le gr sw su : Int64) (mn : Int32) (f z : Bool) (KI : Nat → Int32) (KJ : Nat → Int64) (L : Nat → Option Nat) (KE : Nat → Int64) (w : Int32) {N : Nat} (hn : n = nI N) (hN : N ≤ 8) {j : Nat} (hj : j < N) (hq : IA j = some (a 0)) (h1 : ¬ w < 0) (h2 : w ≤ 3) (h3 : ¬ gi_hasRead mn = 0) : cV l D yX4_tell cX4_tell 4 .long 1 (fun H => va_P D.1 vwCl [(x, .inr (3, xF xa n rd ae se)), (xa, .inl (D.2.2.2, 8, .inr (.inr (.inr (.inr IA))))), (a 0, .inr (1, iF a so lo hi al ch le gr sw su mn)), (a 1, nE f z), (a 2, .inl (D.2.1, 6, .inl KI)), (a 3, .inl (D.2.2.1, 6, .inr (.inl KJ))), (a 4, .inl (D.2.2.2, 6, .inr (.inr (.inr (.inr L))))), (a 5, .inl (D.2.2.1, 16, .inr (.inl KE)))] H) [.ref x, .int (nI j), .int w] (.long (if w = 0 then le else (if w = 1 then gr else (if w = 2 then sw else su)))) := by
  refine cV_of (by decide) (Nat.le_of_ble_eq_true rfl) ?_
  intro p e s m below meth c ls hx hb hr hlocks G hgf hP hl
  have hP : va_P D.1 vwCl [(x, .inr (3, xF xa n rd ae se)), (xa, .inl (D.2.2.2, 8, .inr (.inr (.inr (.inr IA))))), (a 0, .inr (1, iF a so lo hi al ch le gr sw su mn)), (a 1, nE f z), (a 2, .inl (D.2.1, 6, .inl KI)), (a 3, .inl (D.2.2.1, 6, .inr (.inl KJ))), (a 4, .inl (D.2.2.2, 6, .inr (.inr (.inr (.inr L))))), (a 5, .inl (D.2.2.1, 16, .inr (.inl KE)))] s.heap := hP
  have hl : lv_has ls 4 [(0, .ref x), (1, .int (nI j)), (2, .int w)] := hl
  refine lv_aload_n hx hb dX4_tell_0 rfl (lv_at hl 0 rfl) ?_
  refine lv_iload_n hx hb dX4_tell_1 rfl (lv_at hl 1 rfl) ?_
  refine kV (C := RX4) G (cv_instAt l D x xa n rd ae se IA hn hN hj hq) okX4_instrumentAt hgf (va_P.sub hP [0, 1] rfl) (mw_recv hgf (hP 0 _ rfl) rfl) qw2_43 ⟨Nat.le_of_ble_eq_true rfl, Nat.le_of_ble_eq_true rfl⟩ ⟨(Nat.le_of_ble_eq_true rfl), (Nat.le_of_ble_eq_true rfl)⟩ hl.1 (Nat.le_of_ble_eq_true rfl) rfl dX4_tell_2 ?_
  refine lv_astore_n (lv' := [(3, .ref (a 0)), (0, .ref x), (1, .int (nI j)), (2, .int w)]) hx hb dX4_tell_5 rfl hl (by decide) rfl (fun ls hl => ?_)
  refine lv_iload_n hx hb dX4_tell_6 rfl (lv_at hl 3 rfl) ?_
  refine lv_if_lt (tgt := 15) hx hb dX4_tell_7 (by decide) (fun h => absurd h h1) (fun _ => ?_)
  refine lv_iload_n hx hb dX4_tell_10 rfl (lv_at hl 3 rfl) ?_
  refine lv_iconst (v := 3) hx hb dX4_tell_11 (by decide) ?_
  refine lv_icmp_le (tgt := 25) hx hb dX4_tell_12 (by decide) (fun _ => ?_) (fun h => absurd h2 h)
  refine lv_aload_n hx hb dX4_tell_25 rfl (lv_at hl 0 rfl) ?_
  refine kV (C := RX1) G (cv_gi_hasRead l D a so lo hi al ch le gr sw su mn f z KI KJ L KE ) okX1_hasRead hgf (va_P.sub hP [2] rfl) (mw_recv hgf (hP 2 _ rfl) rfl) qw3_96 ⟨Nat.le_of_ble_eq_true rfl, Nat.le_of_ble_eq_true rfl⟩ ⟨(Nat.le_of_ble_eq_true rfl), (Nat.le_of_ble_eq_true rfl)⟩ hl.1 (Nat.le_of_ble_eq_true rfl) rfl dX4_tell_26 ?_
  refine lv_if_ne (tgt := 42) hx hb dX4_tell_29 (by decide) (fun _ => ?_) (fun h => absurd h h3)
  refine lv_iload_n hx hb dX4_tell_42 rfl (lv_at hl 3 rfl) ?_
  by_cases c_1 : w = 0
  · refine lv_tableIn (off := 25) (tgt := 68) hx hb dX4_tell_43 (by rw [c_1]; decide) (by rw [c_1]; decide) (by rw [c_1]; rfl) (by decide) ?_
    refine lv_aload_n hx hb dX4_tell_68 rfl (lv_at hl 0 rfl) ?_
    refine mw_get G hgf (hP 2 _ rfl) rfl inX1 6 (by decide) qw1_229 rfl dX4_tell_69 ?_
    exact mw_lret hx hb hr hlocks dX4_tell_72 ((if_pos c_1).trans (rfl)).symm
  · by_cases c_2 : w = 1
    · refine lv_tableIn (off := 30) (tgt := 73) hx hb dX4_tell_43 (by rw [c_2]; decide) (by rw [c_2]; decide) (by rw [c_2]; rfl) (by decide) ?_
      refine lv_aload_n hx hb dX4_tell_73 rfl (lv_at hl 0 rfl) ?_
      refine mw_get G hgf (hP 2 _ rfl) rfl inX1 7 (by decide) qw1_231 rfl dX4_tell_74 ?_
      exact mw_lret hx hb hr hlocks dX4_tell_77 ((if_neg c_1).trans ((if_pos c_2).trans (rfl))).symm
    · by_cases c_3 : w = 2
      · refine lv_tableIn (off := 35) (tgt := 78) hx hb dX4_tell_43 (by rw [c_3]; decide) (by rw [c_3]; decide) (by rw [c_3]; rfl) (by decide) ?_
        refine lv_aload_n hx hb dX4_tell_78 rfl (lv_at hl 0 rfl) ?_
        refine mw_get G hgf (hP 2 _ rfl) rfl inX1 8 (by decide) qw1_233 rfl dX4_tell_79 ?_
        exact mw_lret hx hb hr hlocks dX4_tell_82 ((if_neg c_1).trans ((if_neg c_2).trans ((if_pos c_3).trans (rfl)))).symm
      · refine lv_tableOut (tgt := 83) hx hb dX4_tell_43 (by have qc_1 : w.toInt ≠ 0 := mw_ne c_1; have qc_2 : w.toInt ≠ 1 := mw_ne c_2; have qc_3 : w.toInt ≠ 2 := mw_ne c_3; omega) (by decide) ?_
        refine lv_aload_n hx hb dX4_tell_83 rfl (lv_at hl 0 rfl) ?_
        refine mw_get G hgf (hP 2 _ rfl) rfl inX1 9 (by decide) qw1_235 rfl dX4_tell_84 ?_
        exact mw_lret hx hb hr hlocks dX4_tell_87 ((if_neg c_1).trans ((if_neg c_2).trans ((if_neg c_3).trans (rfl)))).symm
set_option maxRecDepth 100000 in
set_option maxHeartbeats 4000000 in
theorem ct_whole_1 (l : Launch) (D : mG) (x xa : Nat) (n rd ae se : Int32) (IA : Nat → Option Nat) (a : Nat → Nat) (so : Int32) (lo hi : Int64) (al ch : Int32) (le gr sw su : Int64) (mn : Int32) (f z : Bool) (KI : Nat → Int32) (KJ : Nat → Int64) (L : Nat → Option Nat) (KE : Nat → Int64) (hlt : l.stackTraces = false) {N : Nat} (hn : n = nI N) (hN : N ≤ 8) {j : Nat} (hj : j < N) (hq : IA j = some (a 0)) (h1 : gi_hasRead mn = 0) : cT l D yX4_whole cX4_whole 3 .int 6 (fun H => va_P D.1 vwCl [(x, .inr (3, xF xa n rd ae se)), (xa, .inl (D.2.2.2, 8, .inr (.inr (.inr (.inr IA))))), (a 0, .inr (1, iF a so lo hi al ch le gr sw su mn)), (a 1, nE f z), (a 2, .inl (D.2.1, 6, .inl KI)), (a 3, .inl (D.2.2.1, 6, .inr (.inl KJ))), (a 4, .inl (D.2.2.2, 6, .inr (.inr (.inr (.inr L))))), (a 5, .inl (D.2.2.1, 16, .inr (.inl KE)))] H) [.ref x, .int (nI j)] "java/util/NoSuchElementException" := by
  refine cT_of (by decide) (Nat.le_of_ble_eq_true rfl) ?_
  intro p e s m below meth c ls hx hb hlocks hex G hgf hz hP hl
  have hP : va_P D.1 vwCl [(x, .inr (3, xF xa n rd ae se)), (xa, .inl (D.2.2.2, 8, .inr (.inr (.inr (.inr IA))))), (a 0, .inr (1, iF a so lo hi al ch le gr sw su mn)), (a 1, nE f z), (a 2, .inl (D.2.1, 6, .inl KI)), (a 3, .inl (D.2.2.1, 6, .inr (.inl KJ))), (a 4, .inl (D.2.2.2, 6, .inr (.inr (.inr (.inr L))))), (a 5, .inl (D.2.2.1, 16, .inr (.inl KE)))] s.heap := hP
  have hl : lv_has ls 3 [(0, .ref x), (1, .int (nI j))] := hl
  refine lv_aload_n hx hb dX4_whole_0 rfl (lv_at hl 0 rfl) ?_
  refine lv_iload_n hx hb dX4_whole_1 rfl (lv_at hl 1 rfl) ?_
  refine kV (C := RX4) G (cv_instAt l D x xa n rd ae se IA hn hN hj hq) okX4_instrumentAt hgf (va_P.sub hP [0, 1] rfl) (mw_recv hgf (hP 0 _ rfl) rfl) qw2_43 ⟨Nat.le_of_ble_eq_true rfl, Nat.le_of_ble_eq_true rfl⟩ ⟨(Nat.le_of_ble_eq_true rfl), (Nat.le_of_ble_eq_true rfl)⟩ hl.1 (Nat.le_of_ble_eq_true rfl) rfl dX4_whole_2 ?_
  refine lv_astore_n (lv' := [(2, .ref (a 0)), (0, .ref x), (1, .int (nI j))]) hx hb dX4_whole_5 rfl hl (by decide) rfl (fun ls hl => ?_)
  refine lv_aload_n hx hb dX4_whole_6 rfl (lv_at hl 0 rfl) ?_
  refine kV (C := RX1) G (cv_gi_hasRead l D a so lo hi al ch le gr sw su mn f z KI KJ L KE ) okX1_hasRead hgf (va_P.sub hP [2] rfl) (mw_recv hgf (hP 2 _ rfl) rfl) qw3_96 ⟨Nat.le_of_ble_eq_true rfl, Nat.le_of_ble_eq_true rfl⟩ ⟨(Nat.le_of_ble_eq_true rfl), (Nat.le_of_ble_eq_true rfl)⟩ hl.1 (Nat.le_of_ble_eq_true rfl) rfl dX4_whole_7 ?_
  refine lv_if_ne (tgt := 23) hx hb dX4_whole_10 (by decide) (fun h => absurd h1 h) (fun _ => ?_)
  exact mw_throwN (sup := "java/lang/RuntimeException") (names := ["java/lang/Exception"]) hlt G hlocks hex hgf hz (by decide +kernel) (by decide +kernel) (by decide +kernel) dN_0 dN_1 dN_2 dN_5 qw3_71 qw1_18 (text := "nothing has been read") (by decide +kernel) (by decide +kernel) ex1_NoSuchElementException ex2_NoSuchElementException ex3_NoSuchElementException hl.1 ⟨(Nat.le_of_ble_eq_true rfl), (Nat.le_of_ble_eq_true rfl), (Nat.le_of_ble_eq_true rfl), (Nat.le_of_ble_eq_true rfl)⟩ dX4_whole_13 dX4_whole_16 dX4_whole_17 dX4_whole_19 dX4_whole_22
set_option maxRecDepth 100000 in
set_option maxHeartbeats 4000000 in
theorem cv_whole (l : Launch) (D : mG) (x xa : Nat) (n rd ae se : Int32) (IA : Nat → Option Nat) (a : Nat → Nat) (so : Int32) (lo hi : Int64) (al ch : Int32) (le gr sw su : Int64) (mn : Int32) (f z : Bool) (KI : Nat → Int32) (KJ : Nat → Int64) (L : Nat → Option Nat) (KE : Nat → Int64) {N : Nat} (hn : n = nI N) (hN : N ≤ 8) {j : Nat} (hj : j < N) (hq : IA j = some (a 0)) (h1 : ¬ gi_hasRead mn = 0) : cV l D yX4_whole cX4_whole 3 .int 2 (fun H => va_P D.1 vwCl [(x, .inr (3, xF xa n rd ae se)), (xa, .inl (D.2.2.2, 8, .inr (.inr (.inr (.inr IA))))), (a 0, .inr (1, iF a so lo hi al ch le gr sw su mn)), (a 1, nE f z), (a 2, .inl (D.2.1, 6, .inl KI)), (a 3, .inl (D.2.2.1, 6, .inr (.inl KJ))), (a 4, .inl (D.2.2.2, 6, .inr (.inr (.inr (.inr L))))), (a 5, .inl (D.2.2.1, 16, .inr (.inl KE)))] H) [.ref x, .int (nI j)] (.int (gn_toInt f z (gi_latest mn KE 0))) := by
  refine cV_of (by decide) (Nat.le_of_ble_eq_true rfl) ?_
  intro p e s m below meth c ls hx hb hr hlocks G hgf hP hl
  have hP : va_P D.1 vwCl [(x, .inr (3, xF xa n rd ae se)), (xa, .inl (D.2.2.2, 8, .inr (.inr (.inr (.inr IA))))), (a 0, .inr (1, iF a so lo hi al ch le gr sw su mn)), (a 1, nE f z), (a 2, .inl (D.2.1, 6, .inl KI)), (a 3, .inl (D.2.2.1, 6, .inr (.inl KJ))), (a 4, .inl (D.2.2.2, 6, .inr (.inr (.inr (.inr L))))), (a 5, .inl (D.2.2.1, 16, .inr (.inl KE)))] s.heap := hP
  have hl : lv_has ls 3 [(0, .ref x), (1, .int (nI j))] := hl
  refine lv_aload_n hx hb dX4_whole_0 rfl (lv_at hl 0 rfl) ?_
  refine lv_iload_n hx hb dX4_whole_1 rfl (lv_at hl 1 rfl) ?_
  refine kV (C := RX4) G (cv_instAt l D x xa n rd ae se IA hn hN hj hq) okX4_instrumentAt hgf (va_P.sub hP [0, 1] rfl) (mw_recv hgf (hP 0 _ rfl) rfl) qw2_43 ⟨Nat.le_of_ble_eq_true rfl, Nat.le_of_ble_eq_true rfl⟩ ⟨(Nat.le_of_ble_eq_true rfl), (Nat.le_of_ble_eq_true rfl)⟩ hl.1 (Nat.le_of_ble_eq_true rfl) rfl dX4_whole_2 ?_
  refine lv_astore_n (lv' := [(2, .ref (a 0)), (0, .ref x), (1, .int (nI j))]) hx hb dX4_whole_5 rfl hl (by decide) rfl (fun ls hl => ?_)
  refine lv_aload_n hx hb dX4_whole_6 rfl (lv_at hl 0 rfl) ?_
  refine kV (C := RX1) G (cv_gi_hasRead l D a so lo hi al ch le gr sw su mn f z KI KJ L KE ) okX1_hasRead hgf (va_P.sub hP [2] rfl) (mw_recv hgf (hP 2 _ rfl) rfl) qw3_96 ⟨Nat.le_of_ble_eq_true rfl, Nat.le_of_ble_eq_true rfl⟩ ⟨(Nat.le_of_ble_eq_true rfl), (Nat.le_of_ble_eq_true rfl)⟩ hl.1 (Nat.le_of_ble_eq_true rfl) rfl dX4_whole_7 ?_
  refine lv_if_ne (tgt := 23) hx hb dX4_whole_10 (by decide) (fun _ => ?_) (fun h => absurd h h1)
  refine lv_aload_n hx hb dX4_whole_23 rfl (lv_at hl 0 rfl) ?_
  refine mw_get G hgf (hP 2 _ rfl) rfl inX1 1 (by decide) qw1_220 rfl dX4_whole_24 ?_
  refine lv_aload_n hx hb dX4_whole_27 rfl (lv_at hl 0 rfl) ?_
  refine lv_iconst (v := 0) hx hb dX4_whole_28 (by decide) ?_
  refine kV (C := RX1) G (cv_gi_latest l D a so lo hi al ch le gr sw su mn f z KI KJ L KE 0) okX1_latest hgf (va_P.sub hP [2, 7] rfl) (mw_recv hgf (hP 2 _ rfl) rfl) qw3_87 ⟨Nat.le_of_ble_eq_true rfl, Nat.le_of_ble_eq_true rfl⟩ ⟨(Nat.le_of_ble_eq_true rfl), (Nat.le_of_ble_eq_true rfl)⟩ hl.1 (Nat.le_of_ble_eq_true rfl) rfl dX4_whole_29 ?_
  refine kgn_toInt (f := f) (z := z) (gi_latest mn KE 0) G hgf (hP 3 _ rfl) qw3_105 ⟨Nat.le_of_ble_eq_true rfl, Nat.le_of_ble_eq_true rfl⟩ ⟨(Nat.le_of_ble_eq_true rfl), (Nat.le_of_ble_eq_true rfl)⟩ hl.1 (Nat.le_of_ble_eq_true rfl) dX4_whole_32 ?_
  exact mw_iret hx hb hr hlocks dX4_whole_35 (rfl).symm
set_option maxRecDepth 100000 in
set_option maxHeartbeats 4000000 in
theorem ct_limits_1 (l : Launch) (D : mG) (x xa : Nat) (n rd ae se : Int32) (IA : Nat → Option Nat) (a : Nat → Nat) (so : Int32) (lo hi : Int64) (al ch : Int32) (le gr sw su : Int64) (mn : Int32) (f z : Bool) (KI : Nat → Int32) (KJ : Nat → Int64) (L : Nat → Option Nat) (KE : Nat → Int64) (u w : Int64) (hlt : l.stackTraces = false) {N : Nat} (hn : n = nI N) (hN : N ≤ 8) {j : Nat} (hj : j < N) (hq : IA j = some (a 0)) (h1 : gn_isNumber f z (gn_ofWidth f z u) = 0) : cT l D yX4_limits cX4_limits 12 .boolean 6 (fun H => va_P D.1 vwCl [(x, .inr (3, xF xa n rd ae se)), (xa, .inl (D.2.2.2, 8, .inr (.inr (.inr (.inr IA))))), (a 0, .inr (1, iF a so lo hi al ch le gr sw su mn)), (a 1, nE f z), (a 2, .inl (D.2.1, 6, .inl KI)), (a 3, .inl (D.2.2.1, 6, .inr (.inl KJ))), (a 4, .inl (D.2.2.2, 6, .inr (.inr (.inr (.inr L))))), (a 5, .inl (D.2.2.1, 16, .inr (.inl KE)))] H) [.ref x, .int (nI j), .long u, .long w] "java/lang/IllegalArgumentException" := by
  refine cT_of (by decide) (Nat.le_of_ble_eq_true rfl) ?_
  intro p e s m below meth c ls hx hb hlocks hex G hgf hz hP hl
  have hP : va_P D.1 vwCl [(x, .inr (3, xF xa n rd ae se)), (xa, .inl (D.2.2.2, 8, .inr (.inr (.inr (.inr IA))))), (a 0, .inr (1, iF a so lo hi al ch le gr sw su mn)), (a 1, nE f z), (a 2, .inl (D.2.1, 6, .inl KI)), (a 3, .inl (D.2.2.1, 6, .inr (.inl KJ))), (a 4, .inl (D.2.2.2, 6, .inr (.inr (.inr (.inr L))))), (a 5, .inl (D.2.2.1, 16, .inr (.inl KE)))] s.heap := hP
  have hl : lv_has ls 12 [(0, .ref x), (1, .int (nI j)), (2, .long u), (4, .long w)] := hl
  refine lv_aload_n hx hb dX4_limits_0 rfl (lv_at hl 0 rfl) ?_
  refine lv_iload_n hx hb dX4_limits_1 rfl (lv_at hl 1 rfl) ?_
  refine kV (C := RX4) G (cv_instAt l D x xa n rd ae se IA hn hN hj hq) okX4_instrumentAt hgf (va_P.sub hP [0, 1] rfl) (mw_recv hgf (hP 0 _ rfl) rfl) qw2_43 ⟨Nat.le_of_ble_eq_true rfl, Nat.le_of_ble_eq_true rfl⟩ ⟨(Nat.le_of_ble_eq_true rfl), (Nat.le_of_ble_eq_true rfl)⟩ hl.1 (Nat.le_of_ble_eq_true rfl) rfl dX4_limits_2 ?_
  refine lv_astore (lv' := [(6, .ref (a 0)), (0, .ref x), (1, .int (nI j)), (2, .long u), (4, .long w)]) hx hb dX4_limits_5 hl (by decide) rfl (fun ls hl => ?_)
  refine lv_aload hx hb dX4_limits_7 (lv_at hl 0 rfl) ?_
  refine mw_get G hgf (hP 2 _ rfl) rfl inX1 1 (by decide) qw1_220 rfl dX4_limits_9 ?_
  refine lv_astore (lv' := [(7, .ref (a 1)), (6, .ref (a 0)), (0, .ref x), (1, .int (nI j)), (2, .long u), (4, .long w)]) hx hb dX4_limits_12 hl (by decide) rfl (fun ls hl => ?_)
  refine lv_aload hx hb dX4_limits_14 (lv_at hl 0 rfl) ?_
  refine lv_lload_n hx hb dX4_limits_16 rfl (lv_at hl 4 rfl) ?_
  refine kgn_ofWidth (f := f) (z := z) u G hgf (hP 3 _ rfl) qw2_70 ⟨Nat.le_of_ble_eq_true rfl, Nat.le_of_ble_eq_true rfl⟩ ⟨(Nat.le_of_ble_eq_true rfl), (Nat.le_of_ble_eq_true rfl)⟩ hl.1 (Nat.le_of_ble_eq_true rfl) dX4_limits_17 ?_
  refine lv_lstore (lv' := [(8, .long (gn_ofWidth f z u)), (7, .ref (a 1)), (6, .ref (a 0)), (0, .ref x), (1, .int (nI j)), (2, .long u), (4, .long w)]) hx hb dX4_limits_20 hl (by decide) rfl (fun ls hl => ?_)
  refine lv_aload hx hb dX4_limits_22 (lv_at hl 1 rfl) ?_
  refine lv_lload hx hb dX4_limits_24 (lv_at hl 6 rfl) ?_
  refine kgn_ofWidth (f := f) (z := z) w G hgf (hP 3 _ rfl) qw2_70 ⟨Nat.le_of_ble_eq_true rfl, Nat.le_of_ble_eq_true rfl⟩ ⟨(Nat.le_of_ble_eq_true rfl), (Nat.le_of_ble_eq_true rfl)⟩ hl.1 (Nat.le_of_ble_eq_true rfl) dX4_limits_26 ?_
  refine lv_lstore (lv' := [(10, .long (gn_ofWidth f z w)), (8, .long (gn_ofWidth f z u)), (7, .ref (a 1)), (6, .ref (a 0)), (0, .ref x), (1, .int (nI j)), (2, .long u), (4, .long w)]) hx hb dX4_limits_29 hl (by decide) rfl (fun ls hl => ?_)
  refine lv_aload hx hb dX4_limits_31 (lv_at hl 2 rfl) ?_
  refine lv_lload hx hb dX4_limits_33 (lv_at hl 1 rfl) ?_
  refine kgn_isNumber (f := f) (z := z) (gn_ofWidth f z u) G hgf (hP 3 _ rfl) qw2_79 ⟨Nat.le_of_ble_eq_true rfl, Nat.le_of_ble_eq_true rfl⟩ ⟨(Nat.le_of_ble_eq_true rfl), (Nat.le_of_ble_eq_true rfl)⟩ hl.1 (Nat.le_of_ble_eq_true rfl) dX4_limits_35 ?_
  refine lv_if_eq (tgt := 51) hx hb dX4_limits_38 (by decide) (fun _ => ?_) (fun h => absurd h1 h)
  exact mw_throw hlt G hlocks hex hgf hz (by decide +kernel) qw1_61 qw1_6 (text := "a limit is no number") (by decide +kernel) (by decide +kernel) ex1_IllegalArgumentException ex2_IllegalArgumentException ex3_IllegalArgumentException hl.1 ⟨(Nat.le_of_ble_eq_true rfl), (Nat.le_of_ble_eq_true rfl), (Nat.le_of_ble_eq_true rfl), (Nat.le_of_ble_eq_true rfl)⟩ dX4_limits_51 dX4_limits_54 dX4_limits_55 dX4_limits_57 dX4_limits_60
set_option maxRecDepth 100000 in
set_option maxHeartbeats 4000000 in
theorem ct_limits_2 (l : Launch) (D : mG) (x xa : Nat) (n rd ae se : Int32) (IA : Nat → Option Nat) (a : Nat → Nat) (so : Int32) (lo hi : Int64) (al ch : Int32) (le gr sw su : Int64) (mn : Int32) (f z : Bool) (KI : Nat → Int32) (KJ : Nat → Int64) (L : Nat → Option Nat) (KE : Nat → Int64) (u w : Int64) (hlt : l.stackTraces = false) {N : Nat} (hn : n = nI N) (hN : N ≤ 8) {j : Nat} (hj : j < N) (hq : IA j = some (a 0)) (h1 : ¬ gn_isNumber f z (gn_ofWidth f z u) = 0) (h2 : gn_isNumber f z (gn_ofWidth f z w) = 0) : cT l D yX4_limits cX4_limits 12 .boolean 6 (fun H => va_P D.1 vwCl [(x, .inr (3, xF xa n rd ae se)), (xa, .inl (D.2.2.2, 8, .inr (.inr (.inr (.inr IA))))), (a 0, .inr (1, iF a so lo hi al ch le gr sw su mn)), (a 1, nE f z), (a 2, .inl (D.2.1, 6, .inl KI)), (a 3, .inl (D.2.2.1, 6, .inr (.inl KJ))), (a 4, .inl (D.2.2.2, 6, .inr (.inr (.inr (.inr L))))), (a 5, .inl (D.2.2.1, 16, .inr (.inl KE)))] H) [.ref x, .int (nI j), .long u, .long w] "java/lang/IllegalArgumentException" := by
  refine cT_of (by decide) (Nat.le_of_ble_eq_true rfl) ?_
  intro p e s m below meth c ls hx hb hlocks hex G hgf hz hP hl
  have hP : va_P D.1 vwCl [(x, .inr (3, xF xa n rd ae se)), (xa, .inl (D.2.2.2, 8, .inr (.inr (.inr (.inr IA))))), (a 0, .inr (1, iF a so lo hi al ch le gr sw su mn)), (a 1, nE f z), (a 2, .inl (D.2.1, 6, .inl KI)), (a 3, .inl (D.2.2.1, 6, .inr (.inl KJ))), (a 4, .inl (D.2.2.2, 6, .inr (.inr (.inr (.inr L))))), (a 5, .inl (D.2.2.1, 16, .inr (.inl KE)))] s.heap := hP
  have hl : lv_has ls 12 [(0, .ref x), (1, .int (nI j)), (2, .long u), (4, .long w)] := hl
  refine lv_aload_n hx hb dX4_limits_0 rfl (lv_at hl 0 rfl) ?_
  refine lv_iload_n hx hb dX4_limits_1 rfl (lv_at hl 1 rfl) ?_
  refine kV (C := RX4) G (cv_instAt l D x xa n rd ae se IA hn hN hj hq) okX4_instrumentAt hgf (va_P.sub hP [0, 1] rfl) (mw_recv hgf (hP 0 _ rfl) rfl) qw2_43 ⟨Nat.le_of_ble_eq_true rfl, Nat.le_of_ble_eq_true rfl⟩ ⟨(Nat.le_of_ble_eq_true rfl), (Nat.le_of_ble_eq_true rfl)⟩ hl.1 (Nat.le_of_ble_eq_true rfl) rfl dX4_limits_2 ?_
  refine lv_astore (lv' := [(6, .ref (a 0)), (0, .ref x), (1, .int (nI j)), (2, .long u), (4, .long w)]) hx hb dX4_limits_5 hl (by decide) rfl (fun ls hl => ?_)
  refine lv_aload hx hb dX4_limits_7 (lv_at hl 0 rfl) ?_
  refine mw_get G hgf (hP 2 _ rfl) rfl inX1 1 (by decide) qw1_220 rfl dX4_limits_9 ?_
  refine lv_astore (lv' := [(7, .ref (a 1)), (6, .ref (a 0)), (0, .ref x), (1, .int (nI j)), (2, .long u), (4, .long w)]) hx hb dX4_limits_12 hl (by decide) rfl (fun ls hl => ?_)
  refine lv_aload hx hb dX4_limits_14 (lv_at hl 0 rfl) ?_
  refine lv_lload_n hx hb dX4_limits_16 rfl (lv_at hl 4 rfl) ?_
  refine kgn_ofWidth (f := f) (z := z) u G hgf (hP 3 _ rfl) qw2_70 ⟨Nat.le_of_ble_eq_true rfl, Nat.le_of_ble_eq_true rfl⟩ ⟨(Nat.le_of_ble_eq_true rfl), (Nat.le_of_ble_eq_true rfl)⟩ hl.1 (Nat.le_of_ble_eq_true rfl) dX4_limits_17 ?_
  refine lv_lstore (lv' := [(8, .long (gn_ofWidth f z u)), (7, .ref (a 1)), (6, .ref (a 0)), (0, .ref x), (1, .int (nI j)), (2, .long u), (4, .long w)]) hx hb dX4_limits_20 hl (by decide) rfl (fun ls hl => ?_)
  refine lv_aload hx hb dX4_limits_22 (lv_at hl 1 rfl) ?_
  refine lv_lload hx hb dX4_limits_24 (lv_at hl 6 rfl) ?_
  refine kgn_ofWidth (f := f) (z := z) w G hgf (hP 3 _ rfl) qw2_70 ⟨Nat.le_of_ble_eq_true rfl, Nat.le_of_ble_eq_true rfl⟩ ⟨(Nat.le_of_ble_eq_true rfl), (Nat.le_of_ble_eq_true rfl)⟩ hl.1 (Nat.le_of_ble_eq_true rfl) dX4_limits_26 ?_
  refine lv_lstore (lv' := [(10, .long (gn_ofWidth f z w)), (8, .long (gn_ofWidth f z u)), (7, .ref (a 1)), (6, .ref (a 0)), (0, .ref x), (1, .int (nI j)), (2, .long u), (4, .long w)]) hx hb dX4_limits_29 hl (by decide) rfl (fun ls hl => ?_)
  refine lv_aload hx hb dX4_limits_31 (lv_at hl 2 rfl) ?_
  refine lv_lload hx hb dX4_limits_33 (lv_at hl 1 rfl) ?_
  refine kgn_isNumber (f := f) (z := z) (gn_ofWidth f z u) G hgf (hP 3 _ rfl) qw2_79 ⟨Nat.le_of_ble_eq_true rfl, Nat.le_of_ble_eq_true rfl⟩ ⟨(Nat.le_of_ble_eq_true rfl), (Nat.le_of_ble_eq_true rfl)⟩ hl.1 (Nat.le_of_ble_eq_true rfl) dX4_limits_35 ?_
  refine lv_if_eq (tgt := 51) hx hb dX4_limits_38 (by decide) (fun h => absurd h h1) (fun _ => ?_)
  refine lv_aload hx hb dX4_limits_41 (lv_at hl 2 rfl) ?_
  refine lv_lload hx hb dX4_limits_43 (lv_at hl 0 rfl) ?_
  refine kgn_isNumber (f := f) (z := z) (gn_ofWidth f z w) G hgf (hP 3 _ rfl) qw2_79 ⟨Nat.le_of_ble_eq_true rfl, Nat.le_of_ble_eq_true rfl⟩ ⟨(Nat.le_of_ble_eq_true rfl), (Nat.le_of_ble_eq_true rfl)⟩ hl.1 (Nat.le_of_ble_eq_true rfl) dX4_limits_45 ?_
  refine lv_if_ne (tgt := 61) hx hb dX4_limits_48 (by decide) (fun h => absurd h2 h) (fun _ => ?_)
  exact mw_throw hlt G hlocks hex hgf hz (by decide +kernel) qw1_61 qw1_6 (text := "a limit is no number") (by decide +kernel) (by decide +kernel) ex1_IllegalArgumentException ex2_IllegalArgumentException ex3_IllegalArgumentException hl.1 ⟨(Nat.le_of_ble_eq_true rfl), (Nat.le_of_ble_eq_true rfl), (Nat.le_of_ble_eq_true rfl), (Nat.le_of_ble_eq_true rfl)⟩ dX4_limits_51 dX4_limits_54 dX4_limits_55 dX4_limits_57 dX4_limits_60
set_option maxRecDepth 100000 in
set_option maxHeartbeats 4000000 in
theorem cv_alarms (l : Launch) (D : mG) (x xa : Nat) (n rd ae se : Int32) (IA : Nat → Option Nat) (a : Nat → Nat) (so : Int32) (lo hi : Int64) (al ch : Int32) (le gr sw su : Int64) (mn : Int32) (f z : Bool) (KI : Nat → Int32) (KJ : Nat → Int64) (L : Nat → Option Nat) (KE : Nat → Int64) {N : Nat} (hn : n = nI N) (hN : N ≤ 8) {j : Nat} (hj : j < N) (hq : IA j = some (a 0)) : cV l D yX4_alarms cX4_alarms 2 .int 1 (fun H => va_P D.1 vwCl [(x, .inr (3, xF xa n rd ae se)), (xa, .inl (D.2.2.2, 8, .inr (.inr (.inr (.inr IA))))), (a 0, .inr (1, iF a so lo hi al ch le gr sw su mn)), (a 1, nE f z), (a 2, .inl (D.2.1, 6, .inl KI)), (a 3, .inl (D.2.2.1, 6, .inr (.inl KJ))), (a 4, .inl (D.2.2.2, 6, .inr (.inr (.inr (.inr L))))), (a 5, .inl (D.2.2.1, 16, .inr (.inl KE)))] H) [.ref x, .int (nI j)] (.int (al)) := by
  refine cV_of (by decide) (Nat.le_of_ble_eq_true rfl) ?_
  intro p e s m below meth c ls hx hb hr hlocks G hgf hP hl
  have hP : va_P D.1 vwCl [(x, .inr (3, xF xa n rd ae se)), (xa, .inl (D.2.2.2, 8, .inr (.inr (.inr (.inr IA))))), (a 0, .inr (1, iF a so lo hi al ch le gr sw su mn)), (a 1, nE f z), (a 2, .inl (D.2.1, 6, .inl KI)), (a 3, .inl (D.2.2.1, 6, .inr (.inl KJ))), (a 4, .inl (D.2.2.2, 6, .inr (.inr (.inr (.inr L))))), (a 5, .inl (D.2.2.1, 16, .inr (.inl KE)))] s.heap := hP
  have hl : lv_has ls 2 [(0, .ref x), (1, .int (nI j))] := hl
  refine lv_aload_n hx hb dX4_alarms_0 rfl (lv_at hl 0 rfl) ?_
  refine lv_iload_n hx hb dX4_alarms_1 rfl (lv_at hl 1 rfl) ?_
  refine kV (C := RX4) G (cv_instAt l D x xa n rd ae se IA hn hN hj hq) okX4_instrumentAt hgf (va_P.sub hP [0, 1] rfl) (mw_recv hgf (hP 0 _ rfl) rfl) qw2_43 ⟨Nat.le_of_ble_eq_true rfl, Nat.le_of_ble_eq_true rfl⟩ ⟨(Nat.le_of_ble_eq_true rfl), (Nat.le_of_ble_eq_true rfl)⟩ hl.1 (Nat.le_of_ble_eq_true rfl) rfl dX4_alarms_2 ?_
  refine mw_get G hgf (hP 2 _ rfl) rfl inX1 4 (by decide) qw1_225 rfl dX4_alarms_5 ?_
  exact mw_iret hx hb hr hlocks dX4_alarms_8 (rfl).symm
set_option maxRecDepth 100000 in
set_option maxHeartbeats 4000000 in
theorem cv_count (l : Launch) (D : mG) (x xa : Nat) (n rd ae se : Int32) (IA : Nat → Option Nat) (w : Int32)  : cV l D yX4_count cX4_count 2 .int 0 (fun H => va_P D.1 vwCl [(x, .inr (3, xF xa n rd ae se)), (xa, .inl (D.2.2.2, 8, .inr (.inr (.inr (.inr IA)))))] H) [.ref x, .int w] (.int (if w = 0 then n else (if w = 1 then rd else (if w = 2 then ae else (if w = 3 then se else (-1)))))) := by
  refine cV_of (by decide) (Nat.le_of_ble_eq_true rfl) ?_
  intro p e s m below meth c ls hx hb hr hlocks G hgf hP hl
  have hP : va_P D.1 vwCl [(x, .inr (3, xF xa n rd ae se)), (xa, .inl (D.2.2.2, 8, .inr (.inr (.inr (.inr IA)))))] s.heap := hP
  have hl : lv_has ls 2 [(0, .ref x), (1, .int w)] := hl
  refine lv_iload_n hx hb dX4_count_0 rfl (lv_at hl 1 rfl) ?_
  by_cases c_1 : w = 0
  · refine lv_tableIn (off := 31) (tgt := 32) hx hb dX4_count_1 (by rw [c_1]; decide) (by rw [c_1]; decide) (by rw [c_1]; rfl) (by decide) ?_
    refine lv_aload_n hx hb dX4_count_32 rfl (lv_at hl 0 rfl) ?_
    refine mw_get G hgf (hP 0 _ rfl) rfl inX4 1 (by decide) qw1_30 rfl dX4_count_33 ?_
    exact mw_iret hx hb hr hlocks dX4_count_36 ((if_pos c_1).trans (rfl)).symm
  · by_cases c_2 : w = 1
    · refine lv_tableIn (off := 36) (tgt := 37) hx hb dX4_count_1 (by rw [c_2]; decide) (by rw [c_2]; decide) (by rw [c_2]; rfl) (by decide) ?_
      refine lv_aload_n hx hb dX4_count_37 rfl (lv_at hl 0 rfl) ?_
      refine mw_get G hgf (hP 0 _ rfl) rfl inX4 2 (by decide) qw1_31 rfl dX4_count_38 ?_
      exact mw_iret hx hb hr hlocks dX4_count_41 ((if_neg c_1).trans ((if_pos c_2).trans (rfl))).symm
    · by_cases c_3 : w = 2
      · refine lv_tableIn (off := 41) (tgt := 42) hx hb dX4_count_1 (by rw [c_3]; decide) (by rw [c_3]; decide) (by rw [c_3]; rfl) (by decide) ?_
        refine lv_aload_n hx hb dX4_count_42 rfl (lv_at hl 0 rfl) ?_
        refine mw_get G hgf (hP 0 _ rfl) rfl inX4 3 (by decide) qw1_32 rfl dX4_count_43 ?_
        exact mw_iret hx hb hr hlocks dX4_count_46 ((if_neg c_1).trans ((if_neg c_2).trans ((if_pos c_3).trans (rfl)))).symm
      · by_cases c_4 : w = 3
        · refine lv_tableIn (off := 46) (tgt := 47) hx hb dX4_count_1 (by rw [c_4]; decide) (by rw [c_4]; decide) (by rw [c_4]; rfl) (by decide) ?_
          refine lv_aload_n hx hb dX4_count_47 rfl (lv_at hl 0 rfl) ?_
          refine mw_get G hgf (hP 0 _ rfl) rfl inX4 4 (by decide) qw1_33 rfl dX4_count_48 ?_
          exact mw_iret hx hb hr hlocks dX4_count_51 ((if_neg c_1).trans ((if_neg c_2).trans ((if_neg c_3).trans ((if_pos c_4).trans (rfl))))).symm
        · refine lv_tableOut (tgt := 52) hx hb dX4_count_1 (by have qc_1 : w.toInt ≠ 0 := mw_ne c_1; have qc_2 : w.toInt ≠ 1 := mw_ne c_2; have qc_3 : w.toInt ≠ 2 := mw_ne c_3; have qc_4 : w.toInt ≠ 3 := mw_ne c_4; omega) (by decide) ?_
          refine lv_iconst (v := (-1)) hx hb dX4_count_52 (by decide) ?_
          exact mw_iret hx hb hr hlocks dX4_count_53 ((if_neg c_1).trans ((if_neg c_2).trans ((if_neg c_3).trans ((if_neg c_4).trans (rfl))))).symm
set_option maxRecDepth 100000 in
set_option maxHeartbeats 4000000 in
theorem ct_widest_1 (l : Launch) (D : mG) (x xa : Nat) (n rd ae se : Int32) (IA : Nat → Option Nat) (so : Int32) (hlt : l.stackTraces = false) (h1 : fX4_isSort so = 0) : cT l D yX4_widest cX4_widest 9 .long 6 (fun H => va_P D.1 vwCl [(x, .inr (3, xF xa n rd ae se)), (xa, .inl (D.2.2.2, 8, .inr (.inr (.inr (.inr IA)))))] H) [.ref x, .int so] "java/lang/IllegalArgumentException" := by
  refine cT_of (by decide) (Nat.le_of_ble_eq_true rfl) ?_
  intro p e s m below meth c ls hx hb hlocks hex G hgf hz hP hl
  have hP : va_P D.1 vwCl [(x, .inr (3, xF xa n rd ae se)), (xa, .inl (D.2.2.2, 8, .inr (.inr (.inr (.inr IA)))))] s.heap := hP
  have hl : lv_has ls 9 [(0, .ref x), (1, .int so)] := hl
  refine lv_iload_n hx hb dX4_widest_0 rfl (lv_at hl 1 rfl) ?_
  refine kS G (cvX4_isSort l D so) okX4_isSort hgf trivial qw1_58 ⟨Nat.le_of_ble_eq_true rfl, Nat.le_of_ble_eq_true rfl⟩ ⟨(Nat.le_of_ble_eq_true rfl), (Nat.le_of_ble_eq_true rfl)⟩ hl.1 (Nat.le_of_ble_eq_true rfl) rfl dX4_widest_1 ?_
  refine lv_if_ne (tgt := 17) hx hb dX4_widest_4 (by decide) (fun h => absurd h1 h) (fun _ => ?_)
  exact mw_throw hlt G hlocks hex hgf hz (by decide +kernel) qw1_61 qw1_6 (text := "no such sort") (by decide +kernel) (by decide +kernel) ex1_IllegalArgumentException ex2_IllegalArgumentException ex3_IllegalArgumentException hl.1 ⟨(Nat.le_of_ble_eq_true rfl), (Nat.le_of_ble_eq_true rfl), (Nat.le_of_ble_eq_true rfl), (Nat.le_of_ble_eq_true rfl)⟩ dX4_widest_7 dX4_widest_10 dX4_widest_11 dX4_widest_13 dX4_widest_16
