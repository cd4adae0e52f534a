/-! THE REFERENCE: floats and doubles -/
theorem mw_self (f : FP.Core.Fmt) (n : Nat) (h : FP.Core.decode f n ≠ .nan) : FP.Core.cmp f n n = some .eq := by
  unfold FP.Core.cmp
  cases hd : FP.Core.decode f n with
  | nan => exact absurd hd h
  | inf s => simp [FP.Core.order]
  | fin s c q => simp [FP.Core.order]
/-- bits that are no NaN -/
def okf (x : UInt32) : Prop := FP.Core.decode FP.Core.b32 x.toNat ≠ .nan
def okd (x : UInt64) : Prop := FP.Core.decode FP.Core.b64 x.toNat ≠ .nan
theorem okf_cmp {x : UInt32} (h : okf x) : Op.cmpValue (FP.fcmp x x) CmpOp.l = 0 := by
  rw [show FP.fcmp x x = some .eq from mw_self _ _ h]; rfl
theorem okd_cmp {x : UInt64} (h : okd x) : Op.cmpValue (FP.dcmp x x) CmpOp.l = 0 := by
  rw [show FP.dcmp x x = some .eq from mw_self _ _ h]; rfl
/-- the entry of a method of a class of which natives are told, but not this one -/
theorem mw_ofWF {l : Launch} {y : MethodName} {ws ws' : List Cond} {rm : Room} {Pc : Array Value → State → Prop} {Qc : Array Value → State → Outcome → State → Prop} {mc ms : Nat} {free : Addr → Prop} {cc : ByteArray} {maxL : Nat} {ret : Option FieldType}
    (hy : plainFor y = true) (hw : ws = Cond.code y cc maxL ret :: ws')
    (body : ∀ p e s m args below meth c s₁, BodyLoose p l y (headSpec ws rm) cc maxL ret e s m args below meth c s₁ → c.maxLocals = maxL → Pc args s →
      W p l e (headSpec ws rm).room s m args below meth c s.heap [] 0 0 (MQ below Qc args s mc ms free) (entryFrame m args maxL)) : Met l y ws rm Pc Qc mc ms free := by
  refine MetFree.of_bodySF (code := cc) (maxLocals := maxL) (ret := ret) hy ?_ ?_
  · intro args s m h hn
    obtain ⟨meth, c, h1, h2, h3, h4, h5, h6, -, -⟩ := Cond.code_spec hn (atoms_spec (ws := ws) h _ (by rw [hw]; exact List.mem_cons_self))
    exact ⟨meth, c, h1, h2, h3, h4, h5, h6⟩
  · intro p e s m args below meth c s₁ B hml hP _
    have hh0 : s₁.heap = s.heap := by rw [B.state]; rfl
    obtain ⟨t, a1, o, b1, b2, b3⟩ := body p e s m args below meth c s₁ B hml hP s₁ hh0 (Stand.of_body B)
    exact ⟨t, o, a1, b1, b2, ⟨b3.1, b3.2⟩⟩
theorem cV_ofF {l : Launch} {D : mG} {y : MethodName} {b : ByteArray} {n : Nat} {ret : FieldType} {k : Nat} {Pic : Heap → Prop} {As : List Value} {v : Value} (hy : plainFor y = true) (hn : (lg_sl As).length ≤ n)
    (body : ∀ (p : Program) (e : Env) (s : State) (m : MethodId) (below : List Frame) (meth : Method) (c : Code) (ls : Array Slot), p.tables.exec = Jvm.exec → c.code = b → meth.sig.returnType = some ret → meth.locks = false → CallFix p m c b n s As.toArray aw y.cls → GF D s → Pic s.heap → lv_has ls n (lv_args 0 As) →
      W p l e (rmP k) s m As.toArray below meth c s.heap [] 0 0 (MQ below (mS v) As.toArray s 0 0 (fun _ => False)) (F0 m 0 ls [])) : cV l D y b n ret k Pic As v := by
  refine mw_ofWF (cc := b) (maxL := n) (ret := some ret) hy rfl ?_
  intro p e s m args below meth c s₁ B hml hv
  obtain ⟨rfl, hg, hpic⟩ := hv
  have hts := atoms_spec (ws := .code y b n (some ret) :: aw) B.pre
  rw [lg_entry_eq]
  exact body p e s m below meth c _ B.exec B.bytes B.returns B.notSynchronized ⟨B.exec, B.bytes, hml, findClass_of_methodNamed B.named, fun w h => hts w (List.mem_cons_of_mem _ h)⟩ hg hpic (lv_entry As hn)
section MWF
variable {p : Program} {l : Launch} {e : Env} {R : Room} {s : State} {m : MethodId} {args : Array Value} {below : List Frame} {meth : Method} {c : Code}
variable {cc : ByteArray} {pc : Nat} {ls : Array Slot}
theorem mw_fret {x w : UInt32} (hx : p.tables.exec = Jvm.exec) (hb : c.code = cc) (hr : meth.sig.returnType = some .float) (hlocks : meth.locks = false) (hdg : decode cc pc = .ok (.freturn, 1)) (hv : x = w) : W p l e R s m args below meth c s.heap [] 0 0 (MQ below (mS (.float w)) args s 0 0 (fun _ => False)) (F0 m pc ls [.float x]) :=
  W.fret hx hb hr (fun t ht _ => ⟨by rw [hv], ht⟩) (fun _ h => by cases h) hdg hlocks
theorem mw_dret {x w : UInt64} (hx : p.tables.exec = Jvm.exec) (hb : c.code = cc) (hr : meth.sig.returnType = some .double) (hlocks : meth.locks = false) (hdg : decode cc pc = .ok (.dreturn, 1)) (hv : x = w) : W p l e R s m args below meth c s.heap [] 0 0 (MQ below (mS (.double w)) args s 0 0 (fun _ => False)) (F0 m pc ls [.double x]) :=
  W.dret hx hb hr (fun t ht _ => ⟨by rw [hv], ht⟩) (fun _ h => by cases h) hdg hlocks
end MWF
def fJxf58ca_isNaN_12338 (x : UInt32) : Int32 := 0
set_option maxRecDepth 100000 in
set_option maxHeartbeats 4000000 in
theorem cvJxf58ca_isNaN_12338 (l : Launch) (D : mG) (x : UInt32) (hn : okf x) : cV l D yJxf58ca_isNaN_12338 cJxf58ca_isNaN_12338 1 .boolean 0 (fun _ => True) [.float x] (.int (fJxf58ca_isNaN_12338  x)) := by
  refine cV_ofF (by decide +kernel) (Nat.le_of_ble_eq_true rfl) ?_
  intro p e s m below meth c ls hx hb hr hlocks G hgf hpic hl
  have hl : lv_has ls 1 [(0, .float x)] := hl
  refine lv_fload_n hx hb dJxf58ca_isNaN_12338_0 rfl (lv_at hl 0 rfl) ?_
  refine lv_fload_n hx hb dJxf58ca_isNaN_12338_1 rfl (lv_at hl 0 rfl) ?_
  refine lv_fcmp hx hb dJxf58ca_isNaN_12338_2 ?_
  rw [okf_cmp hn]
  refine lv_if_eq (tgt := 10) hx hb dJxf58ca_isNaN_12338_3 (by decide) (fun _ => ?_) (fun h => absurd (by decide) h)
  refine lv_iconst (v := 0) hx hb dJxf58ca_isNaN_12338_10 (by decide) ?_
  exact mw_zret hx hb hr hlocks dJxf58ca_isNaN_12338_11 (Or.inl rfl) (rfl).symm
def fJxe99ae_isNaN_b9ae7 (x : UInt64) : Int32 := 0
set_option maxRecDepth 100000 in
set_option maxHeartbeats 4000000 in
theorem cvJxe99ae_isNaN_b9ae7 (l : Launch) (D : mG) (x : UInt64) (hn : okd x) : cV l D yJxe99ae_isNaN_b9ae7 cJxe99ae_isNaN_b9ae7 2 .boolean 0 (fun _ => True) [.double x] (.int (fJxe99ae_isNaN_b9ae7  x)) := by
  refine cV_ofF (by decide +kernel) (Nat.le_of_ble_eq_true rfl) ?_
  intro p e s m below meth c ls hx hb hr hlocks G hgf hpic hl
  have hl : lv_has ls 2 [(0, .double x)] := hl
  refine lv_dload_n hx hb dJxe99ae_isNaN_b9ae7_0 rfl (lv_at hl 0 rfl) ?_
  refine lv_dload_n hx hb dJxe99ae_isNaN_b9ae7_1 rfl (lv_at hl 0 rfl) ?_
  refine lv_dcmp hx hb dJxe99ae_isNaN_b9ae7_2 ?_
  rw [okd_cmp hn]
  refine lv_if_eq (tgt := 10) hx hb dJxe99ae_isNaN_b9ae7_3 (by decide) (fun _ => ?_) (fun h => absurd (by decide) h)
  refine lv_iconst (v := 0) hx hb dJxe99ae_isNaN_b9ae7_10 (by decide) ?_
  exact mw_zret hx hb hr hlocks dJxe99ae_isNaN_b9ae7_11 (Or.inl rfl) (rfl).symm
def fJxf58ca_floatToIntBits_5c35a (x : UInt32) : Int32 := x.toInt32
set_option maxRecDepth 100000 in
set_option maxHeartbeats 4000000 in
theorem cvJxf58ca_floatToIntBits_5c35a (l : Launch) (D : mG) (x : UInt32) (hn : okf x) : cV l D yJxf58ca_floatToIntBits_5c35a cJxf58ca_floatToIntBits_5c35a 1 .int 1 (fun _ => True) [.float x] (.int (fJxf58ca_floatToIntBits_5c35a  x)) := by
  refine cV_ofF (by decide +kernel) (Nat.le_of_ble_eq_true rfl) ?_
  intro p e s m below meth c ls hx hb hr hlocks G hgf hpic hl
  have hl : lv_has ls 1 [(0, .float x)] := hl
  refine lv_fload_n hx hb dJxf58ca_floatToIntBits_5c35a_0 rfl (lv_at hl 0 rfl) ?_
  refine kS G (cvJxf58ca_isNaN_12338 l D x (hn)) okJxf58ca_isNaN_12338 hgf trivial qw4_111 ⟨Nat.le_of_ble_eq_true rfl, Nat.le_of_ble_eq_true rfl⟩ ⟨Nat.zero_le _, Nat.zero_le _⟩ hl.1 (Nat.le_of_ble_eq_true rfl) rfl dJxf58ca_floatToIntBits_5c35a_1 ?_
  refine lv_if_ne (tgt := 12) hx hb dJxf58ca_floatToIntBits_5c35a_4 (by decide) (fun h => absurd rfl h) (fun _ => ?_)
  refine lv_fload_n hx hb dJxf58ca_floatToIntBits_5c35a_7 rfl (lv_at hl 0 rfl) ?_
  refine vn_f2i hx hb (by rw [G.2.2.1]; exact hl.1.symm) G.2.2.2.1 (G.2.2.2.2 _ qw4_114) (G.2.2.2.2 _ qw4_116) (G.2.2.2.2 _ qw4_115) (G.2.2.2.2 _ qw1_16) (Nat.le_of_ble_eq_true rfl) (Nat.le_of_ble_eq_true rfl) dJxf58ca_floatToIntBits_5c35a_8 ?_
  exact mw_iret hx hb hr hlocks dJxf58ca_floatToIntBits_5c35a_11 (rfl).symm
def fJxe99ae_doubleToLongBits_ccdee (x : UInt64) : Int64 := x.toInt64
set_option maxRecDepth 100000 in
set_option maxHeartbeats 4000000 in
theorem cvJxe99ae_doubleToLongBits_ccdee (l : Launch) (D : mG) (x : UInt64) (hn : okd x) : cV l D yJxe99ae_doubleToLongBits_ccdee cJxe99ae_doubleToLongBits_ccdee 2 .long 1 (fun _ => True) [.double x] (.long (fJxe99ae_doubleToLongBits_ccdee  x)) := by
  refine cV_ofF (by decide +kernel) (Nat.le_of_ble_eq_true rfl) ?_
  intro p e s m below meth c ls hx hb hr hlocks G hgf hpic hl
  have hl : lv_has ls 2 [(0, .double x)] := hl
  refine lv_dload_n hx hb dJxe99ae_doubleToLongBits_ccdee_0 rfl (lv_at hl 0 rfl) ?_
  refine kS G (cvJxe99ae_isNaN_b9ae7 l D x (hn)) okJxe99ae_isNaN_b9ae7 hgf trivial qw4_127 ⟨Nat.le_of_ble_eq_true rfl, Nat.le_of_ble_eq_true rfl⟩ ⟨Nat.zero_le _, Nat.zero_le _⟩ hl.1 (Nat.le_of_ble_eq_true rfl) rfl dJxe99ae_doubleToLongBits_ccdee_1 ?_
  refine lv_if_ne (tgt := 12) hx hb dJxe99ae_doubleToLongBits_ccdee_4 (by decide) (fun h => absurd rfl h) (fun _ => ?_)
  refine lv_dload_n hx hb dJxe99ae_doubleToLongBits_ccdee_7 rfl (lv_at hl 0 rfl) ?_
  refine vn_d2l hx hb (by rw [G.2.2.1]; exact hl.1.symm) G.2.2.2.1 (G.2.2.2.2 _ qw4_130) (G.2.2.2.2 _ qw4_132) (G.2.2.2.2 _ qw4_131) (G.2.2.2.2 _ qw1_17) (Nat.le_of_ble_eq_true rfl) (Nat.le_of_ble_eq_true rfl) dJxe99ae_doubleToLongBits_ccdee_8 ?_
  exact mw_lret hx hb hr hlocks dJxe99ae_doubleToLongBits_ccdee_11 (rfl).symm
def fX5_single (v : Int64) : UInt32 := v.toInt32.toUInt32
set_option maxRecDepth 100000 in
set_option maxHeartbeats 4000000 in
theorem cvX5_single (l : Launch) (D : mG) (v : Int64) (hn : vn_sni2f v.toInt32 = false) : cV l D yX5_single cX5_single 2 .float 1 (fun _ => True) [.long v] (.float (fX5_single  v)) := by
  refine cV_of (by decide) (Nat.le_of_ble_eq_true rfl) ?_
  intro p e s m below meth c ls hx hb hr hlocks G hgf hpic hl
  have hl : lv_has ls 2 [(0, .long v)] := hl
  refine lv_lload_n hx hb dX5_single_0 rfl (lv_at hl 0 rfl) ?_
  refine lv_l2i hx hb dX5_single_1 rfl ?_
  refine vn_i2f hx hb (by rw [G.2.2.1]; exact hl.1.symm) G.2.2.2.1 (G.2.2.2.2 _ qw4_105) (G.2.2.2.2 _ qw4_107) (G.2.2.2.2 _ qw4_106) (G.2.2.2.2 _ qw1_16) (hn) (Nat.le_of_ble_eq_true rfl) (Nat.le_of_ble_eq_true rfl) dX5_single_2 ?_
  exact mw_fret hx hb hr hlocks dX5_single_5 (rfl).symm
def fX5_real (v : Int64) : UInt64 := v.toUInt64
set_option maxRecDepth 100000 in
set_option maxHeartbeats 4000000 in
theorem cvX5_real (l : Launch) (D : mG) (v : Int64) (hn : vn_snl2d v = false) : cV l D yX5_real cX5_real 2 .double 1 (fun _ => True) [.long v] (.double (fX5_real  v)) := by
  refine cV_of (by decide) (Nat.le_of_ble_eq_true rfl) ?_
  intro p e s m below meth c ls hx hb hr hlocks G hgf hpic hl
  have hl : lv_has ls 2 [(0, .long v)] := hl
  refine lv_lload_n hx hb dX5_real_0 rfl (lv_at hl 0 rfl) ?_
  refine vn_l2d hx hb (by rw [G.2.2.1]; exact hl.1.symm) G.2.2.2.1 (G.2.2.2.2 _ qw4_121) (G.2.2.2.2 _ qw4_123) (G.2.2.2.2 _ qw4_122) (G.2.2.2.2 _ qw1_17) (hn) (Nat.le_of_ble_eq_true rfl) (Nat.le_of_ble_eq_true rfl) dX5_real_1 ?_
  exact mw_dret hx hb hr hlocks dX5_real_4 (rfl).symm
def fX5_sum (sort : Int32) (a : Int64) (b : Int64) : Int64 := if sort = 2 then (fJxf58ca_floatToIntBits_5c35a (FP.fadd (fX5_single a) (fX5_single b))).toInt64 else (if sort = 3 then fJxe99ae_doubleToLongBits_ccdee (FP.dadd (fX5_real a) (fX5_real b)) else fX5_cut sort (a + b))
set_option maxRecDepth 100000 in
set_option maxHeartbeats 4000000 in
theorem cvX5_sum (l : Launch) (D : mG) (sort : Int32) (a : Int64) (b : Int64) (h2 : sort = 2 → vn_sni2f a.toInt32 = false ∧ vn_sni2f b.toInt32 = false ∧ vf_n32 (FP.fadd (fX5_single a) (fX5_single b)) ∧ okf (FP.fadd (fX5_single a) (fX5_single b))) (h3 : sort = 3 → vn_snl2d a = false ∧ vn_snl2d b = false ∧ vf_n64 (FP.dadd (fX5_real a) (fX5_real b)) ∧ okd (FP.dadd (fX5_real a) (fX5_real b))) : cV l D yX5_sum cX5_sum 5 .long 2 (fun _ => True) [.int sort, .long a, .long b] (.long (fX5_sum  sort a b)) := by
  refine cV_of (by decide) (Nat.le_of_ble_eq_true rfl) ?_
  intro p e s m below meth c ls hx hb hr hlocks G hgf hpic hl
  have hl : lv_has ls 5 [(0, .int sort), (1, .long a), (3, .long b)] := hl
  refine lv_iload_n hx hb dX5_sum_0 rfl (lv_at hl 0 rfl) ?_
  refine lv_iconst (v := 2) hx hb dX5_sum_1 (by decide) ?_
  refine lv_icmp_ne (tgt := 19) hx hb dX5_sum_2 (by decide) (fun c_1 => ?_) (fun c_1 => ?_)
  · refine lv_iload_n hx hb dX5_sum_19 rfl (lv_at hl 0 rfl) ?_
    refine lv_iconst (v := 3) hx hb dX5_sum_20 (by decide) ?_
    refine lv_icmp_ne (tgt := 37) hx hb dX5_sum_21 (by decide) (fun c_2 => ?_) (fun c_2 => ?_)
    · refine lv_iload_n hx hb dX5_sum_37 rfl (lv_at hl 0 rfl) ?_
      refine lv_lload_n hx hb dX5_sum_38 rfl (lv_at hl 1 rfl) ?_
      refine lv_lload_n hx hb dX5_sum_39 rfl (lv_at hl 2 rfl) ?_
      refine lv_ladd hx hb dX5_sum_40 ?_
      refine kS G (cvX5_cut l D sort (a + b)) okX5_cut hgf trivial qw4_6 ⟨Nat.le_of_ble_eq_true rfl, Nat.le_of_ble_eq_true rfl⟩ ⟨Nat.zero_le _, Nat.zero_le _⟩ hl.1 (Nat.le_of_ble_eq_true rfl) rfl dX5_sum_41 ?_
      exact mw_lret hx hb hr hlocks dX5_sum_44 ((if_neg c_1).trans ((if_neg c_2).trans (rfl))).symm
    · refine lv_lload_n hx hb dX5_sum_24 rfl (lv_at hl 1 rfl) ?_
      refine kS G (cvX5_real l D a ((h3 c_2).1)) okX5_real hgf trivial qw4_118 ⟨Nat.le_of_ble_eq_true rfl, Nat.le_of_ble_eq_true rfl⟩ ⟨Nat.zero_le _, Nat.zero_le _⟩ hl.1 (Nat.le_of_ble_eq_true rfl) rfl dX5_sum_25 ?_
      refine lv_lload_n hx hb dX5_sum_28 rfl (lv_at hl 2 rfl) ?_
      refine kS G (cvX5_real l D b ((h3 c_2).2.1)) okX5_real hgf trivial qw4_118 ⟨Nat.le_of_ble_eq_true rfl, Nat.le_of_ble_eq_true rfl⟩ ⟨Nat.zero_le _, Nat.zero_le _⟩ hl.1 (Nat.le_of_ble_eq_true rfl) rfl dX5_sum_29 ?_
      refine lv_dadd hx hb dX5_sum_32 ((h3 c_2).2.2.1) ?_
      refine kS G (cvJxe99ae_doubleToLongBits_ccdee l D (FP.dadd (fX5_real a) (fX5_real b)) ((h3 c_2).2.2.2)) okJxe99ae_doubleToLongBits_ccdee hgf trivial qw4_124 ⟨Nat.le_of_ble_eq_true rfl, Nat.le_of_ble_eq_true rfl⟩ ⟨Nat.zero_le _, Nat.zero_le _⟩ hl.1 (Nat.le_of_ble_eq_true rfl) rfl dX5_sum_33 ?_
      exact mw_lret hx hb hr hlocks dX5_sum_36 ((if_neg c_1).trans ((if_pos c_2).trans (rfl))).symm
  · refine lv_lload_n hx hb dX5_sum_5 rfl (lv_at hl 1 rfl) ?_
    refine kS G (cvX5_single l D a ((h2 c_1).1)) okX5_single hgf trivial qw4_102 ⟨Nat.le_of_ble_eq_true rfl, Nat.le_of_ble_eq_true rfl⟩ ⟨Nat.zero_le _, Nat.zero_le _⟩ hl.1 (Nat.le_of_ble_eq_true rfl) rfl dX5_sum_6 ?_
    refine lv_lload_n hx hb dX5_sum_9 rfl (lv_at hl 2 rfl) ?_
    refine kS G (cvX5_single l D b ((h2 c_1).2.1)) okX5_single hgf trivial qw4_102 ⟨Nat.le_of_ble_eq_true rfl, Nat.le_of_ble_eq_true rfl⟩ ⟨Nat.zero_le _, Nat.zero_le _⟩ hl.1 (Nat.le_of_ble_eq_true rfl) rfl dX5_sum_10 ?_
    refine lv_fadd hx hb dX5_sum_13 ((h2 c_1).2.2.1) ?_
    refine kS G (cvJxf58ca_floatToIntBits_5c35a l D (FP.fadd (fX5_single a) (fX5_single b)) ((h2 c_1).2.2.2)) okJxf58ca_floatToIntBits_5c35a hgf trivial qw4_108 ⟨Nat.le_of_ble_eq_true rfl, Nat.le_of_ble_eq_true rfl⟩ ⟨Nat.zero_le _, Nat.zero_le _⟩ hl.1 (Nat.le_of_ble_eq_true rfl) rfl dX5_sum_14 ?_
    refine lv_i2l hx hb dX5_sum_17 rfl ?_
    exact mw_lret hx hb hr hlocks dX5_sum_18 ((if_pos c_1).trans (rfl)).symm
def fX5_swing (sort : Int32) (a : Int64) (b : Int64) : Int64 := if (fX5_height sort a) = (fX5_height sort b) then 0 else (if sort = 2 then fX5_amount sort ((fJxf58ca_floatToIntBits_5c35a (FP.fsub (fX5_single a) (fX5_single b))).toInt64) else (if sort = 3 then fX5_amount sort (fJxe99ae_doubleToLongBits_ccdee (FP.dsub (fX5_real a) (fX5_real b))) else fX5_amount sort (fX5_cut sort (a - b))))
set_option maxRecDepth 100000 in
set_option maxHeartbeats 4000000 in
theorem cvX5_swing (l : Launch) (D : mG) (sort : Int32) (a : Int64) (b : Int64) (h2 : ¬ (fX5_height sort a) = (fX5_height sort b) → sort = 2 → vn_sni2f a.toInt32 = false ∧ vn_sni2f b.toInt32 = false ∧ vf_n32 (FP.fsub (fX5_single a) (fX5_single b)) ∧ okf (FP.fsub (fX5_single a) (fX5_single b))) (h3 : ¬ (fX5_height sort a) = (fX5_height sort b) → sort = 3 → vn_snl2d a = false ∧ vn_snl2d b = false ∧ vf_n64 (FP.dsub (fX5_real a) (fX5_real b)) ∧ okd (FP.dsub (fX5_real a) (fX5_real b))) : cV l D yX5_swing cX5_swing 5 .long 4 (fun _ => True) [.int sort, .long a, .long b] (.long (fX5_swing  sort a b)) := by
  refine cV_of (by decide) (Nat.le_of_ble_eq_true rfl) ?_
  intro p e s m below meth c ls hx hb hr hlocks G hgf hpic hl
  have hl : lv_has ls 5 [(0, .int sort), (1, .long a), (3, .long b)] := hl
  refine lv_iload_n hx hb dX5_swing_0 rfl (lv_at hl 0 rfl) ?_
  refine lv_lload_n hx hb dX5_swing_1 rfl (lv_at hl 1 rfl) ?_
  refine kS G (cvX5_height l D sort a) okX5_height hgf trivial qw4_54 ⟨Nat.le_of_ble_eq_true rfl, Nat.le_of_ble_eq_true rfl⟩ ⟨Nat.zero_le _, Nat.zero_le _⟩ hl.1 (Nat.le_of_ble_eq_true rfl) rfl dX5_swing_2 ?_
  refine lv_iload_n hx hb dX5_swing_5 rfl (lv_at hl 0 rfl) ?_
  refine lv_lload_n hx hb dX5_swing_6 rfl (lv_at hl 2 rfl) ?_
  refine kS G (cvX5_height l D sort b) okX5_height hgf trivial qw4_54 ⟨Nat.le_of_ble_eq_true rfl, Nat.le_of_ble_eq_true rfl⟩ ⟨Nat.zero_le _, Nat.zero_le _⟩ hl.1 (Nat.le_of_ble_eq_true rfl) rfl dX5_swing_7 ?_
  refine mw_lne (tgt := 16) hx hb dX5_swing_10 dX5_swing_11 (by decide) (fun c_1 => ?_) (fun c_1 => ?_)
  · refine lv_iload_n hx hb dX5_swing_16 rfl (lv_at hl 0 rfl) ?_
    refine lv_iconst (v := 2) hx hb dX5_swing_17 (by decide) ?_
    refine lv_icmp_ne (tgt := 39) hx hb dX5_swing_18 (by decide) (fun c_2 => ?_) (fun c_2 => ?_)
    · refine lv_iload_n hx hb dX5_swing_39 rfl (lv_at hl 0 rfl) ?_
      refine lv_iconst (v := 3) hx hb dX5_swing_40 (by decide) ?_
      refine lv_icmp_ne (tgt := 61) hx hb dX5_swing_41 (by decide) (fun c_3 => ?_) (fun c_3 => ?_)
      · refine lv_iload_n hx hb dX5_swing_61 rfl (lv_at hl 0 rfl) ?_
        refine lv_iload_n hx hb dX5_swing_62 rfl (lv_at hl 0 rfl) ?_
        refine lv_lload_n hx hb dX5_swing_63 rfl (lv_at hl 1 rfl) ?_
        refine lv_lload_n hx hb dX5_swing_64 rfl (lv_at hl 2 rfl) ?_
        refine lv_lsub hx hb dX5_swing_65 ?_
        refine kS G (cvX5_cut l D sort (a - b)) okX5_cut hgf trivial qw4_6 ⟨Nat.le_of_ble_eq_true rfl, Nat.le_of_ble_eq_true rfl⟩ ⟨Nat.zero_le _, Nat.zero_le _⟩ hl.1 (Nat.le_of_ble_eq_true rfl) rfl dX5_swing_66 ?_
        refine kS G (cvX5_amount l D sort (fX5_cut sort (a - b))) okX5_amount hgf trivial qw4_78 ⟨Nat.le_of_ble_eq_true rfl, Nat.le_of_ble_eq_true rfl⟩ ⟨Nat.zero_le _, Nat.zero_le _⟩ hl.1 (Nat.le_of_ble_eq_true rfl) rfl dX5_swing_69 ?_
        exact mw_lret hx hb hr hlocks dX5_swing_72 ((if_neg c_1).trans ((if_neg c_2).trans ((if_neg c_3).trans (rfl)))).symm
      · refine lv_iload_n hx hb dX5_swing_44 rfl (lv_at hl 0 rfl) ?_
        refine lv_lload_n hx hb dX5_swing_45 rfl (lv_at hl 1 rfl) ?_
        refine kS G (cvX5_real l D a ((h3 c_1 c_3).1)) okX5_real hgf trivial qw4_118 ⟨Nat.le_of_ble_eq_true rfl, Nat.le_of_ble_eq_true rfl⟩ ⟨Nat.zero_le _, Nat.zero_le _⟩ hl.1 (Nat.le_of_ble_eq_true rfl) rfl dX5_swing_46 ?_
        refine lv_lload_n hx hb dX5_swing_49 rfl (lv_at hl 2 rfl) ?_
        refine kS G (cvX5_real l D b ((h3 c_1 c_3).2.1)) okX5_real hgf trivial qw4_118 ⟨Nat.le_of_ble_eq_true rfl, Nat.le_of_ble_eq_true rfl⟩ ⟨Nat.zero_le _, Nat.zero_le _⟩ hl.1 (Nat.le_of_ble_eq_true rfl) rfl dX5_swing_50 ?_
        refine lv_dsub hx hb dX5_swing_53 ((h3 c_1 c_3).2.2.1) ?_
        refine kS G (cvJxe99ae_doubleToLongBits_ccdee l D (FP.dsub (fX5_real a) (fX5_real b)) ((h3 c_1 c_3).2.2.2)) okJxe99ae_doubleToLongBits_ccdee hgf trivial qw4_124 ⟨Nat.le_of_ble_eq_true rfl, Nat.le_of_ble_eq_true rfl⟩ ⟨Nat.zero_le _, Nat.zero_le _⟩ hl.1 (Nat.le_of_ble_eq_true rfl) rfl dX5_swing_54 ?_
        refine kS G (cvX5_amount l D sort (fJxe99ae_doubleToLongBits_ccdee (FP.dsub (fX5_real a) (fX5_real b)))) okX5_amount hgf trivial qw4_78 ⟨Nat.le_of_ble_eq_true rfl, Nat.le_of_ble_eq_true rfl⟩ ⟨Nat.zero_le _, Nat.zero_le _⟩ hl.1 (Nat.le_of_ble_eq_true rfl) rfl dX5_swing_57 ?_
        exact mw_lret hx hb hr hlocks dX5_swing_60 ((if_neg c_1).trans ((if_neg c_2).trans ((if_pos c_3).trans (rfl)))).symm
    · refine lv_iload_n hx hb dX5_swing_21 rfl (lv_at hl 0 rfl) ?_
      refine lv_lload_n hx hb dX5_swing_22 rfl (lv_at hl 1 rfl) ?_
      refine kS G (cvX5_single l D a ((h2 c_1 c_2).1)) okX5_single hgf trivial qw4_102 ⟨Nat.le_of_ble_eq_true rfl, Nat.le_of_ble_eq_true rfl⟩ ⟨Nat.zero_le _, Nat.zero_le _⟩ hl.1 (Nat.le_of_ble_eq_true rfl) rfl dX5_swing_23 ?_
      refine lv_lload_n hx hb dX5_swing_26 rfl (lv_at hl 2 rfl) ?_
      refine kS G (cvX5_single l D b ((h2 c_1 c_2).2.1)) okX5_single hgf trivial qw4_102 ⟨Nat.le_of_ble_eq_true rfl, Nat.le_of_ble_eq_true rfl⟩ ⟨Nat.zero_le _, Nat.zero_le _⟩ hl.1 (Nat.le_of_ble_eq_true rfl) rfl dX5_swing_27 ?_
      refine lv_fsub hx hb dX5_swing_30 ((h2 c_1 c_2).2.2.1) ?_
      refine kS G (cvJxf58ca_floatToIntBits_5c35a l D (FP.fsub (fX5_single a) (fX5_single b)) ((h2 c_1 c_2).2.2.2)) okJxf58ca_floatToIntBits_5c35a hgf trivial qw4_108 ⟨Nat.le_of_ble_eq_true rfl, Nat.le_of_ble_eq_true rfl⟩ ⟨Nat.zero_le _, Nat.zero_le _⟩ hl.1 (Nat.le_of_ble_eq_true rfl) rfl dX5_swing_31 ?_
      refine lv_i2l hx hb dX5_swing_34 rfl ?_
      refine kS G (cvX5_amount l D sort ((fJxf58ca_floatToIntBits_5c35a (FP.fsub (fX5_single a) (fX5_single b))).toInt64)) okX5_amount hgf trivial qw4_78 ⟨Nat.le_of_ble_eq_true rfl, Nat.le_of_ble_eq_true rfl⟩ ⟨Nat.zero_le _, Nat.zero_le _⟩ hl.1 (Nat.le_of_ble_eq_true rfl) rfl dX5_swing_35 ?_
      exact mw_lret hx hb hr hlocks dX5_swing_38 ((if_neg c_1).trans ((if_pos c_2).trans (rfl))).symm
  · refine lv_lconst (v := 0) hx hb dX5_swing_14 (by decide) ?_
    exact mw_lret hx hb hr hlocks dX5_swing_15 ((if_pos c_1).trans (rfl)).symm
