/-! THE LAW's CASES -/
theorem okH_mount : Cond.static yL_mount ∈ aw ∧ Cond.initialized yL_mount.cls ∈ aw ∧ Cond.codeWith yL_mount cL_mount 4 (some .int) [(0, 9, 12, 13), (0, 9, 15, 15)] ∈ aw ∧ (yL_mount.cls ≠ "java/lang/invoke/MethodHandle" ∧ yL_mount.cls ≠ "java/lang/invoke/VarHandle" ∧ (parseMethodDescriptor yL_mount.desc).map (fun d => d.parameters.length) = some 3) := ⟨qw1_50, qw1_0, qw1_51, by decide +kernel⟩
theorem okH_step : Cond.static yL_step ∈ aw ∧ Cond.initialized yL_step.cls ∈ aw ∧ Cond.codeWith yL_step cL_step 7 (some .int) [(0, 12, 15, 21), (0, 12, 19, 13), (0, 12, 23, 23)] ∈ aw ∧ (yL_step.cls ≠ "java/lang/invoke/MethodHandle" ∧ yL_step.cls ≠ "java/lang/invoke/VarHandle" ∧ (parseMethodDescriptor yL_step.desc).map (fun d => d.parameters.length) = some 5) := ⟨qw2_35, qw1_0, qw2_36, by decide +kernel⟩
theorem okH_follow : Cond.static yL_follow ∈ aw ∧ Cond.initialized yL_follow.cls ∈ aw ∧ Cond.codeWith yL_follow cL_follow 6 (some .int) [(0, 12, 15, 21), (0, 12, 19, 13), (0, 12, 23, 23)] ∈ aw ∧ (yL_follow.cls ≠ "java/lang/invoke/MethodHandle" ∧ yL_follow.cls ≠ "java/lang/invoke/VarHandle" ∧ (parseMethodDescriptor yL_follow.desc).map (fun d => d.parameters.length) = some 5) := ⟨qw2_119, qw1_0, qw2_120, by decide +kernel⟩
theorem okH_read : Cond.static yL_read ∈ aw ∧ Cond.initialized yL_read.cls ∈ aw ∧ Cond.codeWith yL_read cL_read 6 (some .int) [(0, 10, 13, 21), (0, 10, 17, 13)] ∈ aw ∧ (yL_read.cls ≠ "java/lang/invoke/MethodHandle" ∧ yL_read.cls ≠ "java/lang/invoke/VarHandle" ∧ (parseMethodDescriptor yL_read.desc).map (fun d => d.parameters.length) = some 4) := ⟨qw2_128, qw1_0, qw2_129, by decide +kernel⟩
theorem okH_reading : Cond.static yL_reading ∈ aw ∧ Cond.initialized yL_reading.cls ∈ aw ∧ Cond.codeWith yL_reading cL_reading 5 (some .int) [(0, 9, 12, 21), (0, 9, 16, 37)] ∈ aw ∧ (yL_reading.cls ≠ "java/lang/invoke/MethodHandle" ∧ yL_reading.cls ≠ "java/lang/invoke/VarHandle" ∧ (parseMethodDescriptor yL_reading.desc).map (fun d => d.parameters.length) = some 4) := ⟨qw3_60, qw1_0, qw3_61, by decide +kernel⟩
theorem okH_tell : Cond.static yL_tell ∈ aw ∧ Cond.initialized yL_tell.cls ∈ aw ∧ Cond.codeWith yL_tell cL_tell 5 (some .int) [(0, 9, 12, 21), (0, 9, 16, 13), (0, 9, 20, 37)] ∈ aw ∧ (yL_tell.cls ≠ "java/lang/invoke/MethodHandle" ∧ yL_tell.cls ≠ "java/lang/invoke/VarHandle" ∧ (parseMethodDescriptor yL_tell.desc).map (fun d => d.parameters.length) = some 4) := ⟨qw3_89, qw1_0, qw3_90, by decide +kernel⟩
theorem okH_whole : Cond.static yL_whole ∈ aw ∧ Cond.initialized yL_whole.cls ∈ aw ∧ Cond.codeWith yL_whole cL_whole 4 (some .int) [(0, 9, 12, 21), (0, 9, 15, 37)] ∈ aw ∧ (yL_whole.cls ≠ "java/lang/invoke/MethodHandle" ∧ yL_whole.cls ≠ "java/lang/invoke/VarHandle" ∧ (parseMethodDescriptor yL_whole.desc).map (fun d => d.parameters.length) = some 3) := ⟨qw3_99, qw1_0, qw3_100, by decide +kernel⟩
theorem okH_limits : Cond.static yL_limits ∈ aw ∧ Cond.initialized yL_limits.cls ∈ aw ∧ Cond.codeWith yL_limits cL_limits 8 (some .int) [(0, 20, 23, 21), (0, 20, 27, 13)] ∈ aw ∧ (yL_limits.cls ≠ "java/lang/invoke/MethodHandle" ∧ yL_limits.cls ≠ "java/lang/invoke/VarHandle" ∧ (parseMethodDescriptor yL_limits.desc).map (fun d => d.parameters.length) = some 5) := ⟨qw3_121, qw1_0, qw3_122, by decide +kernel⟩
theorem okH_widest : Cond.static yL_widest ∈ aw ∧ Cond.initialized yL_widest.cls ∈ aw ∧ Cond.codeWith yL_widest cL_widest 4 (some .int) [(0, 8, 11, 13), (0, 8, 14, 37)] ∈ aw ∧ (yL_widest.cls ≠ "java/lang/invoke/MethodHandle" ∧ yL_widest.cls ≠ "java/lang/invoke/VarHandle" ∧ (parseMethodDescriptor yL_widest.desc).map (fun d => d.parameters.length) = some 3) := ⟨qw3_130, qw1_0, qw3_131, by decide +kernel⟩
theorem okH_forget : Cond.static yL_forget ∈ aw ∧ Cond.initialized yL_forget.cls ∈ aw ∧ Cond.codeWith yL_forget cL_forget 4 (some .int) [(0, 9, 12, 21)] ∈ aw ∧ (yL_forget.cls ≠ "java/lang/invoke/MethodHandle" ∧ yL_forget.cls ≠ "java/lang/invoke/VarHandle" ∧ (parseMethodDescriptor yL_forget.desc).map (fun d => d.parameters.length) = some 3) := ⟨qw3_139, qw1_0, qw3_140, by decide +kernel⟩
theorem okH_alarms : Cond.static yL_alarms ∈ aw ∧ Cond.initialized yL_alarms.cls ∈ aw ∧ Cond.codeWith yL_alarms cL_alarms 4 (some .int) [(0, 9, 12, 21)] ∈ aw ∧ (yL_alarms.cls ≠ "java/lang/invoke/MethodHandle" ∧ yL_alarms.cls ≠ "java/lang/invoke/VarHandle" ∧ (parseMethodDescriptor yL_alarms.desc).map (fun d => d.parameters.length) = some 3) := ⟨qw3_150, qw1_0, qw3_151, by decide +kernel⟩
section LAWS
variable {p : Program} {l : Launch} {e : Env} {s : State} {m : MethodId} {below : List Frame} {meth : Method} {c : Code} {b L : Nat} {xs : Nat → Int32} {D : mG} {x xa oa r : Nat} {ov : Nat → Int64} {I : Nat → Nat → Nat} {N : Nat} {M : MSt} {ma : Nat → Nat} {t : Int32} {T : Nat} {H : Heap} {locs : List Loc} {cells slots : Nat} {Q : State → Prop} {ls : Array Slot}
set_option maxRecDepth 100000 in
set_option maxHeartbeats 4000000 in
theorem lw_c_mount (C : LC p s m c b L xs D) (hlt : l.stackTraces = false) (hI : Inv M N T) (hT : T < 512) (hTL : 6 * T + 6 ≤ L) (hL2 : L ≤ 3072) (hc1 : cells + 6 ≤ 601024) (hc2 : slots + 60 ≤ 7293034) (hP : va_P D.1 vwCl (wM D r ma t M ++ WS D x xa oa ov I N M) H) (hD : va_D (LA s) (wM D r ma t M ++ WS D x xa oa ov I N M)) (hS : va_S (LA s) s.heap H locs) (hl : lv_has ls 8 [(4, .int (nI (6 * T))), (0, .ref b), (1, .ref x), (2, .ref r), (3, .ref oa)]) (kk : ∀ (ov : Nat → Int64) (I : Nat → Nat → Nat) (N : Nat) (M : MSt) (t : Int32) (H : Heap) (locs : List Loc) (ls : Array Slot), True → Inv M N (T + 1) → va_P D.1 vwCl (wM D r ma t M ++ WS D x xa oa ov I N M) H → va_D (LA s) (wM D r ma t M ++ WS D x xa oa ov I N M) → va_S (LA s) s.heap H locs → lv_has ls 8 [(4, .int (nI (6 * T))), (0, .ref b), (1, .ref x), (2, .ref r), (3, .ref oa)] → W p l e room_1 s m #[Value.ref b] below meth c H locs (cells + 6) (slots + 60) Q (F0 m 984 ls [])) : W p l e room_1 s m #[Value.ref b] below meth c H locs cells slots Q (F0 m 104 ls []) := by
  obtain ⟨hx, hb, G, hgf, hz, hX, hbl⟩ := C
  have hA : ∀ q : Nat, s.heap.size ≤ q → LA s q := fun _ h => h
  have hbA : ¬ LA s b := Nat.not_le.mpr hbl
  refine lv_aload_n hx hb dL_law_104 rfl (lv_at hl 2 rfl) ?_
  refine lv_aload_n hx hb dL_law_105 rfl (lv_at hl 1 rfl) ?_
  refine lv_iload hx hb dL_law_106 (lv_at hl 0 rfl) ?_
  refine lv_iconst (v := 1) hx hb dL_law_108 (by decide) ?_
  refine lv_iadd hx hb dL_law_109 ?_
  refine va_sld hx hb hX hbl hbA hS (in_k (k := 1) hTL (by decide) hL2) dL_law_110 ?_
  refine lv_aload_n hx hb dL_law_111 rfl (lv_at hl 4 rfl) ?_
  obtain ⟨t1, bv, M1, ⟨S, I1, N1, ov1, hH, hval, hI1⟩, k5, hk5, hq⟩ := pr_mount l D x xa oa ov I N M T hlt hI hT (xs (nI (6 * T) + 1).toNatClampNeg)
  refine kH (rest := []) (wr := wM D r ma t M) G hH okH_mount hgf hz hP hD hS hA (ixB (wM D r ma t M) (WS D x xa oa ov I N M)) (List.range 15) (ix_nd _ _) (ix_r _ _) (ix_l _ _) (va_nd_range _) (ix_dis2 (wM D r ma t M) (WS D x xa oa ov I N M)) qw1_49 ⟨Nat.le_of_ble_eq_true rfl, Nat.le_of_ble_eq_true rfl⟩ ⟨hc1, hc2⟩ hl.1 (Nat.le_of_ble_eq_true rfl) rfl dL_law_112 (fun u H locs hP hD hS => ?_)
  refine lv_istore (lv' := [(5, .int t1), (4, .int (nI (6 * T))), (0, .ref b), (1, .ref x), (2, .ref r), (3, .ref oa)]) hx hb dL_law_115 hl (by decide) rfl (fun ls hl => ?_)
  refine lv_aload_n hx hb dL_law_117 rfl (lv_at hl 4 rfl) ?_
  refine lv_aload_n hx hb dL_law_118 rfl (lv_at hl 2 rfl) ?_
  refine lv_iload hx hb dL_law_119 (lv_at hl 1 rfl) ?_
  refine lv_iconst (v := 1) hx hb dL_law_121 (by decide) ?_
  refine lv_iadd hx hb dL_law_122 ?_
  refine va_sld hx hb hX hbl hbA hS (in_k (k := 1) hTL (by decide) hL2) dL_law_123 ?_
  refine kQ (C := RX5) (rest := []) (wr := WS D x xa oa ov1 (I1 u) N1 M1) G (hq r ma t) okX5_mount hgf hP hD hS hA (List.range 15) (ixB (wM D r ma t M) (WS D x xa oa ov1 (I1 u) N1 M1)) (va_nd_range _) (ix_l _ _) (ix_r _ _) (ix_nd _ _) (ix_dis (wM D r ma t M) (WS D x xa oa ov1 (I1 u) N1 M1)) (mw_recv hgf (hP 0 _ rfl) rfl) qw3_224 ⟨by show k5 + 1 ≤ 11; omega, by show 8 + (3 + 11) + 42 * k5 ≤ 422; omega⟩ ⟨by show cells + 6 + 0 ≤ 601024; omega, by show slots + 60 + 0 ≤ 7293034; omega⟩ hl.1 (Nat.le_of_ble_eq_true rfl) rfl dL_law_124 (fun H locs hP hD hS => ?_)
  have hP := hP.flip
  have hD := hD.flip
  refine lv_istore (lv' := [(6, .int bv), (5, .int t1), (4, .int (nI (6 * T))), (0, .ref b), (1, .ref x), (2, .ref r), (3, .ref oa)]) hx hb dL_law_127 hl (by decide) rfl (fun ls hl => ?_)
  refine lv_aload_n hx hb dL_law_129 rfl (lv_at hl 5 rfl) ?_
  refine kV (C := RX5) (rest := []) G (cvX5_thrown l D r ma t1 M1) okX5_thrown hgf hP.left (mw_recv hgf (hP 0 _ rfl) rfl) qw3_220 ⟨Nat.le_of_ble_eq_true rfl, Nat.le_of_ble_eq_true rfl⟩ ⟨by show cells + 6 ≤ 601024; omega, by show slots + 60 ≤ 7293034; omega⟩ hl.1 (Nat.le_of_ble_eq_true rfl) rfl dL_law_130 ?_
  refine lv_iload hx hb dL_law_133 (lv_at hl 1 rfl) ?_
  refine lv_icmp_eq (tgt := 140) hx hb dL_law_135 (by decide) (fun _ => ?_) (fun h9 => absurd rfl h9)
  refine lv_iload hx hb dL_law_140 (lv_at hl 1 rfl) ?_
  refine lv_if_ne (tgt := 157) hx hb dL_law_142 (by decide) (fun h0 => ?_) (fun h0 => ?_)
  · skip
    refine lv_goto (tgt := 984) hx hb dL_law_157 (by decide) ?_
    exact kk ov1 (I1 u) N1 M1 t1 _ _ _ trivial hI1 hP hD hS (lv_sub hl [2, 3, 4, 5, 6] rfl)
  · skip
    refine lv_aload_n hx hb dL_law_145 rfl (lv_at hl 6 rfl) ?_
    refine lv_iconst (v := 0) hx hb dL_law_146 (by decide) ?_
    refine mw_lald (f := ov1) G hgf (hP 17 _ rfl) in01 dL_law_147 ?_
    rw [show ov1 (Int32.toNatClampNeg 0) = bv.toInt64 from hval h0]
    refine lv_iload hx hb dL_law_148 (lv_at hl 0 rfl) ?_
    refine lv_i2l hx hb dL_law_150 rfl ?_
    refine mw_leq (tgt := 157) hx hb dL_law_151 dL_law_152 (by decide) (fun _ => ?_) (fun h9 => absurd rfl h9)
    refine lv_goto (tgt := 984) hx hb dL_law_157 (by decide) ?_
    exact kk ov1 (I1 u) N1 M1 t1 _ _ _ trivial hI1 hP hD hS (lv_sub hl [2, 3, 4, 5, 6] rfl)
set_option maxRecDepth 100000 in
set_option maxHeartbeats 4000000 in
theorem lw_c_step (C : LC p s m c b L xs D) (hlt : l.stackTraces = false) (hI : Inv M N T) (hT : T < 512) (hTL : 6 * T + 6 ≤ L) (hL2 : L ≤ 3072) (hc1 : cells + 6 ≤ 601024) (hc2 : slots + 60 ≤ 7293034) (hP : va_P D.1 vwCl (wM D r ma t M ++ WS D x xa oa ov I N M) H) (hD : va_D (LA s) (wM D r ma t M ++ WS D x xa oa ov I N M)) (hS : va_S (LA s) s.heap H locs) (hl : lv_has ls 8 [(4, .int (nI (6 * T))), (0, .ref b), (1, .ref x), (2, .ref r), (3, .ref oa)]) (kk : ∀ (ov : Nat → Int64) (I : Nat → Nat → Nat) (N : Nat) (M : MSt) (t : Int32) (H : Heap) (locs : List Loc) (ls : Array Slot), True → Inv M N (T + 1) → va_P D.1 vwCl (wM D r ma t M ++ WS D x xa oa ov I N M) H → va_D (LA s) (wM D r ma t M ++ WS D x xa oa ov I N M) → va_S (LA s) s.heap H locs → lv_has ls 8 [(4, .int (nI (6 * T))), (0, .ref b), (1, .ref x), (2, .ref r), (3, .ref oa)] → W p l e room_1 s m #[Value.ref b] below meth c H locs (cells + 6) (slots + 60) Q (F0 m 984 ls [])) : W p l e room_1 s m #[Value.ref b] below meth c H locs cells slots Q (F0 m 160 ls []) := by
  obtain ⟨hx, hb, G, hgf, hz, hX, hbl⟩ := C
  have hA : ∀ q : Nat, s.heap.size ≤ q → LA s q := fun _ h => h
  have hbA : ¬ LA s b := Nat.not_le.mpr hbl
  refine lv_aload_n hx hb dL_law_160 rfl (lv_at hl 2 rfl) ?_
  refine lv_aload_n hx hb dL_law_161 rfl (lv_at hl 1 rfl) ?_
  refine lv_iload hx hb dL_law_162 (lv_at hl 0 rfl) ?_
  refine lv_iconst (v := 1) hx hb dL_law_164 (by decide) ?_
  refine lv_iadd hx hb dL_law_165 ?_
  refine va_sld hx hb hX hbl hbA hS (in_k (k := 1) hTL (by decide) hL2) dL_law_166 ?_
  refine lv_aload_n hx hb dL_law_167 rfl (lv_at hl 1 rfl) ?_
  refine lv_iload hx hb dL_law_168 (lv_at hl 0 rfl) ?_
  refine lv_iconst (v := 2) hx hb dL_law_170 (by decide) ?_
  refine lv_iadd hx hb dL_law_171 ?_
  refine va_sld hx hb hX hbl hbA hS (in_k (k := 2) hTL (by decide) hL2) dL_law_172 ?_
  refine lv_aload_n hx hb dL_law_173 rfl (lv_at hl 1 rfl) ?_
  refine lv_iload hx hb dL_law_174 (lv_at hl 0 rfl) ?_
  refine lv_iconst (v := 3) hx hb dL_law_176 (by decide) ?_
  refine lv_iadd hx hb dL_law_177 ?_
  refine va_sld hx hb hX hbl hbA hS (in_k (k := 3) hTL (by decide) hL2) dL_law_178 ?_
  refine lv_i2l hx hb dL_law_179 rfl ?_
  refine lv_bipush (v := 32) hx hb dL_law_180 (by decide) ?_
  refine lv_lshl (v := jshl ((xs (nI (6 * T) + 3).toNatClampNeg).toInt64) 32) hx hb dL_law_182 rfl ?_
  refine lv_aload_n hx hb dL_law_183 rfl (lv_at hl 1 rfl) ?_
  refine lv_iload hx hb dL_law_184 (lv_at hl 0 rfl) ?_
  refine lv_iconst (v := 4) hx hb dL_law_186 (by decide) ?_
  refine lv_iadd hx hb dL_law_187 ?_
  refine va_sld hx hb hX hbl hbA hS (in_k (k := 4) hTL (by decide) hL2) dL_law_188 ?_
  refine lv_i2l hx hb dL_law_189 rfl ?_
  refine lv_ldc2 (v := 4294967295) hx hb G.2.2.2.1 (G.2.2.2.2 _ qw4_165) dL_law_190 ?_
  refine lv_land hx hb dL_law_193 ?_
  refine lv_lor hx hb dL_law_194 ?_
  refine lv_aload_n hx hb dL_law_195 rfl (lv_at hl 4 rfl) ?_
  obtain ⟨t1, bv, M1, ⟨S, I1, N1, ov1, hH, hval, hI1⟩, k5, hk5, hq⟩ := pr_step l D x xa oa ov I N M T hlt hI hT (xs (nI (6 * T) + 1).toNatClampNeg) (xs (nI (6 * T) + 2).toNatClampNeg) ((jshl ((xs (nI (6 * T) + 3).toNatClampNeg).toInt64) 32) ||| (((xs (nI (6 * T) + 4).toNatClampNeg).toInt64) &&& 4294967295))
  refine kH (rest := []) (wr := wM D r ma t M) G hH okH_step hgf hz hP hD hS hA (ixB (wM D r ma t M) (WS D x xa oa ov I N M)) (List.range 15) (ix_nd _ _) (ix_r _ _) (ix_l _ _) (va_nd_range _) (ix_dis2 (wM D r ma t M) (WS D x xa oa ov I N M)) qw2_34 ⟨Nat.le_of_ble_eq_true rfl, Nat.le_of_ble_eq_true rfl⟩ ⟨hc1, hc2⟩ hl.1 (Nat.le_of_ble_eq_true rfl) rfl dL_law_196 (fun u H locs hP hD hS => ?_)
  refine lv_istore (lv' := [(5, .int t1), (4, .int (nI (6 * T))), (0, .ref b), (1, .ref x), (2, .ref r), (3, .ref oa)]) hx hb dL_law_199 hl (by decide) rfl (fun ls hl => ?_)
  refine lv_aload_n hx hb dL_law_201 rfl (lv_at hl 4 rfl) ?_
  refine lv_aload_n hx hb dL_law_202 rfl (lv_at hl 2 rfl) ?_
  refine lv_iload hx hb dL_law_203 (lv_at hl 1 rfl) ?_
  refine lv_iconst (v := 1) hx hb dL_law_205 (by decide) ?_
  refine lv_iadd hx hb dL_law_206 ?_
  refine va_sld hx hb hX hbl hbA hS (in_k (k := 1) hTL (by decide) hL2) dL_law_207 ?_
  refine lv_aload_n hx hb dL_law_208 rfl (lv_at hl 2 rfl) ?_
  refine lv_iload hx hb dL_law_209 (lv_at hl 1 rfl) ?_
  refine lv_iconst (v := 2) hx hb dL_law_211 (by decide) ?_
  refine lv_iadd hx hb dL_law_212 ?_
  refine va_sld hx hb hX hbl hbA hS (in_k (k := 2) hTL (by decide) hL2) dL_law_213 ?_
  refine lv_aload_n hx hb dL_law_214 rfl (lv_at hl 2 rfl) ?_
  refine lv_iload hx hb dL_law_215 (lv_at hl 1 rfl) ?_
  refine lv_iconst (v := 3) hx hb dL_law_217 (by decide) ?_
  refine lv_iadd hx hb dL_law_218 ?_
  refine va_sld hx hb hX hbl hbA hS (in_k (k := 3) hTL (by decide) hL2) dL_law_219 ?_
  refine lv_i2l hx hb dL_law_220 rfl ?_
  refine lv_bipush (v := 32) hx hb dL_law_221 (by decide) ?_
  refine lv_lshl (v := jshl ((xs (nI (6 * T) + 3).toNatClampNeg).toInt64) 32) hx hb dL_law_223 rfl ?_
  refine lv_aload_n hx hb dL_law_224 rfl (lv_at hl 2 rfl) ?_
  refine lv_iload hx hb dL_law_225 (lv_at hl 1 rfl) ?_
  refine lv_iconst (v := 4) hx hb dL_law_227 (by decide) ?_
  refine lv_iadd hx hb dL_law_228 ?_
  refine va_sld hx hb hX hbl hbA hS (in_k (k := 4) hTL (by decide) hL2) dL_law_229 ?_
  refine lv_i2l hx hb dL_law_230 rfl ?_
  refine lv_ldc2 (v := 4294967295) hx hb G.2.2.2.1 (G.2.2.2.2 _ qw4_165) dL_law_231 ?_
  refine lv_land hx hb dL_law_234 ?_
  refine lv_lor hx hb dL_law_235 ?_
  refine kQ (C := RX5) (rest := []) (wr := WS D x xa oa ov1 (I1 u) N1 M1) G (hq r ma t) okX5_step hgf hP hD hS hA (List.range 15) (ixB (wM D r ma t M) (WS D x xa oa ov1 (I1 u) N1 M1)) (va_nd_range _) (ix_l _ _) (ix_r _ _) (ix_nd _ _) (ix_dis (wM D r ma t M) (WS D x xa oa ov1 (I1 u) N1 M1)) (mw_recv hgf (hP 0 _ rfl) rfl) qw4_11 ⟨by show k5 + 1 ≤ 11; omega, by show 8 + (6 + 11) + 42 * k5 ≤ 422; omega⟩ ⟨by show cells + 6 + 0 ≤ 601024; omega, by show slots + 60 + 0 ≤ 7293034; omega⟩ hl.1 (Nat.le_of_ble_eq_true rfl) rfl dL_law_236 (fun H locs hP hD hS => ?_)
  have hP := hP.flip
  have hD := hD.flip
  refine lv_istore (lv' := [(6, .int bv), (5, .int t1), (4, .int (nI (6 * T))), (0, .ref b), (1, .ref x), (2, .ref r), (3, .ref oa)]) hx hb dL_law_239 hl (by decide) rfl (fun ls hl => ?_)
  refine lv_aload_n hx hb dL_law_241 rfl (lv_at hl 5 rfl) ?_
  refine kV (C := RX5) (rest := []) G (cvX5_thrown l D r ma t1 M1) okX5_thrown hgf hP.left (mw_recv hgf (hP 0 _ rfl) rfl) qw3_220 ⟨Nat.le_of_ble_eq_true rfl, Nat.le_of_ble_eq_true rfl⟩ ⟨by show cells + 6 ≤ 601024; omega, by show slots + 60 ≤ 7293034; omega⟩ hl.1 (Nat.le_of_ble_eq_true rfl) rfl dL_law_242 ?_
  refine lv_iload hx hb dL_law_245 (lv_at hl 1 rfl) ?_
  refine lv_icmp_eq (tgt := 252) hx hb dL_law_247 (by decide) (fun _ => ?_) (fun h9 => absurd rfl h9)
  refine lv_iload hx hb dL_law_252 (lv_at hl 1 rfl) ?_
  refine lv_if_ne (tgt := 269) hx hb dL_law_254 (by decide) (fun h0 => ?_) (fun h0 => ?_)
  · skip
    refine lv_goto (tgt := 984) hx hb dL_law_269 (by decide) ?_
    exact kk ov1 (I1 u) N1 M1 t1 _ _ _ trivial hI1 hP hD hS (lv_sub hl [2, 3, 4, 5, 6] rfl)
  · skip
    refine lv_aload_n hx hb dL_law_257 rfl (lv_at hl 6 rfl) ?_
    refine lv_iconst (v := 0) hx hb dL_law_258 (by decide) ?_
    refine mw_lald (f := ov1) G hgf (hP 17 _ rfl) in01 dL_law_259 ?_
    rw [show ov1 (Int32.toNatClampNeg 0) = bv.toInt64 from hval h0]
    refine lv_iload hx hb dL_law_260 (lv_at hl 0 rfl) ?_
    refine lv_i2l hx hb dL_law_262 rfl ?_
    refine mw_leq (tgt := 269) hx hb dL_law_263 dL_law_264 (by decide) (fun _ => ?_) (fun h9 => absurd rfl h9)
    refine lv_goto (tgt := 984) hx hb dL_law_269 (by decide) ?_
    exact kk ov1 (I1 u) N1 M1 t1 _ _ _ trivial hI1 hP hD hS (lv_sub hl [2, 3, 4, 5, 6] rfl)
set_option maxRecDepth 100000 in
set_option maxHeartbeats 4000000 in
theorem lw_c_follow (C : LC p s m c b L xs D) (hlt : l.stackTraces = false) (hI : Inv M N T) (hT : T < 512) (hTL : 6 * T + 6 ≤ L) (hL2 : L ≤ 3072) (hc1 : cells + 6 ≤ 601024) (hc2 : slots + 60 ≤ 7293034) (hP : va_P D.1 vwCl (wM D r ma t M ++ WS D x xa oa ov I N M) H) (hD : va_D (LA s) (wM D r ma t M ++ WS D x xa oa ov I N M)) (hS : va_S (LA s) s.heap H locs) (hl : lv_has ls 8 [(4, .int (nI (6 * T))), (0, .ref b), (1, .ref x), (2, .ref r), (3, .ref oa)]) (kk : ∀ (ov : Nat → Int64) (I : Nat → Nat → Nat) (N : Nat) (M : MSt) (t : Int32) (H : Heap) (locs : List Loc) (ls : Array Slot), True → Inv M N (T + 1) → va_P D.1 vwCl (wM D r ma t M ++ WS D x xa oa ov I N M) H → va_D (LA s) (wM D r ma t M ++ WS D x xa oa ov I N M) → va_S (LA s) s.heap H locs → lv_has ls 8 [(4, .int (nI (6 * T))), (0, .ref b), (1, .ref x), (2, .ref r), (3, .ref oa)] → W p l e room_1 s m #[Value.ref b] below meth c H locs (cells + 6) (slots + 60) Q (F0 m 984 ls [])) : W p l e room_1 s m #[Value.ref b] below meth c H locs cells slots Q (F0 m 272 ls []) := by
  obtain ⟨hx, hb, G, hgf, hz, hX, hbl⟩ := C
  have hA : ∀ q : Nat, s.heap.size ≤ q → LA s q := fun _ h => h
  have hbA : ¬ LA s b := Nat.not_le.mpr hbl
  refine lv_aload_n hx hb dL_law_272 rfl (lv_at hl 2 rfl) ?_
  refine lv_aload_n hx hb dL_law_273 rfl (lv_at hl 1 rfl) ?_
  refine lv_iload hx hb dL_law_274 (lv_at hl 0 rfl) ?_
  refine lv_iconst (v := 1) hx hb dL_law_276 (by decide) ?_
  refine lv_iadd hx hb dL_law_277 ?_
  refine va_sld hx hb hX hbl hbA hS (in_k (k := 1) hTL (by decide) hL2) dL_law_278 ?_
  refine lv_aload_n hx hb dL_law_279 rfl (lv_at hl 1 rfl) ?_
  refine lv_iload hx hb dL_law_280 (lv_at hl 0 rfl) ?_
  refine lv_iconst (v := 2) hx hb dL_law_282 (by decide) ?_
  refine lv_iadd hx hb dL_law_283 ?_
  refine va_sld hx hb hX hbl hbA hS (in_k (k := 2) hTL (by decide) hL2) dL_law_284 ?_
  refine lv_aload_n hx hb dL_law_285 rfl (lv_at hl 1 rfl) ?_
  refine lv_iload hx hb dL_law_286 (lv_at hl 0 rfl) ?_
  refine lv_iconst (v := 3) hx hb dL_law_288 (by decide) ?_
  refine lv_iadd hx hb dL_law_289 ?_
  refine va_sld hx hb hX hbl hbA hS (in_k (k := 3) hTL (by decide) hL2) dL_law_290 ?_
  refine lv_aload_n hx hb dL_law_291 rfl (lv_at hl 4 rfl) ?_
  obtain ⟨t1, bv, M1, ⟨S, I1, N1, ov1, hH, hval, hI1⟩, k5, hk5, hq⟩ := pr_follow l D x xa oa ov I N M T hlt hI hT (xs (nI (6 * T) + 1).toNatClampNeg) (xs (nI (6 * T) + 2).toNatClampNeg) (xs (nI (6 * T) + 3).toNatClampNeg)
  refine kH (rest := []) (wr := wM D r ma t M) G hH okH_follow hgf hz hP hD hS hA (ixB (wM D r ma t M) (WS D x xa oa ov I N M)) (List.range 15) (ix_nd _ _) (ix_r _ _) (ix_l _ _) (va_nd_range _) (ix_dis2 (wM D r ma t M) (WS D x xa oa ov I N M)) qw2_118 ⟨Nat.le_of_ble_eq_true rfl, Nat.le_of_ble_eq_true rfl⟩ ⟨hc1, hc2⟩ hl.1 (Nat.le_of_ble_eq_true rfl) rfl dL_law_292 (fun u H locs hP hD hS => ?_)
  refine lv_istore (lv' := [(5, .int t1), (4, .int (nI (6 * T))), (0, .ref b), (1, .ref x), (2, .ref r), (3, .ref oa)]) hx hb dL_law_295 hl (by decide) rfl (fun ls hl => ?_)
  refine lv_aload_n hx hb dL_law_297 rfl (lv_at hl 4 rfl) ?_
  refine lv_aload_n hx hb dL_law_298 rfl (lv_at hl 2 rfl) ?_
  refine lv_iload hx hb dL_law_299 (lv_at hl 1 rfl) ?_
  refine lv_iconst (v := 1) hx hb dL_law_301 (by decide) ?_
  refine lv_iadd hx hb dL_law_302 ?_
  refine va_sld hx hb hX hbl hbA hS (in_k (k := 1) hTL (by decide) hL2) dL_law_303 ?_
  refine lv_aload_n hx hb dL_law_304 rfl (lv_at hl 2 rfl) ?_
  refine lv_iload hx hb dL_law_305 (lv_at hl 1 rfl) ?_
  refine lv_iconst (v := 2) hx hb dL_law_307 (by decide) ?_
  refine lv_iadd hx hb dL_law_308 ?_
  refine va_sld hx hb hX hbl hbA hS (in_k (k := 2) hTL (by decide) hL2) dL_law_309 ?_
  refine lv_aload_n hx hb dL_law_310 rfl (lv_at hl 2 rfl) ?_
  refine lv_iload hx hb dL_law_311 (lv_at hl 1 rfl) ?_
  refine lv_iconst (v := 3) hx hb dL_law_313 (by decide) ?_
  refine lv_iadd hx hb dL_law_314 ?_
  refine va_sld hx hb hX hbl hbA hS (in_k (k := 3) hTL (by decide) hL2) dL_law_315 ?_
  refine kQ (C := RX5) (rest := []) (wr := WS D x xa oa ov1 (I1 u) N1 M1) G (hq r ma t) okX5_follow hgf hP hD hS hA (List.range 15) (ixB (wM D r ma t M) (WS D x xa oa ov1 (I1 u) N1 M1)) (va_nd_range _) (ix_l _ _) (ix_r _ _) (ix_nd _ _) (ix_dis (wM D r ma t M) (WS D x xa oa ov1 (I1 u) N1 M1)) (mw_recv hgf (hP 0 _ rfl) rfl) qw4_43 ⟨by show k5 + 1 ≤ 11; omega, by show 8 + (4 + 11) + 42 * k5 ≤ 422; omega⟩ ⟨by show cells + 6 + 0 ≤ 601024; omega, by show slots + 60 + 0 ≤ 7293034; omega⟩ hl.1 (Nat.le_of_ble_eq_true rfl) rfl dL_law_316 (fun H locs hP hD hS => ?_)
  have hP := hP.flip
  have hD := hD.flip
  refine lv_istore (lv' := [(6, .int bv), (5, .int t1), (4, .int (nI (6 * T))), (0, .ref b), (1, .ref x), (2, .ref r), (3, .ref oa)]) hx hb dL_law_319 hl (by decide) rfl (fun ls hl => ?_)
  refine lv_aload_n hx hb dL_law_321 rfl (lv_at hl 5 rfl) ?_
  refine kV (C := RX5) (rest := []) G (cvX5_thrown l D r ma t1 M1) okX5_thrown hgf hP.left (mw_recv hgf (hP 0 _ rfl) rfl) qw3_220 ⟨Nat.le_of_ble_eq_true rfl, Nat.le_of_ble_eq_true rfl⟩ ⟨by show cells + 6 ≤ 601024; omega, by show slots + 60 ≤ 7293034; omega⟩ hl.1 (Nat.le_of_ble_eq_true rfl) rfl dL_law_322 ?_
  refine lv_iload hx hb dL_law_325 (lv_at hl 1 rfl) ?_
  refine lv_icmp_eq (tgt := 332) hx hb dL_law_327 (by decide) (fun _ => ?_) (fun h9 => absurd rfl h9)
  refine lv_iload hx hb dL_law_332 (lv_at hl 1 rfl) ?_
  refine lv_if_ne (tgt := 349) hx hb dL_law_334 (by decide) (fun h0 => ?_) (fun h0 => ?_)
  · skip
    refine lv_goto (tgt := 984) hx hb dL_law_349 (by decide) ?_
    exact kk ov1 (I1 u) N1 M1 t1 _ _ _ trivial hI1 hP hD hS (lv_sub hl [2, 3, 4, 5, 6] rfl)
  · skip
    refine lv_aload_n hx hb dL_law_337 rfl (lv_at hl 6 rfl) ?_
    refine lv_iconst (v := 0) hx hb dL_law_338 (by decide) ?_
    refine mw_lald (f := ov1) G hgf (hP 17 _ rfl) in01 dL_law_339 ?_
    rw [show ov1 (Int32.toNatClampNeg 0) = bv.toInt64 from hval h0]
    refine lv_iload hx hb dL_law_340 (lv_at hl 0 rfl) ?_
    refine lv_i2l hx hb dL_law_342 rfl ?_
    refine mw_leq (tgt := 349) hx hb dL_law_343 dL_law_344 (by decide) (fun _ => ?_) (fun h9 => absurd rfl h9)
    refine lv_goto (tgt := 984) hx hb dL_law_349 (by decide) ?_
    exact kk ov1 (I1 u) N1 M1 t1 _ _ _ trivial hI1 hP hD hS (lv_sub hl [2, 3, 4, 5, 6] rfl)
set_option maxRecDepth 100000 in
set_option maxHeartbeats 4000000 in
theorem lw_c_read (C : LC p s m c b L xs D) (hlt : l.stackTraces = false) (hI : Inv M N T) (hT : T < 512) (hTL : 6 * T + 6 ≤ L) (hL2 : L ≤ 3072) (hc1 : cells + 6 ≤ 601024) (hc2 : slots + 60 ≤ 7293034) (hP : va_P D.1 vwCl (wM D r ma t M ++ WS D x xa oa ov I N M) H) (hD : va_D (LA s) (wM D r ma t M ++ WS D x xa oa ov I N M)) (hS : va_S (LA s) s.heap H locs) (hl : lv_has ls 8 [(4, .int (nI (6 * T))), (0, .ref b), (1, .ref x), (2, .ref r), (3, .ref oa)]) (kk : ∀ (ov : Nat → Int64) (I : Nat → Nat → Nat) (N : Nat) (M : MSt) (t : Int32) (H : Heap) (locs : List Loc) (ls : Array Slot), True → Inv M N (T + 1) → va_P D.1 vwCl (wM D r ma t M ++ WS D x xa oa ov I N M) H → va_D (LA s) (wM D r ma t M ++ WS D x xa oa ov I N M) → va_S (LA s) s.heap H locs → lv_has ls 8 [(4, .int (nI (6 * T))), (0, .ref b), (1, .ref x), (2, .ref r), (3, .ref oa)] → W p l e room_1 s m #[Value.ref b] below meth c H locs (cells + 6) (slots + 60) Q (F0 m 984 ls [])) : W p l e room_1 s m #[Value.ref b] below meth c H locs cells slots Q (F0 m 352 ls []) := by
  obtain ⟨hx, hb, G, hgf, hz, hX, hbl⟩ := C
  have hA : ∀ q : Nat, s.heap.size ≤ q → LA s q := fun _ h => h
  have hbA : ¬ LA s b := Nat.not_le.mpr hbl
  refine lv_aload_n hx hb dL_law_352 rfl (lv_at hl 2 rfl) ?_
  refine lv_aload_n hx hb dL_law_353 rfl (lv_at hl 1 rfl) ?_
  refine lv_iload hx hb dL_law_354 (lv_at hl 0 rfl) ?_
  refine lv_iconst (v := 1) hx hb dL_law_356 (by decide) ?_
  refine lv_iadd hx hb dL_law_357 ?_
  refine va_sld hx hb hX hbl hbA hS (in_k (k := 1) hTL (by decide) hL2) dL_law_358 ?_
  refine lv_aload_n hx hb dL_law_359 rfl (lv_at hl 1 rfl) ?_
  refine lv_iload hx hb dL_law_360 (lv_at hl 0 rfl) ?_
  refine lv_iconst (v := 2) hx hb dL_law_362 (by decide) ?_
  refine lv_iadd hx hb dL_law_363 ?_
  refine va_sld hx hb hX hbl hbA hS (in_k (k := 2) hTL (by decide) hL2) dL_law_364 ?_
  refine lv_i2l hx hb dL_law_365 rfl ?_
  refine lv_bipush (v := 32) hx hb dL_law_366 (by decide) ?_
  refine lv_lshl (v := jshl ((xs (nI (6 * T) + 2).toNatClampNeg).toInt64) 32) hx hb dL_law_368 rfl ?_
  refine lv_aload_n hx hb dL_law_369 rfl (lv_at hl 1 rfl) ?_
  refine lv_iload hx hb dL_law_370 (lv_at hl 0 rfl) ?_
  refine lv_iconst (v := 3) hx hb dL_law_372 (by decide) ?_
  refine lv_iadd hx hb dL_law_373 ?_
  refine va_sld hx hb hX hbl hbA hS (in_k (k := 3) hTL (by decide) hL2) dL_law_374 ?_
  refine lv_i2l hx hb dL_law_375 rfl ?_
  refine lv_ldc2 (v := 4294967295) hx hb G.2.2.2.1 (G.2.2.2.2 _ qw4_165) dL_law_376 ?_
  refine lv_land hx hb dL_law_379 ?_
  refine lv_lor hx hb dL_law_380 ?_
  refine lv_aload_n hx hb dL_law_381 rfl (lv_at hl 4 rfl) ?_
  obtain ⟨t1, bv, M1, ⟨S, I1, N1, ov1, hH, hval, hI1⟩, k5, hk5, hq⟩ := pr_read l D x xa oa ov I N M T hlt hI hT (xs (nI (6 * T) + 1).toNatClampNeg) ((jshl ((xs (nI (6 * T) + 2).toNatClampNeg).toInt64) 32) ||| (((xs (nI (6 * T) + 3).toNatClampNeg).toInt64) &&& 4294967295))
  refine kH (rest := []) (wr := wM D r ma t M) G hH okH_read hgf hz hP hD hS hA (ixB (wM D r ma t M) (WS D x xa oa ov I N M)) (List.range 15) (ix_nd _ _) (ix_r _ _) (ix_l _ _) (va_nd_range _) (ix_dis2 (wM D r ma t M) (WS D x xa oa ov I N M)) qw2_127 ⟨Nat.le_of_ble_eq_true rfl, Nat.le_of_ble_eq_true rfl⟩ ⟨hc1, hc2⟩ hl.1 (Nat.le_of_ble_eq_true rfl) rfl dL_law_382 (fun u H locs hP hD hS => ?_)
  refine lv_istore (lv' := [(5, .int t1), (4, .int (nI (6 * T))), (0, .ref b), (1, .ref x), (2, .ref r), (3, .ref oa)]) hx hb dL_law_385 hl (by decide) rfl (fun ls hl => ?_)
  refine lv_aload_n hx hb dL_law_387 rfl (lv_at hl 4 rfl) ?_
  refine lv_aload_n hx hb dL_law_388 rfl (lv_at hl 2 rfl) ?_
  refine lv_iload hx hb dL_law_389 (lv_at hl 1 rfl) ?_
  refine lv_iconst (v := 1) hx hb dL_law_391 (by decide) ?_
  refine lv_iadd hx hb dL_law_392 ?_
  refine va_sld hx hb hX hbl hbA hS (in_k (k := 1) hTL (by decide) hL2) dL_law_393 ?_
  refine lv_aload_n hx hb dL_law_394 rfl (lv_at hl 2 rfl) ?_
  refine lv_iload hx hb dL_law_395 (lv_at hl 1 rfl) ?_
  refine lv_iconst (v := 2) hx hb dL_law_397 (by decide) ?_
  refine lv_iadd hx hb dL_law_398 ?_
  refine va_sld hx hb hX hbl hbA hS (in_k (k := 2) hTL (by decide) hL2) dL_law_399 ?_
  refine lv_i2l hx hb dL_law_400 rfl ?_
  refine lv_bipush (v := 32) hx hb dL_law_401 (by decide) ?_
  refine lv_lshl (v := jshl ((xs (nI (6 * T) + 2).toNatClampNeg).toInt64) 32) hx hb dL_law_403 rfl ?_
  refine lv_aload_n hx hb dL_law_404 rfl (lv_at hl 2 rfl) ?_
  refine lv_iload hx hb dL_law_405 (lv_at hl 1 rfl) ?_
  refine lv_iconst (v := 3) hx hb dL_law_407 (by decide) ?_
  refine lv_iadd hx hb dL_law_408 ?_
  refine va_sld hx hb hX hbl hbA hS (in_k (k := 3) hTL (by decide) hL2) dL_law_409 ?_
  refine lv_i2l hx hb dL_law_410 rfl ?_
  refine lv_ldc2 (v := 4294967295) hx hb G.2.2.2.1 (G.2.2.2.2 _ qw4_165) dL_law_411 ?_
  refine lv_land hx hb dL_law_414 ?_
  refine lv_lor hx hb dL_law_415 ?_
  refine kQ (C := RX5) (rest := []) (wr := WS D x xa oa ov1 (I1 u) N1 M1) G (hq r ma t) okX5_read hgf hP hD hS hA (List.range 15) (ixB (wM D r ma t M) (WS D x xa oa ov1 (I1 u) N1 M1)) (va_nd_range _) (ix_l _ _) (ix_r _ _) (ix_nd _ _) (ix_dis (wM D r ma t M) (WS D x xa oa ov1 (I1 u) N1 M1)) (mw_recv hgf (hP 0 _ rfl) rfl) qw4_63 ⟨by show k5 + 1 ≤ 11; omega, by show 8 + (9 + 11) + 42 * k5 ≤ 422; omega⟩ ⟨by show cells + 6 + 0 ≤ 601024; omega, by show slots + 60 + 0 ≤ 7293034; omega⟩ hl.1 (Nat.le_of_ble_eq_true rfl) rfl dL_law_416 (fun H locs hP hD hS => ?_)
  have hP := hP.flip
  have hD := hD.flip
  refine lv_lstore (lv' := [(6, .long bv), (5, .int t1), (4, .int (nI (6 * T))), (0, .ref b), (1, .ref x), (2, .ref r), (3, .ref oa)]) hx hb dL_law_419 hl (by decide) rfl (fun ls hl => ?_)
  refine lv_aload_n hx hb dL_law_421 rfl (lv_at hl 5 rfl) ?_
  refine kV (C := RX5) (rest := []) G (cvX5_thrown l D r ma t1 M1) okX5_thrown hgf hP.left (mw_recv hgf (hP 0 _ rfl) rfl) qw3_220 ⟨Nat.le_of_ble_eq_true rfl, Nat.le_of_ble_eq_true rfl⟩ ⟨by show cells + 6 ≤ 601024; omega, by show slots + 60 ≤ 7293034; omega⟩ hl.1 (Nat.le_of_ble_eq_true rfl) rfl dL_law_422 ?_
  refine lv_iload hx hb dL_law_425 (lv_at hl 1 rfl) ?_
  refine lv_icmp_eq (tgt := 432) hx hb dL_law_427 (by decide) (fun _ => ?_) (fun h9 => absurd rfl h9)
  refine lv_iload hx hb dL_law_432 (lv_at hl 1 rfl) ?_
  refine lv_if_ne (tgt := 448) hx hb dL_law_434 (by decide) (fun h0 => ?_) (fun h0 => ?_)
  · skip
    refine lv_goto (tgt := 984) hx hb dL_law_448 (by decide) ?_
    exact kk ov1 (I1 u) N1 M1 t1 _ _ _ trivial hI1 hP hD hS (lv_sub hl [2, 3, 4, 5, 6] rfl)
  · skip
    refine lv_aload_n hx hb dL_law_437 rfl (lv_at hl 6 rfl) ?_
    refine lv_iconst (v := 0) hx hb dL_law_438 (by decide) ?_
    refine mw_lald (f := ov1) G hgf (hP 17 _ rfl) in01 dL_law_439 ?_
    rw [show ov1 (Int32.toNatClampNeg 0) = bv from hval h0]
    refine lv_lload hx hb dL_law_440 (lv_at hl 0 rfl) ?_
    refine mw_leq (tgt := 448) hx hb dL_law_442 dL_law_443 (by decide) (fun _ => ?_) (fun h9 => absurd rfl h9)
    refine lv_goto (tgt := 984) hx hb dL_law_448 (by decide) ?_
    exact kk ov1 (I1 u) N1 M1 t1 _ _ _ trivial hI1 hP hD hS (lv_sub hl [2, 3, 4, 5, 6] rfl)
set_option maxRecDepth 100000 in
set_option maxHeartbeats 4000000 in
theorem lw_c_reading (C : LC p s m c b L xs D) (hlt : l.stackTraces = false) (hI : Inv M N T) (hT : T < 512) (hTL : 6 * T + 6 ≤ L) (hL2 : L ≤ 3072) (hc1 : cells + 6 ≤ 601024) (hc2 : slots + 60 ≤ 7293034) (hP : va_P D.1 vwCl (wM D r ma t M ++ WS D x xa oa ov I N M) H) (hD : va_D (LA s) (wM D r ma t M ++ WS D x xa oa ov I N M)) (hS : va_S (LA s) s.heap H locs) (hl : lv_has ls 8 [(4, .int (nI (6 * T))), (0, .ref b), (1, .ref x), (2, .ref r), (3, .ref oa)]) (kk : ∀ (ov : Nat → Int64) (I : Nat → Nat → Nat) (N : Nat) (M : MSt) (t : Int32) (H : Heap) (locs : List Loc) (ls : Array Slot), True → Inv M N (T + 1) → va_P D.1 vwCl (wM D r ma t M ++ WS D x xa oa ov I N M) H → va_D (LA s) (wM D r ma t M ++ WS D x xa oa ov I N M) → va_S (LA s) s.heap H locs → lv_has ls 8 [(4, .int (nI (6 * T))), (0, .ref b), (1, .ref x), (2, .ref r), (3, .ref oa)] → W p l e room_1 s m #[Value.ref b] below meth c H locs (cells + 6) (slots + 60) Q (F0 m 984 ls [])) : W p l e room_1 s m #[Value.ref b] below meth c H locs cells slots Q (F0 m 451 ls []) := by
  obtain ⟨hx, hb, G, hgf, hz, hX, hbl⟩ := C
  have hA : ∀ q : Nat, s.heap.size ≤ q → LA s q := fun _ h => h
  have hbA : ¬ LA s b := Nat.not_le.mpr hbl
  refine lv_aload_n hx hb dL_law_451 rfl (lv_at hl 2 rfl) ?_
  refine lv_aload_n hx hb dL_law_452 rfl (lv_at hl 1 rfl) ?_
  refine lv_iload hx hb dL_law_453 (lv_at hl 0 rfl) ?_
  refine lv_iconst (v := 1) hx hb dL_law_455 (by decide) ?_
  refine lv_iadd hx hb dL_law_456 ?_
  refine va_sld hx hb hX hbl hbA hS (in_k (k := 1) hTL (by decide) hL2) dL_law_457 ?_
  refine lv_aload_n hx hb dL_law_458 rfl (lv_at hl 1 rfl) ?_
  refine lv_iload hx hb dL_law_459 (lv_at hl 0 rfl) ?_
  refine lv_iconst (v := 2) hx hb dL_law_461 (by decide) ?_
  refine lv_iadd hx hb dL_law_462 ?_
  refine va_sld hx hb hX hbl hbA hS (in_k (k := 2) hTL (by decide) hL2) dL_law_463 ?_
  refine lv_aload_n hx hb dL_law_464 rfl (lv_at hl 4 rfl) ?_
  obtain ⟨t1, bv, M1, ⟨S, I1, N1, ov1, hH, hval, hI1⟩, k5, hk5, hq⟩ := pr_reading l D x xa oa ov I N M T hlt hI hT (xs (nI (6 * T) + 1).toNatClampNeg) (xs (nI (6 * T) + 2).toNatClampNeg)
  refine kH (rest := []) (wr := wM D r ma t M) G hH okH_reading hgf hz hP hD hS hA (ixB (wM D r ma t M) (WS D x xa oa ov I N M)) (List.range 15) (ix_nd _ _) (ix_r _ _) (ix_l _ _) (va_nd_range _) (ix_dis2 (wM D r ma t M) (WS D x xa oa ov I N M)) qw3_59 ⟨Nat.le_of_ble_eq_true rfl, Nat.le_of_ble_eq_true rfl⟩ ⟨hc1, hc2⟩ hl.1 (Nat.le_of_ble_eq_true rfl) rfl dL_law_465 (fun u H locs hP hD hS => ?_)
  refine lv_istore (lv' := [(5, .int t1), (4, .int (nI (6 * T))), (0, .ref b), (1, .ref x), (2, .ref r), (3, .ref oa)]) hx hb dL_law_468 hl (by decide) rfl (fun ls hl => ?_)
  refine lv_aload_n hx hb dL_law_470 rfl (lv_at hl 4 rfl) ?_
  refine lv_aload_n hx hb dL_law_471 rfl (lv_at hl 2 rfl) ?_
  refine lv_iload hx hb dL_law_472 (lv_at hl 1 rfl) ?_
  refine lv_iconst (v := 1) hx hb dL_law_474 (by decide) ?_
  refine lv_iadd hx hb dL_law_475 ?_
  refine va_sld hx hb hX hbl hbA hS (in_k (k := 1) hTL (by decide) hL2) dL_law_476 ?_
  refine lv_aload_n hx hb dL_law_477 rfl (lv_at hl 2 rfl) ?_
  refine lv_iload hx hb dL_law_478 (lv_at hl 1 rfl) ?_
  refine lv_iconst (v := 2) hx hb dL_law_480 (by decide) ?_
  refine lv_iadd hx hb dL_law_481 ?_
  refine va_sld hx hb hX hbl hbA hS (in_k (k := 2) hTL (by decide) hL2) dL_law_482 ?_
  refine kQ (C := RX5) (rest := []) (wr := WS D x xa oa ov1 (I1 u) N1 M1) G (hq r ma t) okX5_reading hgf hP hD hS hA (List.range 15) (ixB (wM D r ma t M) (WS D x xa oa ov1 (I1 u) N1 M1)) (va_nd_range _) (ix_l _ _) (ix_r _ _) (ix_nd _ _) (ix_dis (wM D r ma t M) (WS D x xa oa ov1 (I1 u) N1 M1)) (mw_recv hgf (hP 0 _ rfl) rfl) qw4_141 ⟨by show k5 + 1 ≤ 11; omega, by show 8 + (4 + 11) + 42 * k5 ≤ 422; omega⟩ ⟨by show cells + 6 + 0 ≤ 601024; omega, by show slots + 60 + 0 ≤ 7293034; omega⟩ hl.1 (Nat.le_of_ble_eq_true rfl) rfl dL_law_483 (fun H locs hP hD hS => ?_)
  have hP := hP.flip
  have hD := hD.flip
  refine lv_lstore (lv' := [(6, .long bv), (5, .int t1), (4, .int (nI (6 * T))), (0, .ref b), (1, .ref x), (2, .ref r), (3, .ref oa)]) hx hb dL_law_486 hl (by decide) rfl (fun ls hl => ?_)
  refine lv_aload_n hx hb dL_law_488 rfl (lv_at hl 5 rfl) ?_
  refine kV (C := RX5) (rest := []) G (cvX5_thrown l D r ma t1 M1) okX5_thrown hgf hP.left (mw_recv hgf (hP 0 _ rfl) rfl) qw3_220 ⟨Nat.le_of_ble_eq_true rfl, Nat.le_of_ble_eq_true rfl⟩ ⟨by show cells + 6 ≤ 601024; omega, by show slots + 60 ≤ 7293034; omega⟩ hl.1 (Nat.le_of_ble_eq_true rfl) rfl dL_law_489 ?_
  refine lv_iload hx hb dL_law_492 (lv_at hl 1 rfl) ?_
  refine lv_icmp_eq (tgt := 499) hx hb dL_law_494 (by decide) (fun _ => ?_) (fun h9 => absurd rfl h9)
  refine lv_iload hx hb dL_law_499 (lv_at hl 1 rfl) ?_
  refine lv_if_ne (tgt := 515) hx hb dL_law_501 (by decide) (fun h0 => ?_) (fun h0 => ?_)
  · skip
    refine lv_goto (tgt := 984) hx hb dL_law_515 (by decide) ?_
    exact kk ov1 (I1 u) N1 M1 t1 _ _ _ trivial hI1 hP hD hS (lv_sub hl [2, 3, 4, 5, 6] rfl)
  · skip
    refine lv_aload_n hx hb dL_law_504 rfl (lv_at hl 6 rfl) ?_
    refine lv_iconst (v := 0) hx hb dL_law_505 (by decide) ?_
    refine mw_lald (f := ov1) G hgf (hP 17 _ rfl) in01 dL_law_506 ?_
    rw [show ov1 (Int32.toNatClampNeg 0) = bv from hval h0]
    refine lv_lload hx hb dL_law_507 (lv_at hl 0 rfl) ?_
    refine mw_leq (tgt := 515) hx hb dL_law_509 dL_law_510 (by decide) (fun _ => ?_) (fun h9 => absurd rfl h9)
    refine lv_goto (tgt := 984) hx hb dL_law_515 (by decide) ?_
    exact kk ov1 (I1 u) N1 M1 t1 _ _ _ trivial hI1 hP hD hS (lv_sub hl [2, 3, 4, 5, 6] rfl)
set_option maxRecDepth 100000 in
set_option maxHeartbeats 4000000 in
theorem lw_c_tell (C : LC p s m c b L xs D) (hlt : l.stackTraces = false) (hI : Inv M N T) (hT : T < 512) (hTL : 6 * T + 6 ≤ L) (hL2 : L ≤ 3072) (hc1 : cells + 6 ≤ 601024) (hc2 : slots + 60 ≤ 7293034) (hP : va_P D.1 vwCl (wM D r ma t M ++ WS D x xa oa ov I N M) H) (hD : va_D (LA s) (wM D r ma t M ++ WS D x xa oa ov I N M)) (hS : va_S (LA s) s.heap H locs) (hl : lv_has ls 8 [(4, .int (nI (6 * T))), (0, .ref b), (1, .ref x), (2, .ref r), (3, .ref oa)]) (kk : ∀ (ov : Nat → Int64) (I : Nat → Nat → Nat) (N : Nat) (M : MSt) (t : Int32) (H : Heap) (locs : List Loc) (ls : Array Slot), True → Inv M N (T + 1) → va_P D.1 vwCl (wM D r ma t M ++ WS D x xa oa ov I N M) H → va_D (LA s) (wM D r ma t M ++ WS D x xa oa ov I N M) → va_S (LA s) s.heap H locs → lv_has ls 8 [(4, .int (nI (6 * T))), (0, .ref b), (1, .ref x), (2, .ref r), (3, .ref oa)] → W p l e room_1 s m #[Value.ref b] below meth c H locs (cells + 6) (slots + 60) Q (F0 m 984 ls [])) : W p l e room_1 s m #[Value.ref b] below meth c H locs cells slots Q (F0 m 518 ls []) := by
  obtain ⟨hx, hb, G, hgf, hz, hX, hbl⟩ := C
  have hA : ∀ q : Nat, s.heap.size ≤ q → LA s q := fun _ h => h
  have hbA : ¬ LA s b := Nat.not_le.mpr hbl
  refine lv_aload_n hx hb dL_law_518 rfl (lv_at hl 2 rfl) ?_
  refine lv_aload_n hx hb dL_law_519 rfl (lv_at hl 1 rfl) ?_
  refine lv_iload hx hb dL_law_520 (lv_at hl 0 rfl) ?_
  refine lv_iconst (v := 1) hx hb dL_law_522 (by decide) ?_
  refine lv_iadd hx hb dL_law_523 ?_
  refine va_sld hx hb hX hbl hbA hS (in_k (k := 1) hTL (by decide) hL2) dL_law_524 ?_
  refine lv_aload_n hx hb dL_law_525 rfl (lv_at hl 1 rfl) ?_
  refine lv_iload hx hb dL_law_526 (lv_at hl 0 rfl) ?_
  refine lv_iconst (v := 2) hx hb dL_law_528 (by decide) ?_
  refine lv_iadd hx hb dL_law_529 ?_
  refine va_sld hx hb hX hbl hbA hS (in_k (k := 2) hTL (by decide) hL2) dL_law_530 ?_
  refine lv_aload_n hx hb dL_law_531 rfl (lv_at hl 4 rfl) ?_
  obtain ⟨t1, bv, M1, ⟨S, I1, N1, ov1, hH, hval, hI1⟩, k5, hk5, hq⟩ := pr_tell l D x xa oa ov I N M T hlt hI hT (xs (nI (6 * T) + 1).toNatClampNeg) (xs (nI (6 * T) + 2).toNatClampNeg)
  refine kH (rest := []) (wr := wM D r ma t M) G hH okH_tell hgf hz hP hD hS hA (ixB (wM D r ma t M) (WS D x xa oa ov I N M)) (List.range 15) (ix_nd _ _) (ix_r _ _) (ix_l _ _) (va_nd_range _) (ix_dis2 (wM D r ma t M) (WS D x xa oa ov I N M)) qw3_88 ⟨Nat.le_of_ble_eq_true rfl, Nat.le_of_ble_eq_true rfl⟩ ⟨hc1, hc2⟩ hl.1 (Nat.le_of_ble_eq_true rfl) rfl dL_law_532 (fun u H locs hP hD hS => ?_)
  refine lv_istore (lv' := [(5, .int t1), (4, .int (nI (6 * T))), (0, .ref b), (1, .ref x), (2, .ref r), (3, .ref oa)]) hx hb dL_law_535 hl (by decide) rfl (fun ls hl => ?_)
  refine lv_aload_n hx hb dL_law_537 rfl (lv_at hl 4 rfl) ?_
  refine lv_aload_n hx hb dL_law_538 rfl (lv_at hl 2 rfl) ?_
  refine lv_iload hx hb dL_law_539 (lv_at hl 1 rfl) ?_
  refine lv_iconst (v := 1) hx hb dL_law_541 (by decide) ?_
  refine lv_iadd hx hb dL_law_542 ?_
  refine va_sld hx hb hX hbl hbA hS (in_k (k := 1) hTL (by decide) hL2) dL_law_543 ?_
  refine lv_aload_n hx hb dL_law_544 rfl (lv_at hl 2 rfl) ?_
  refine lv_iload hx hb dL_law_545 (lv_at hl 1 rfl) ?_
  refine lv_iconst (v := 2) hx hb dL_law_547 (by decide) ?_
  refine lv_iadd hx hb dL_law_548 ?_
  refine va_sld hx hb hX hbl hbA hS (in_k (k := 2) hTL (by decide) hL2) dL_law_549 ?_
  refine kQ (C := RX5) (rest := []) (wr := WS D x xa oa ov1 (I1 u) N1 M1) G (hq r ma t) okX5_tell hgf hP hD hS hA (List.range 15) (ixB (wM D r ma t M) (WS D x xa oa ov1 (I1 u) N1 M1)) (va_nd_range _) (ix_l _ _) (ix_r _ _) (ix_nd _ _) (ix_dis (wM D r ma t M) (WS D x xa oa ov1 (I1 u) N1 M1)) (mw_recv hgf (hP 0 _ rfl) rfl) qw4_145 ⟨by show k5 + 1 ≤ 11; omega, by show 8 + (3 + 11) + 42 * k5 ≤ 422; omega⟩ ⟨by show cells + 6 + 0 ≤ 601024; omega, by show slots + 60 + 0 ≤ 7293034; omega⟩ hl.1 (Nat.le_of_ble_eq_true rfl) rfl dL_law_550 (fun H locs hP hD hS => ?_)
  have hP := hP.flip
  have hD := hD.flip
  refine lv_lstore (lv' := [(6, .long bv), (5, .int t1), (4, .int (nI (6 * T))), (0, .ref b), (1, .ref x), (2, .ref r), (3, .ref oa)]) hx hb dL_law_553 hl (by decide) rfl (fun ls hl => ?_)
  refine lv_aload_n hx hb dL_law_555 rfl (lv_at hl 5 rfl) ?_
  refine kV (C := RX5) (rest := []) G (cvX5_thrown l D r ma t1 M1) okX5_thrown hgf hP.left (mw_recv hgf (hP 0 _ rfl) rfl) qw3_220 ⟨Nat.le_of_ble_eq_true rfl, Nat.le_of_ble_eq_true rfl⟩ ⟨by show cells + 6 ≤ 601024; omega, by show slots + 60 ≤ 7293034; omega⟩ hl.1 (Nat.le_of_ble_eq_true rfl) rfl dL_law_556 ?_
  refine lv_iload hx hb dL_law_559 (lv_at hl 1 rfl) ?_
  refine lv_icmp_eq (tgt := 566) hx hb dL_law_561 (by decide) (fun _ => ?_) (fun h9 => absurd rfl h9)
  refine lv_iload hx hb dL_law_566 (lv_at hl 1 rfl) ?_
  refine lv_if_ne (tgt := 582) hx hb dL_law_568 (by decide) (fun h0 => ?_) (fun h0 => ?_)
  · skip
    refine lv_goto (tgt := 984) hx hb dL_law_582 (by decide) ?_
    exact kk ov1 (I1 u) N1 M1 t1 _ _ _ trivial hI1 hP hD hS (lv_sub hl [2, 3, 4, 5, 6] rfl)
  · skip
    refine lv_aload_n hx hb dL_law_571 rfl (lv_at hl 6 rfl) ?_
    refine lv_iconst (v := 0) hx hb dL_law_572 (by decide) ?_
    refine mw_lald (f := ov1) G hgf (hP 17 _ rfl) in01 dL_law_573 ?_
    rw [show ov1 (Int32.toNatClampNeg 0) = bv from hval h0]
    refine lv_lload hx hb dL_law_574 (lv_at hl 0 rfl) ?_
    refine mw_leq (tgt := 582) hx hb dL_law_576 dL_law_577 (by decide) (fun _ => ?_) (fun h9 => absurd rfl h9)
    refine lv_goto (tgt := 984) hx hb dL_law_582 (by decide) ?_
    exact kk ov1 (I1 u) N1 M1 t1 _ _ _ trivial hI1 hP hD hS (lv_sub hl [2, 3, 4, 5, 6] rfl)
set_option maxRecDepth 100000 in
set_option maxHeartbeats 4000000 in
theorem lw_c_whole (C : LC p s m c b L xs D) (hlt : l.stackTraces = false) (hI : Inv M N T) (hT : T < 512) (hTL : 6 * T + 6 ≤ L) (hL2 : L ≤ 3072) (hc1 : cells + 6 ≤ 601024) (hc2 : slots + 60 ≤ 7293034) (hP : va_P D.1 vwCl (wM D r ma t M ++ WS D x xa oa ov I N M) H) (hD : va_D (LA s) (wM D r ma t M ++ WS D x xa oa ov I N M)) (hS : va_S (LA s) s.heap H locs) (hl : lv_has ls 8 [(4, .int (nI (6 * T))), (0, .ref b), (1, .ref x), (2, .ref r), (3, .ref oa)]) (kk : ∀ (ov : Nat → Int64) (I : Nat → Nat → Nat) (N : Nat) (M : MSt) (t : Int32) (H : Heap) (locs : List Loc) (ls : Array Slot), True → Inv M N (T + 1) → va_P D.1 vwCl (wM D r ma t M ++ WS D x xa oa ov I N M) H → va_D (LA s) (wM D r ma t M ++ WS D x xa oa ov I N M) → va_S (LA s) s.heap H locs → lv_has ls 8 [(4, .int (nI (6 * T))), (0, .ref b), (1, .ref x), (2, .ref r), (3, .ref oa)] → W p l e room_1 s m #[Value.ref b] below meth c H locs (cells + 6) (slots + 60) Q (F0 m 984 ls [])) : W p l e room_1 s m #[Value.ref b] below meth c H locs cells slots Q (F0 m 585 ls []) := by
  obtain ⟨hx, hb, G, hgf, hz, hX, hbl⟩ := C
  have hA : ∀ q : Nat, s.heap.size ≤ q → LA s q := fun _ h => h
  have hbA : ¬ LA s b := Nat.not_le.mpr hbl
  refine lv_aload_n hx hb dL_law_585 rfl (lv_at hl 2 rfl) ?_
  refine lv_aload_n hx hb dL_law_586 rfl (lv_at hl 1 rfl) ?_
  refine lv_iload hx hb dL_law_587 (lv_at hl 0 rfl) ?_
  refine lv_iconst (v := 1) hx hb dL_law_589 (by decide) ?_
  refine lv_iadd hx hb dL_law_590 ?_
  refine va_sld hx hb hX hbl hbA hS (in_k (k := 1) hTL (by decide) hL2) dL_law_591 ?_
  refine lv_aload_n hx hb dL_law_592 rfl (lv_at hl 4 rfl) ?_
  obtain ⟨t1, bv, M1, ⟨S, I1, N1, ov1, hH, hval, hI1⟩, k5, hk5, hq⟩ := pr_whole l D x xa oa ov I N M T hlt hI hT (xs (nI (6 * T) + 1).toNatClampNeg)
  refine kH (rest := []) (wr := wM D r ma t M) G hH okH_whole hgf hz hP hD hS hA (ixB (wM D r ma t M) (WS D x xa oa ov I N M)) (List.range 15) (ix_nd _ _) (ix_r _ _) (ix_l _ _) (va_nd_range _) (ix_dis2 (wM D r ma t M) (WS D x xa oa ov I N M)) qw3_98 ⟨Nat.le_of_ble_eq_true rfl, Nat.le_of_ble_eq_true rfl⟩ ⟨hc1, hc2⟩ hl.1 (Nat.le_of_ble_eq_true rfl) rfl dL_law_593 (fun u H locs hP hD hS => ?_)
  refine lv_istore (lv' := [(5, .int t1), (4, .int (nI (6 * T))), (0, .ref b), (1, .ref x), (2, .ref r), (3, .ref oa)]) hx hb dL_law_596 hl (by decide) rfl (fun ls hl => ?_)
  refine lv_aload_n hx hb dL_law_598 rfl (lv_at hl 4 rfl) ?_
  refine lv_aload_n hx hb dL_law_599 rfl (lv_at hl 2 rfl) ?_
  refine lv_iload hx hb dL_law_600 (lv_at hl 1 rfl) ?_
  refine lv_iconst (v := 1) hx hb dL_law_602 (by decide) ?_
  refine lv_iadd hx hb dL_law_603 ?_
  refine va_sld hx hb hX hbl hbA hS (in_k (k := 1) hTL (by decide) hL2) dL_law_604 ?_
  refine kQ (C := RX5) (rest := []) (wr := WS D x xa oa ov1 (I1 u) N1 M1) G (hq r ma t) okX5_whole hgf hP hD hS hA (List.range 15) (ixB (wM D r ma t M) (WS D x xa oa ov1 (I1 u) N1 M1)) (va_nd_range _) (ix_l _ _) (ix_r _ _) (ix_nd _ _) (ix_dis (wM D r ma t M) (WS D x xa oa ov1 (I1 u) N1 M1)) (mw_recv hgf (hP 0 _ rfl) rfl) qw4_149 ⟨by show k5 + 1 ≤ 11; omega, by show 8 + (4 + 11) + 42 * k5 ≤ 422; omega⟩ ⟨by show cells + 6 + 0 ≤ 601024; omega, by show slots + 60 + 0 ≤ 7293034; omega⟩ hl.1 (Nat.le_of_ble_eq_true rfl) rfl dL_law_605 (fun H locs hP hD hS => ?_)
  have hP := hP.flip
  have hD := hD.flip
  refine lv_istore (lv' := [(6, .int bv), (5, .int t1), (4, .int (nI (6 * T))), (0, .ref b), (1, .ref x), (2, .ref r), (3, .ref oa)]) hx hb dL_law_608 hl (by decide) rfl (fun ls hl => ?_)
  refine lv_aload_n hx hb dL_law_610 rfl (lv_at hl 5 rfl) ?_
  refine kV (C := RX5) (rest := []) G (cvX5_thrown l D r ma t1 M1) okX5_thrown hgf hP.left (mw_recv hgf (hP 0 _ rfl) rfl) qw3_220 ⟨Nat.le_of_ble_eq_true rfl, Nat.le_of_ble_eq_true rfl⟩ ⟨by show cells + 6 ≤ 601024; omega, by show slots + 60 ≤ 7293034; omega⟩ hl.1 (Nat.le_of_ble_eq_true rfl) rfl dL_law_611 ?_
  refine lv_iload hx hb dL_law_614 (lv_at hl 1 rfl) ?_
  refine lv_icmp_eq (tgt := 621) hx hb dL_law_616 (by decide) (fun _ => ?_) (fun h9 => absurd rfl h9)
  refine lv_iload hx hb dL_law_621 (lv_at hl 1 rfl) ?_
  refine lv_if_ne (tgt := 638) hx hb dL_law_623 (by decide) (fun h0 => ?_) (fun h0 => ?_)
  · skip
    refine lv_goto (tgt := 984) hx hb dL_law_638 (by decide) ?_
    exact kk ov1 (I1 u) N1 M1 t1 _ _ _ trivial hI1 hP hD hS (lv_sub hl [2, 3, 4, 5, 6] rfl)
  · skip
    refine lv_aload_n hx hb dL_law_626 rfl (lv_at hl 6 rfl) ?_
    refine lv_iconst (v := 0) hx hb dL_law_627 (by decide) ?_
    refine mw_lald (f := ov1) G hgf (hP 17 _ rfl) in01 dL_law_628 ?_
    rw [show ov1 (Int32.toNatClampNeg 0) = bv.toInt64 from hval h0]
    refine lv_iload hx hb dL_law_629 (lv_at hl 0 rfl) ?_
    refine lv_i2l hx hb dL_law_631 rfl ?_
    refine mw_leq (tgt := 638) hx hb dL_law_632 dL_law_633 (by decide) (fun _ => ?_) (fun h9 => absurd rfl h9)
    refine lv_goto (tgt := 984) hx hb dL_law_638 (by decide) ?_
    exact kk ov1 (I1 u) N1 M1 t1 _ _ _ trivial hI1 hP hD hS (lv_sub hl [2, 3, 4, 5, 6] rfl)
set_option maxRecDepth 100000 in
set_option maxHeartbeats 4000000 in
theorem lw_c_limits (C : LC p s m c b L xs D) (hlt : l.stackTraces = false) (hI : Inv M N T) (hT : T < 512) (hTL : 6 * T + 6 ≤ L) (hL2 : L ≤ 3072) (hc1 : cells + 6 ≤ 601024) (hc2 : slots + 60 ≤ 7293034) (hP : va_P D.1 vwCl (wM D r ma t M ++ WS D x xa oa ov I N M) H) (hD : va_D (LA s) (wM D r ma t M ++ WS D x xa oa ov I N M)) (hS : va_S (LA s) s.heap H locs) (hl : lv_has ls 8 [(4, .int (nI (6 * T))), (0, .ref b), (1, .ref x), (2, .ref r), (3, .ref oa)]) (kk : ∀ (ov : Nat → Int64) (I : Nat → Nat → Nat) (N : Nat) (M : MSt) (t : Int32) (H : Heap) (locs : List Loc) (ls : Array Slot), True → Inv M N (T + 1) → va_P D.1 vwCl (wM D r ma t M ++ WS D x xa oa ov I N M) H → va_D (LA s) (wM D r ma t M ++ WS D x xa oa ov I N M) → va_S (LA s) s.heap H locs → lv_has ls 8 [(4, .int (nI (6 * T))), (0, .ref b), (1, .ref x), (2, .ref r), (3, .ref oa)] → W p l e room_1 s m #[Value.ref b] below meth c H locs (cells + 6) (slots + 60) Q (F0 m 984 ls [])) : W p l e room_1 s m #[Value.ref b] below meth c H locs cells slots Q (F0 m 641 ls []) := by
  obtain ⟨hx, hb, G, hgf, hz, hX, hbl⟩ := C
  have hA : ∀ q : Nat, s.heap.size ≤ q → LA s q := fun _ h => h
  have hbA : ¬ LA s b := Nat.not_le.mpr hbl
  refine lv_aload_n hx hb dL_law_641 rfl (lv_at hl 2 rfl) ?_
  refine lv_aload_n hx hb dL_law_642 rfl (lv_at hl 1 rfl) ?_
  refine lv_iload hx hb dL_law_643 (lv_at hl 0 rfl) ?_
  refine lv_iconst (v := 1) hx hb dL_law_645 (by decide) ?_
  refine lv_iadd hx hb dL_law_646 ?_
  refine va_sld hx hb hX hbl hbA hS (in_k (k := 1) hTL (by decide) hL2) dL_law_647 ?_
  refine lv_aload_n hx hb dL_law_648 rfl (lv_at hl 1 rfl) ?_
  refine lv_iload hx hb dL_law_649 (lv_at hl 0 rfl) ?_
  refine lv_iconst (v := 2) hx hb dL_law_651 (by decide) ?_
  refine lv_iadd hx hb dL_law_652 ?_
  refine va_sld hx hb hX hbl hbA hS (in_k (k := 2) hTL (by decide) hL2) dL_law_653 ?_
  refine lv_i2l hx hb dL_law_654 rfl ?_
  refine lv_bipush (v := 32) hx hb dL_law_655 (by decide) ?_
  refine lv_lshl (v := jshl ((xs (nI (6 * T) + 2).toNatClampNeg).toInt64) 32) hx hb dL_law_657 rfl ?_
  refine lv_aload_n hx hb dL_law_658 rfl (lv_at hl 1 rfl) ?_
  refine lv_iload hx hb dL_law_659 (lv_at hl 0 rfl) ?_
  refine lv_iconst (v := 3) hx hb dL_law_661 (by decide) ?_
  refine lv_iadd hx hb dL_law_662 ?_
  refine va_sld hx hb hX hbl hbA hS (in_k (k := 3) hTL (by decide) hL2) dL_law_663 ?_
  refine lv_i2l hx hb dL_law_664 rfl ?_
  refine lv_ldc2 (v := 4294967295) hx hb G.2.2.2.1 (G.2.2.2.2 _ qw4_165) dL_law_665 ?_
  refine lv_land hx hb dL_law_668 ?_
  refine lv_lor hx hb dL_law_669 ?_
  refine lv_aload_n hx hb dL_law_670 rfl (lv_at hl 1 rfl) ?_
  refine lv_iload hx hb dL_law_671 (lv_at hl 0 rfl) ?_
  refine lv_iconst (v := 4) hx hb dL_law_673 (by decide) ?_
  refine lv_iadd hx hb dL_law_674 ?_
  refine va_sld hx hb hX hbl hbA hS (in_k (k := 4) hTL (by decide) hL2) dL_law_675 ?_
  refine lv_i2l hx hb dL_law_676 rfl ?_
  refine lv_bipush (v := 32) hx hb dL_law_677 (by decide) ?_
  refine lv_lshl (v := jshl ((xs (nI (6 * T) + 4).toNatClampNeg).toInt64) 32) hx hb dL_law_679 rfl ?_
  refine lv_aload_n hx hb dL_law_680 rfl (lv_at hl 1 rfl) ?_
  refine lv_iload hx hb dL_law_681 (lv_at hl 0 rfl) ?_
  refine lv_iconst (v := 5) hx hb dL_law_683 (by decide) ?_
  refine lv_iadd hx hb dL_law_684 ?_
  refine va_sld hx hb hX hbl hbA hS (in_k (k := 5) hTL (by decide) hL2) dL_law_685 ?_
  refine lv_i2l hx hb dL_law_686 rfl ?_
  refine lv_ldc2 (v := 4294967295) hx hb G.2.2.2.1 (G.2.2.2.2 _ qw4_165) dL_law_687 ?_
  refine lv_land hx hb dL_law_690 ?_
  refine lv_lor hx hb dL_law_691 ?_
  refine lv_aload_n hx hb dL_law_692 rfl (lv_at hl 4 rfl) ?_
  obtain ⟨t1, bv, M1, ⟨S, I1, N1, ov1, hH, hval, hI1⟩, k5, hk5, hq⟩ := pr_limits l D x xa oa ov I N M T hlt hI hT (xs (nI (6 * T) + 1).toNatClampNeg) ((jshl ((xs (nI (6 * T) + 2).toNatClampNeg).toInt64) 32) ||| (((xs (nI (6 * T) + 3).toNatClampNeg).toInt64) &&& 4294967295)) ((jshl ((xs (nI (6 * T) + 4).toNatClampNeg).toInt64) 32) ||| (((xs (nI (6 * T) + 5).toNatClampNeg).toInt64) &&& 4294967295))
  refine kH (rest := []) (wr := wM D r ma t M) G hH okH_limits hgf hz hP hD hS hA (ixB (wM D r ma t M) (WS D x xa oa ov I N M)) (List.range 15) (ix_nd _ _) (ix_r _ _) (ix_l _ _) (va_nd_range _) (ix_dis2 (wM D r ma t M) (WS D x xa oa ov I N M)) qw3_120 ⟨Nat.le_of_ble_eq_true rfl, Nat.le_of_ble_eq_true rfl⟩ ⟨hc1, hc2⟩ hl.1 (Nat.le_of_ble_eq_true rfl) rfl dL_law_693 (fun u H locs hP hD hS => ?_)
  refine lv_istore (lv' := [(5, .int t1), (4, .int (nI (6 * T))), (0, .ref b), (1, .ref x), (2, .ref r), (3, .ref oa)]) hx hb dL_law_696 hl (by decide) rfl (fun ls hl => ?_)
  refine lv_aload_n hx hb dL_law_698 rfl (lv_at hl 4 rfl) ?_
  refine lv_aload_n hx hb dL_law_699 rfl (lv_at hl 2 rfl) ?_
  refine lv_iload hx hb dL_law_700 (lv_at hl 1 rfl) ?_
  refine lv_iconst (v := 1) hx hb dL_law_702 (by decide) ?_
  refine lv_iadd hx hb dL_law_703 ?_
  refine va_sld hx hb hX hbl hbA hS (in_k (k := 1) hTL (by decide) hL2) dL_law_704 ?_
  refine lv_aload_n hx hb dL_law_705 rfl (lv_at hl 2 rfl) ?_
  refine lv_iload hx hb dL_law_706 (lv_at hl 1 rfl) ?_
  refine lv_iconst (v := 2) hx hb dL_law_708 (by decide) ?_
  refine lv_iadd hx hb dL_law_709 ?_
  refine va_sld hx hb hX hbl hbA hS (in_k (k := 2) hTL (by decide) hL2) dL_law_710 ?_
  refine lv_i2l hx hb dL_law_711 rfl ?_
  refine lv_bipush (v := 32) hx hb dL_law_712 (by decide) ?_
  refine lv_lshl (v := jshl ((xs (nI (6 * T) + 2).toNatClampNeg).toInt64) 32) hx hb dL_law_714 rfl ?_
  refine lv_aload_n hx hb dL_law_715 rfl (lv_at hl 2 rfl) ?_
  refine lv_iload hx hb dL_law_716 (lv_at hl 1 rfl) ?_
  refine lv_iconst (v := 3) hx hb dL_law_718 (by decide) ?_
  refine lv_iadd hx hb dL_law_719 ?_
  refine va_sld hx hb hX hbl hbA hS (in_k (k := 3) hTL (by decide) hL2) dL_law_720 ?_
  refine lv_i2l hx hb dL_law_721 rfl ?_
  refine lv_ldc2 (v := 4294967295) hx hb G.2.2.2.1 (G.2.2.2.2 _ qw4_165) dL_law_722 ?_
  refine lv_land hx hb dL_law_725 ?_
  refine lv_lor hx hb dL_law_726 ?_
  refine lv_aload_n hx hb dL_law_727 rfl (lv_at hl 2 rfl) ?_
  refine lv_iload hx hb dL_law_728 (lv_at hl 1 rfl) ?_
  refine lv_iconst (v := 4) hx hb dL_law_730 (by decide) ?_
  refine lv_iadd hx hb dL_law_731 ?_
  refine va_sld hx hb hX hbl hbA hS (in_k (k := 4) hTL (by decide) hL2) dL_law_732 ?_
  refine lv_i2l hx hb dL_law_733 rfl ?_
  refine lv_bipush (v := 32) hx hb dL_law_734 (by decide) ?_
  refine lv_lshl (v := jshl ((xs (nI (6 * T) + 4).toNatClampNeg).toInt64) 32) hx hb dL_law_736 rfl ?_
  refine lv_aload_n hx hb dL_law_737 rfl (lv_at hl 2 rfl) ?_
  refine lv_iload hx hb dL_law_738 (lv_at hl 1 rfl) ?_
  refine lv_iconst (v := 5) hx hb dL_law_740 (by decide) ?_
  refine lv_iadd hx hb dL_law_741 ?_
  refine va_sld hx hb hX hbl hbA hS (in_k (k := 5) hTL (by decide) hL2) dL_law_742 ?_
  refine lv_i2l hx hb dL_law_743 rfl ?_
  refine lv_ldc2 (v := 4294967295) hx hb G.2.2.2.1 (G.2.2.2.2 _ qw4_165) dL_law_744 ?_
  refine lv_land hx hb dL_law_747 ?_
  refine lv_lor hx hb dL_law_748 ?_
  refine kQ (C := RX5) (rest := []) (wr := WS D x xa oa ov1 (I1 u) N1 M1) G (hq r ma t) okX5_limits hgf hP hD hS hA (List.range 15) (ixB (wM D r ma t M) (WS D x xa oa ov1 (I1 u) N1 M1)) (va_nd_range _) (ix_l _ _) (ix_r _ _) (ix_nd _ _) (ix_dis (wM D r ma t M) (WS D x xa oa ov1 (I1 u) N1 M1)) (mw_recv hgf (hP 0 _ rfl) rfl) qw4_47 ⟨by show k5 + 1 ≤ 11; omega, by show 8 + (7 + 11) + 42 * k5 ≤ 422; omega⟩ ⟨by show cells + 6 + 0 ≤ 601024; omega, by show slots + 60 + 0 ≤ 7293034; omega⟩ hl.1 (Nat.le_of_ble_eq_true rfl) rfl dL_law_749 (fun H locs hP hD hS => ?_)
  have hP := hP.flip
  have hD := hD.flip
  refine lv_istore (lv' := [(6, .int bv), (5, .int t1), (4, .int (nI (6 * T))), (0, .ref b), (1, .ref x), (2, .ref r), (3, .ref oa)]) hx hb dL_law_752 hl (by decide) rfl (fun ls hl => ?_)
  refine lv_aload_n hx hb dL_law_754 rfl (lv_at hl 5 rfl) ?_
  refine kV (C := RX5) (rest := []) G (cvX5_thrown l D r ma t1 M1) okX5_thrown hgf hP.left (mw_recv hgf (hP 0 _ rfl) rfl) qw3_220 ⟨Nat.le_of_ble_eq_true rfl, Nat.le_of_ble_eq_true rfl⟩ ⟨by show cells + 6 ≤ 601024; omega, by show slots + 60 ≤ 7293034; omega⟩ hl.1 (Nat.le_of_ble_eq_true rfl) rfl dL_law_755 ?_
  refine lv_iload hx hb dL_law_758 (lv_at hl 1 rfl) ?_
  refine lv_icmp_eq (tgt := 765) hx hb dL_law_760 (by decide) (fun _ => ?_) (fun h9 => absurd rfl h9)
  refine lv_iload hx hb dL_law_765 (lv_at hl 1 rfl) ?_
  refine lv_if_ne (tgt := 789) hx hb dL_law_767 (by decide) (fun h0 => ?_) (fun h0 => ?_)
  · skip
    refine lv_goto (tgt := 984) hx hb dL_law_789 (by decide) ?_
    exact kk ov1 (I1 u) N1 M1 t1 _ _ _ trivial hI1 hP hD hS (lv_sub hl [2, 3, 4, 5, 6] rfl)
  · skip
    refine lv_aload_n hx hb dL_law_770 rfl (lv_at hl 6 rfl) ?_
    refine lv_iconst (v := 0) hx hb dL_law_771 (by decide) ?_
    refine mw_lald (f := ov1) G hgf (hP 17 _ rfl) in01 dL_law_772 ?_
    rw [show ov1 (Int32.toNatClampNeg 0) = (if bv = 0 then 0 else 1) from hval h0]
    refine lv_iload hx hb dL_law_773 (lv_at hl 0 rfl) ?_
    refine lv_if_eq (tgt := 782) hx hb dL_law_775 (by decide) (fun h7 => ?_) (fun h7 => ?_)
    · rw [if_pos h7]
      refine lv_lconst (v := 0) hx hb dL_law_782 (by decide) ?_
      refine mw_leq (tgt := 789) hx hb dL_law_783 dL_law_784 (by decide) (fun _ => ?_) (fun h9 => absurd rfl h9)
      refine lv_goto (tgt := 984) hx hb dL_law_789 (by decide) ?_
      exact kk ov1 (I1 u) N1 M1 t1 _ _ _ trivial hI1 hP hD hS (lv_sub hl [2, 3, 4, 5, 6] rfl)
    · rw [if_neg h7]
      refine lv_lconst (v := 1) hx hb dL_law_778 (by decide) ?_
      refine lv_goto (tgt := 783) hx hb dL_law_779 (by decide) ?_
      refine mw_leq (tgt := 789) hx hb dL_law_783 dL_law_784 (by decide) (fun _ => ?_) (fun h9 => absurd rfl h9)
      refine lv_goto (tgt := 984) hx hb dL_law_789 (by decide) ?_
      exact kk ov1 (I1 u) N1 M1 t1 _ _ _ trivial hI1 hP hD hS (lv_sub hl [2, 3, 4, 5, 6] rfl)
set_option maxRecDepth 100000 in
set_option maxHeartbeats 4000000 in
theorem lw_c_widest (C : LC p s m c b L xs D) (hlt : l.stackTraces = false) (hI : Inv M N T) (hT : T < 512) (hTL : 6 * T + 6 ≤ L) (hL2 : L ≤ 3072) (hc1 : cells + 6 ≤ 601024) (hc2 : slots + 60 ≤ 7293034) (hP : va_P D.1 vwCl (wM D r ma t M ++ WS D x xa oa ov I N M) H) (hD : va_D (LA s) (wM D r ma t M ++ WS D x xa oa ov I N M)) (hS : va_S (LA s) s.heap H locs) (hl : lv_has ls 8 [(4, .int (nI (6 * T))), (0, .ref b), (1, .ref x), (2, .ref r), (3, .ref oa)]) (kk : ∀ (ov : Nat → Int64) (I : Nat → Nat → Nat) (N : Nat) (M : MSt) (t : Int32) (H : Heap) (locs : List Loc) (ls : Array Slot), True → Inv M N (T + 1) → va_P D.1 vwCl (wM D r ma t M ++ WS D x xa oa ov I N M) H → va_D (LA s) (wM D r ma t M ++ WS D x xa oa ov I N M) → va_S (LA s) s.heap H locs → lv_has ls 8 [(4, .int (nI (6 * T))), (0, .ref b), (1, .ref x), (2, .ref r), (3, .ref oa)] → W p l e room_1 s m #[Value.ref b] below meth c H locs (cells + 6) (slots + 60) Q (F0 m 984 ls [])) : W p l e room_1 s m #[Value.ref b] below meth c H locs cells slots Q (F0 m 792 ls []) := by
  obtain ⟨hx, hb, G, hgf, hz, hX, hbl⟩ := C
  have hA : ∀ q : Nat, s.heap.size ≤ q → LA s q := fun _ h => h
  have hbA : ¬ LA s b := Nat.not_le.mpr hbl
  refine lv_aload_n hx hb dL_law_792 rfl (lv_at hl 2 rfl) ?_
  refine lv_aload_n hx hb dL_law_793 rfl (lv_at hl 1 rfl) ?_
  refine lv_iload hx hb dL_law_794 (lv_at hl 0 rfl) ?_
  refine lv_iconst (v := 1) hx hb dL_law_796 (by decide) ?_
  refine lv_iadd hx hb dL_law_797 ?_
  refine va_sld hx hb hX hbl hbA hS (in_k (k := 1) hTL (by decide) hL2) dL_law_798 ?_
  refine lv_aload_n hx hb dL_law_799 rfl (lv_at hl 4 rfl) ?_
  obtain ⟨t1, bv, M1, ⟨S, I1, N1, ov1, hH, hval, hI1⟩, k5, hk5, hq⟩ := pr_widest l D x xa oa ov I N M T hlt hI hT (xs (nI (6 * T) + 1).toNatClampNeg)
  refine kH (rest := []) (wr := wM D r ma t M) G hH okH_widest hgf hz hP hD hS hA (ixB (wM D r ma t M) (WS D x xa oa ov I N M)) (List.range 15) (ix_nd _ _) (ix_r _ _) (ix_l _ _) (va_nd_range _) (ix_dis2 (wM D r ma t M) (WS D x xa oa ov I N M)) qw3_129 ⟨Nat.le_of_ble_eq_true rfl, Nat.le_of_ble_eq_true rfl⟩ ⟨hc1, hc2⟩ hl.1 (Nat.le_of_ble_eq_true rfl) rfl dL_law_800 (fun u H locs hP hD hS => ?_)
  refine lv_istore (lv' := [(5, .int t1), (4, .int (nI (6 * T))), (0, .ref b), (1, .ref x), (2, .ref r), (3, .ref oa)]) hx hb dL_law_803 hl (by decide) rfl (fun ls hl => ?_)
  refine lv_aload_n hx hb dL_law_805 rfl (lv_at hl 4 rfl) ?_
  refine lv_aload_n hx hb dL_law_806 rfl (lv_at hl 2 rfl) ?_
  refine lv_iload hx hb dL_law_807 (lv_at hl 1 rfl) ?_
  refine lv_iconst (v := 1) hx hb dL_law_809 (by decide) ?_
  refine lv_iadd hx hb dL_law_810 ?_
  refine va_sld hx hb hX hbl hbA hS (in_k (k := 1) hTL (by decide) hL2) dL_law_811 ?_
  refine kQ (C := RX5) (rest := []) (wr := WS D x xa oa ov1 (I1 u) N1 M1) G (hq r ma t) okX5_widest hgf hP hD hS hA (List.range 15) (ixB (wM D r ma t M) (WS D x xa oa ov1 (I1 u) N1 M1)) (va_nd_range _) (ix_l _ _) (ix_r _ _) (ix_nd _ _) (ix_dis (wM D r ma t M) (WS D x xa oa ov1 (I1 u) N1 M1)) (mw_recv hgf (hP 0 _ rfl) rfl) qw4_153 ⟨by show k5 + 1 ≤ 11; omega, by show 8 + (6 + 11) + 42 * k5 ≤ 422; omega⟩ ⟨by show cells + 6 + 0 ≤ 601024; omega, by show slots + 60 + 0 ≤ 7293034; omega⟩ hl.1 (Nat.le_of_ble_eq_true rfl) rfl dL_law_812 (fun H locs hP hD hS => ?_)
  have hP := hP.flip
  have hD := hD.flip
  refine lv_lstore (lv' := [(6, .long bv), (5, .int t1), (4, .int (nI (6 * T))), (0, .ref b), (1, .ref x), (2, .ref r), (3, .ref oa)]) hx hb dL_law_815 hl (by decide) rfl (fun ls hl => ?_)
  refine lv_aload_n hx hb dL_law_817 rfl (lv_at hl 5 rfl) ?_
  refine kV (C := RX5) (rest := []) G (cvX5_thrown l D r ma t1 M1) okX5_thrown hgf hP.left (mw_recv hgf (hP 0 _ rfl) rfl) qw3_220 ⟨Nat.le_of_ble_eq_true rfl, Nat.le_of_ble_eq_true rfl⟩ ⟨by show cells + 6 ≤ 601024; omega, by show slots + 60 ≤ 7293034; omega⟩ hl.1 (Nat.le_of_ble_eq_true rfl) rfl dL_law_818 ?_
  refine lv_iload hx hb dL_law_821 (lv_at hl 1 rfl) ?_
  refine lv_icmp_eq (tgt := 828) hx hb dL_law_823 (by decide) (fun _ => ?_) (fun h9 => absurd rfl h9)
  refine lv_iload hx hb dL_law_828 (lv_at hl 1 rfl) ?_
  refine lv_if_ne (tgt := 844) hx hb dL_law_830 (by decide) (fun h0 => ?_) (fun h0 => ?_)
  · skip
    refine lv_goto (tgt := 984) hx hb dL_law_844 (by decide) ?_
    exact kk ov1 (I1 u) N1 M1 t1 _ _ _ trivial hI1 hP hD hS (lv_sub hl [2, 3, 4, 5, 6] rfl)
  · skip
    refine lv_aload_n hx hb dL_law_833 rfl (lv_at hl 6 rfl) ?_
    refine lv_iconst (v := 0) hx hb dL_law_834 (by decide) ?_
    refine mw_lald (f := ov1) G hgf (hP 17 _ rfl) in01 dL_law_835 ?_
    rw [show ov1 (Int32.toNatClampNeg 0) = bv from hval h0]
    refine lv_lload hx hb dL_law_836 (lv_at hl 0 rfl) ?_
    refine mw_leq (tgt := 844) hx hb dL_law_838 dL_law_839 (by decide) (fun _ => ?_) (fun h9 => absurd rfl h9)
    refine lv_goto (tgt := 984) hx hb dL_law_844 (by decide) ?_
    exact kk ov1 (I1 u) N1 M1 t1 _ _ _ trivial hI1 hP hD hS (lv_sub hl [2, 3, 4, 5, 6] rfl)
set_option maxRecDepth 100000 in
set_option maxHeartbeats 4000000 in
theorem lw_c_forget (C : LC p s m c b L xs D) (hlt : l.stackTraces = false) (hI : Inv M N T) (hT : T < 512) (hTL : 6 * T + 6 ≤ L) (hL2 : L ≤ 3072) (hc1 : cells + 6 ≤ 601024) (hc2 : slots + 60 ≤ 7293034) (hP : va_P D.1 vwCl (wM D r ma t M ++ WS D x xa oa ov I N M) H) (hD : va_D (LA s) (wM D r ma t M ++ WS D x xa oa ov I N M)) (hS : va_S (LA s) s.heap H locs) (hl : lv_has ls 8 [(4, .int (nI (6 * T))), (0, .ref b), (1, .ref x), (2, .ref r), (3, .ref oa)]) (kk : ∀ (ov : Nat → Int64) (I : Nat → Nat → Nat) (N : Nat) (M : MSt) (t : Int32) (H : Heap) (locs : List Loc) (ls : Array Slot), True → Inv M N (T + 1) → va_P D.1 vwCl (wM D r ma t M ++ WS D x xa oa ov I N M) H → va_D (LA s) (wM D r ma t M ++ WS D x xa oa ov I N M) → va_S (LA s) s.heap H locs → lv_has ls 8 [(4, .int (nI (6 * T))), (0, .ref b), (1, .ref x), (2, .ref r), (3, .ref oa)] → W p l e room_1 s m #[Value.ref b] below meth c H locs (cells + 6) (slots + 60) Q (F0 m 984 ls [])) : W p l e room_1 s m #[Value.ref b] below meth c H locs cells slots Q (F0 m 847 ls []) := by
  obtain ⟨hx, hb, G, hgf, hz, hX, hbl⟩ := C
  have hA : ∀ q : Nat, s.heap.size ≤ q → LA s q := fun _ h => h
  have hbA : ¬ LA s b := Nat.not_le.mpr hbl
  refine lv_aload_n hx hb dL_law_847 rfl (lv_at hl 2 rfl) ?_
  refine lv_aload_n hx hb dL_law_848 rfl (lv_at hl 1 rfl) ?_
  refine lv_iload hx hb dL_law_849 (lv_at hl 0 rfl) ?_
  refine lv_iconst (v := 1) hx hb dL_law_851 (by decide) ?_
  refine lv_iadd hx hb dL_law_852 ?_
  refine va_sld hx hb hX hbl hbA hS (in_k (k := 1) hTL (by decide) hL2) dL_law_853 ?_
  refine lv_aload_n hx hb dL_law_854 rfl (lv_at hl 4 rfl) ?_
  obtain ⟨t1, bv, M1, ⟨S, I1, N1, ov1, hH, hval, hI1⟩, k5, hk5, hq⟩ := pr_forget l D x xa oa ov I N M T hlt hI hT (xs (nI (6 * T) + 1).toNatClampNeg)
  refine kH (rest := []) (wr := wM D r ma t M) G hH okH_forget hgf hz hP hD hS hA (ixB (wM D r ma t M) (WS D x xa oa ov I N M)) (List.range 15) (ix_nd _ _) (ix_r _ _) (ix_l _ _) (va_nd_range _) (ix_dis2 (wM D r ma t M) (WS D x xa oa ov I N M)) qw3_138 ⟨Nat.le_of_ble_eq_true rfl, Nat.le_of_ble_eq_true rfl⟩ ⟨hc1, hc2⟩ hl.1 (Nat.le_of_ble_eq_true rfl) rfl dL_law_855 (fun u H locs hP hD hS => ?_)
  refine lv_istore (lv' := [(5, .int t1), (4, .int (nI (6 * T))), (0, .ref b), (1, .ref x), (2, .ref r), (3, .ref oa)]) hx hb dL_law_858 hl (by decide) rfl (fun ls hl => ?_)
  refine lv_aload_n hx hb dL_law_860 rfl (lv_at hl 4 rfl) ?_
  refine lv_aload_n hx hb dL_law_861 rfl (lv_at hl 2 rfl) ?_
  refine lv_iload hx hb dL_law_862 (lv_at hl 1 rfl) ?_
  refine lv_iconst (v := 1) hx hb dL_law_864 (by decide) ?_
  refine lv_iadd hx hb dL_law_865 ?_
  refine va_sld hx hb hX hbl hbA hS (in_k (k := 1) hTL (by decide) hL2) dL_law_866 ?_
  refine kQ (C := RX5) (rest := []) (wr := WS D x xa oa ov1 (I1 u) N1 M1) G (hq r ma t) okX5_forget hgf hP hD hS hA (List.range 15) (ixB (wM D r ma t M) (WS D x xa oa ov1 (I1 u) N1 M1)) (va_nd_range _) (ix_l _ _) (ix_r _ _) (ix_nd _ _) (ix_dis (wM D r ma t M) (WS D x xa oa ov1 (I1 u) N1 M1)) (mw_recv hgf (hP 0 _ rfl) rfl) qw4_137 ⟨by show k5 + 1 ≤ 11; omega, by show 8 + (3 + 11) + 42 * k5 ≤ 422; omega⟩ ⟨by show cells + 6 + 0 ≤ 601024; omega, by show slots + 60 + 0 ≤ 7293034; omega⟩ hl.1 (Nat.le_of_ble_eq_true rfl) rfl dL_law_867 (fun H locs hP hD hS => ?_)
  have hP := hP.flip
  have hD := hD.flip
  refine lv_istore (lv' := [(6, .int bv), (5, .int t1), (4, .int (nI (6 * T))), (0, .ref b), (1, .ref x), (2, .ref r), (3, .ref oa)]) hx hb dL_law_870 hl (by decide) rfl (fun ls hl => ?_)
  refine lv_aload_n hx hb dL_law_872 rfl (lv_at hl 5 rfl) ?_
  refine kV (C := RX5) (rest := []) G (cvX5_thrown l D r ma t1 M1) okX5_thrown hgf hP.left (mw_recv hgf (hP 0 _ rfl) rfl) qw3_220 ⟨Nat.le_of_ble_eq_true rfl, Nat.le_of_ble_eq_true rfl⟩ ⟨by show cells + 6 ≤ 601024; omega, by show slots + 60 ≤ 7293034; omega⟩ hl.1 (Nat.le_of_ble_eq_true rfl) rfl dL_law_873 ?_
  refine lv_iload hx hb dL_law_876 (lv_at hl 1 rfl) ?_
  refine lv_icmp_eq (tgt := 883) hx hb dL_law_878 (by decide) (fun _ => ?_) (fun h9 => absurd rfl h9)
  refine lv_iload hx hb dL_law_883 (lv_at hl 1 rfl) ?_
  refine lv_if_ne (tgt := 900) hx hb dL_law_885 (by decide) (fun h0 => ?_) (fun h0 => ?_)
  · skip
    refine lv_goto (tgt := 984) hx hb dL_law_900 (by decide) ?_
    exact kk ov1 (I1 u) N1 M1 t1 _ _ _ trivial hI1 hP hD hS (lv_sub hl [2, 3, 4, 5, 6] rfl)
  · skip
    refine lv_aload_n hx hb dL_law_888 rfl (lv_at hl 6 rfl) ?_
    refine lv_iconst (v := 0) hx hb dL_law_889 (by decide) ?_
    refine mw_lald (f := ov1) G hgf (hP 17 _ rfl) in01 dL_law_890 ?_
    rw [show ov1 (Int32.toNatClampNeg 0) = bv.toInt64 from hval h0]
    refine lv_iload hx hb dL_law_891 (lv_at hl 0 rfl) ?_
    refine lv_i2l hx hb dL_law_893 rfl ?_
    refine mw_leq (tgt := 900) hx hb dL_law_894 dL_law_895 (by decide) (fun _ => ?_) (fun h9 => absurd rfl h9)
    refine lv_goto (tgt := 984) hx hb dL_law_900 (by decide) ?_
    exact kk ov1 (I1 u) N1 M1 t1 _ _ _ trivial hI1 hP hD hS (lv_sub hl [2, 3, 4, 5, 6] rfl)
set_option maxRecDepth 100000 in
set_option maxHeartbeats 4000000 in
theorem lw_c_alarms (C : LC p s m c b L xs D) (hlt : l.stackTraces = false) (hI : Inv M N T) (hT : T < 512) (hTL : 6 * T + 6 ≤ L) (hL2 : L ≤ 3072) (hc1 : cells + 6 ≤ 601024) (hc2 : slots + 60 ≤ 7293034) (hP : va_P D.1 vwCl (wM D r ma t M ++ WS D x xa oa ov I N M) H) (hD : va_D (LA s) (wM D r ma t M ++ WS D x xa oa ov I N M)) (hS : va_S (LA s) s.heap H locs) (hl : lv_has ls 8 [(4, .int (nI (6 * T))), (0, .ref b), (1, .ref x), (2, .ref r), (3, .ref oa)]) (kk : ∀ (ov : Nat → Int64) (I : Nat → Nat → Nat) (N : Nat) (M : MSt) (t : Int32) (H : Heap) (locs : List Loc) (ls : Array Slot), True → Inv M N (T + 1) → va_P D.1 vwCl (wM D r ma t M ++ WS D x xa oa ov I N M) H → va_D (LA s) (wM D r ma t M ++ WS D x xa oa ov I N M) → va_S (LA s) s.heap H locs → lv_has ls 8 [(4, .int (nI (6 * T))), (0, .ref b), (1, .ref x), (2, .ref r), (3, .ref oa)] → W p l e room_1 s m #[Value.ref b] below meth c H locs (cells + 6) (slots + 60) Q (F0 m 984 ls [])) : W p l e room_1 s m #[Value.ref b] below meth c H locs cells slots Q (F0 m 903 ls []) := by
  obtain ⟨hx, hb, G, hgf, hz, hX, hbl⟩ := C
  have hA : ∀ q : Nat, s.heap.size ≤ q → LA s q := fun _ h => h
  have hbA : ¬ LA s b := Nat.not_le.mpr hbl
  refine lv_aload_n hx hb dL_law_903 rfl (lv_at hl 2 rfl) ?_
  refine lv_aload_n hx hb dL_law_904 rfl (lv_at hl 1 rfl) ?_
  refine lv_iload hx hb dL_law_905 (lv_at hl 0 rfl) ?_
  refine lv_iconst (v := 1) hx hb dL_law_907 (by decide) ?_
  refine lv_iadd hx hb dL_law_908 ?_
  refine va_sld hx hb hX hbl hbA hS (in_k (k := 1) hTL (by decide) hL2) dL_law_909 ?_
  refine lv_aload_n hx hb dL_law_910 rfl (lv_at hl 4 rfl) ?_
  obtain ⟨t1, bv, M1, ⟨S, I1, N1, ov1, hH, hval, hI1⟩, k5, hk5, hq⟩ := pr_alarms l D x xa oa ov I N M T hlt hI hT (xs (nI (6 * T) + 1).toNatClampNeg)
  refine kH (rest := []) (wr := wM D r ma t M) G hH okH_alarms hgf hz hP hD hS hA (ixB (wM D r ma t M) (WS D x xa oa ov I N M)) (List.range 15) (ix_nd _ _) (ix_r _ _) (ix_l _ _) (va_nd_range _) (ix_dis2 (wM D r ma t M) (WS D x xa oa ov I N M)) qw3_149 ⟨Nat.le_of_ble_eq_true rfl, Nat.le_of_ble_eq_true rfl⟩ ⟨hc1, hc2⟩ hl.1 (Nat.le_of_ble_eq_true rfl) rfl dL_law_911 (fun u H locs hP hD hS => ?_)
  refine lv_istore (lv' := [(5, .int t1), (4, .int (nI (6 * T))), (0, .ref b), (1, .ref x), (2, .ref r), (3, .ref oa)]) hx hb dL_law_914 hl (by decide) rfl (fun ls hl => ?_)
  refine lv_aload_n hx hb dL_law_916 rfl (lv_at hl 4 rfl) ?_
  refine lv_aload_n hx hb dL_law_917 rfl (lv_at hl 2 rfl) ?_
  refine lv_iload hx hb dL_law_918 (lv_at hl 1 rfl) ?_
  refine lv_iconst (v := 1) hx hb dL_law_920 (by decide) ?_
  refine lv_iadd hx hb dL_law_921 ?_
  refine va_sld hx hb hX hbl hbA hS (in_k (k := 1) hTL (by decide) hL2) dL_law_922 ?_
  refine kQ (C := RX5) (rest := []) (wr := WS D x xa oa ov1 (I1 u) N1 M1) G (hq r ma t) okX5_alarms hgf hP hD hS hA (List.range 15) (ixB (wM D r ma t M) (WS D x xa oa ov1 (I1 u) N1 M1)) (va_nd_range _) (ix_l _ _) (ix_r _ _) (ix_nd _ _) (ix_dis (wM D r ma t M) (WS D x xa oa ov1 (I1 u) N1 M1)) (mw_recv hgf (hP 0 _ rfl) rfl) qw4_157 ⟨by show k5 + 1 ≤ 11; omega, by show 8 + (2 + 11) + 42 * k5 ≤ 422; omega⟩ ⟨by show cells + 6 + 0 ≤ 601024; omega, by show slots + 60 + 0 ≤ 7293034; omega⟩ hl.1 (Nat.le_of_ble_eq_true rfl) rfl dL_law_923 (fun H locs hP hD hS => ?_)
  have hP := hP.flip
  have hD := hD.flip
  refine lv_istore (lv' := [(6, .int bv), (5, .int t1), (4, .int (nI (6 * T))), (0, .ref b), (1, .ref x), (2, .ref r), (3, .ref oa)]) hx hb dL_law_926 hl (by decide) rfl (fun ls hl => ?_)
  refine lv_aload_n hx hb dL_law_928 rfl (lv_at hl 5 rfl) ?_
  refine kV (C := RX5) (rest := []) G (cvX5_thrown l D r ma t1 M1) okX5_thrown hgf hP.left (mw_recv hgf (hP 0 _ rfl) rfl) qw3_220 ⟨Nat.le_of_ble_eq_true rfl, Nat.le_of_ble_eq_true rfl⟩ ⟨by show cells + 6 ≤ 601024; omega, by show slots + 60 ≤ 7293034; omega⟩ hl.1 (Nat.le_of_ble_eq_true rfl) rfl dL_law_929 ?_
  refine lv_iload hx hb dL_law_932 (lv_at hl 1 rfl) ?_
  refine lv_icmp_eq (tgt := 939) hx hb dL_law_934 (by decide) (fun _ => ?_) (fun h9 => absurd rfl h9)
  refine lv_iload hx hb dL_law_939 (lv_at hl 1 rfl) ?_
  refine lv_if_ne (tgt := 956) hx hb dL_law_941 (by decide) (fun h0 => ?_) (fun h0 => ?_)
  · skip
    refine lv_goto (tgt := 984) hx hb dL_law_956 (by decide) ?_
    exact kk ov1 (I1 u) N1 M1 t1 _ _ _ trivial hI1 hP hD hS (lv_sub hl [2, 3, 4, 5, 6] rfl)
  · skip
    refine lv_aload_n hx hb dL_law_944 rfl (lv_at hl 6 rfl) ?_
    refine lv_iconst (v := 0) hx hb dL_law_945 (by decide) ?_
    refine mw_lald (f := ov1) G hgf (hP 17 _ rfl) in01 dL_law_946 ?_
    rw [show ov1 (Int32.toNatClampNeg 0) = bv.toInt64 from hval h0]
    refine lv_iload hx hb dL_law_947 (lv_at hl 0 rfl) ?_
    refine lv_i2l hx hb dL_law_949 rfl ?_
    refine mw_leq (tgt := 956) hx hb dL_law_950 dL_law_951 (by decide) (fun _ => ?_) (fun h9 => absurd rfl h9)
    refine lv_goto (tgt := 984) hx hb dL_law_956 (by decide) ?_
    exact kk ov1 (I1 u) N1 M1 t1 _ _ _ trivial hI1 hP hD hS (lv_sub hl [2, 3, 4, 5, 6] rfl)
set_option maxRecDepth 100000 in
set_option maxHeartbeats 4000000 in
theorem lw_c_count (C : LC p s m c b L xs D) (hlt : l.stackTraces = false) (hI : Inv M N T) (hT : T < 512) (hTL : 6 * T + 6 ≤ L) (hL2 : L ≤ 3072) (hc1 : cells + 6 ≤ 601024) (hc2 : slots + 60 ≤ 7293034) (hP : va_P D.1 vwCl (wM D r ma t M ++ WS D x xa oa ov I N M) H) (hD : va_D (LA s) (wM D r ma t M ++ WS D x xa oa ov I N M)) (hS : va_S (LA s) s.heap H locs) (hl : lv_has ls 8 [(4, .int (nI (6 * T))), (0, .ref b), (1, .ref x), (2, .ref r), (3, .ref oa)]) (kk : ∀ (ov : Nat → Int64) (I : Nat → Nat → Nat) (N : Nat) (M : MSt) (t : Int32) (H : Heap) (locs : List Loc) (ls : Array Slot), True → Inv M N (T + 1) → va_P D.1 vwCl (wM D r ma t M ++ WS D x xa oa ov I N M) H → va_D (LA s) (wM D r ma t M ++ WS D x xa oa ov I N M) → va_S (LA s) s.heap H locs → lv_has ls 8 [(4, .int (nI (6 * T))), (0, .ref b), (1, .ref x), (2, .ref r), (3, .ref oa)] → W p l e room_1 s m #[Value.ref b] below meth c H locs (cells + 6) (slots + 60) Q (F0 m 984 ls [])) : W p l e room_1 s m #[Value.ref b] below meth c H locs cells slots Q (F0 m 959 ls []) := by
  obtain ⟨hx, hb, G, hgf, hz, hX, hbl⟩ := C
  have hA : ∀ q : Nat, s.heap.size ≤ q → LA s q := fun _ h => h
  have hbA : ¬ LA s b := Nat.not_le.mpr hbl
  refine lv_aload_n hx hb dL_law_959 rfl (lv_at hl 2 rfl) ?_
  refine lv_aload_n hx hb dL_law_960 rfl (lv_at hl 1 rfl) ?_
  refine lv_iload hx hb dL_law_961 (lv_at hl 0 rfl) ?_
  refine lv_iconst (v := 1) hx hb dL_law_963 (by decide) ?_
  refine lv_iadd hx hb dL_law_964 ?_
  refine va_sld hx hb hX hbl hbA hS (in_k (k := 1) hTL (by decide) hL2) dL_law_965 ?_
  refine kV (C := RX4) (rest := []) G (cv_count l D x xa (M.1 14 0) (M.1 14 1) (M.1 14 2) (M.1 14 3) (mIA I N) (xs (nI (6 * T) + 1).toNatClampNeg)) okX4_count hgf (WS_sub0 hP.right) (mw_recv hgf (hP 15 _ rfl) rfl) qw1_45 ⟨Nat.le_of_ble_eq_true rfl, Nat.le_of_ble_eq_true rfl⟩ ⟨by show cells ≤ 601024; omega, by show slots ≤ 7293034; omega⟩ hl.1 (Nat.le_of_ble_eq_true rfl) rfl dL_law_966 ?_
  refine lv_aload_n hx hb dL_law_969 rfl (lv_at hl 3 rfl) ?_
  refine lv_aload_n hx hb dL_law_970 rfl (lv_at hl 1 rfl) ?_
  refine lv_iload hx hb dL_law_971 (lv_at hl 0 rfl) ?_
  refine lv_iconst (v := 1) hx hb dL_law_973 (by decide) ?_
  refine lv_iadd hx hb dL_law_974 ?_
  refine va_sld hx hb hX hbl hbA hS (in_k (k := 1) hTL (by decide) hL2) dL_law_975 ?_
  have hq := cqX5_count l D r ma t M (xs (nI (6 * T) + 1).toNatClampNeg)
  rw [hc_eq] at hq
  refine kQ (C := RX5) (rest := [.int (cW M (xs (nI (6 * T) + 1).toNatClampNeg))]) (wr := WS D x xa oa ov I N M) G hq okX5_count hgf hP hD hS hA (List.range 15) (ixB (wM D r ma t M) (WS D x xa oa ov I N M)) (va_nd_range _) (ix_l _ _) (ix_r _ _) (ix_nd _ _) (ix_dis (wM D r ma t M) (WS D x xa oa ov I N M)) (mw_recv hgf (hP 0 _ rfl) rfl) qw4_161 ⟨Nat.le_of_ble_eq_true rfl, Nat.le_of_ble_eq_true rfl⟩ ⟨by show cells + 0 ≤ 601024; omega, by show slots + 0 ≤ 7293034; omega⟩ hl.1 (Nat.le_of_ble_eq_true rfl) rfl dL_law_976 (fun H locs hP hD hS => ?_)
  have hP := hP.flip
  have hD := hD.flip
  refine lv_icmp_eq (tgt := 984) hx hb dL_law_979 (by decide) (fun _ => ?_) (fun h9 => absurd rfl h9)
  exact mw_widen (k := cells + 6) (n := slots + 60) (by show cells + 0 ≤ cells + 6; omega) (by show slots + 0 ≤ slots + 60; omega) (kk ov I N M 0 _ _ _ trivial (hI.more hT) hP hD hS (lv_sub hl [0, 1, 2, 3, 4] rfl))
end LAWS
