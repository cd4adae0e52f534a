def fX5_toWhole_s22 (sort : Int32) (v : Int64) (how : Int32) (x_1 : Int32) (x_2 : Int64) (x_3 : Int32) (x_5 : Int32) (x_10 : Int32) (x_12 : Int64) (x_13 : Int64) (x_17 : Int32) (x_22 : Int32) : Int64 := fX5_signed sort (if x_22 = 0 then x_2 - x_13 else (x_2 - x_13) + x_12 : Int64) x_1
def fX5_toWhole_s17 (sort : Int32) (v : Int64) (how : Int32) (x_1 : Int32) (x_2 : Int64) (x_3 : Int32) (x_5 : Int32) (x_10 : Int32) (x_12 : Int64) (x_13 : Int64) (x_17 : Int32) : Int64 := fX5_toWhole_s22 sort v how x_1 x_2 x_3 x_5 x_10 x_12 x_13 x_17 (if how = 5 then (if (x_12 / 2) < x_13 then 1 else (if x_13 = (x_12 / 2) then (if x_17 = 0 then 0 else 1) else 0)) else x_10 : Int32)
def fX5_toWhole_s13 (sort : Int32) (v : Int64) (how : Int32) (x_1 : Int32) (x_2 : Int64) (x_3 : Int32) (x_5 : Int32) (x_10 : Int32) (x_12 : Int64) (x_13 : Int64) : Int64 := if x_13 = 0 then v else fX5_toWhole_s17 sort v how x_1 x_2 x_3 x_5 x_10 x_12 x_13 (if x_5 = 0 then 1 else (if (x_2 &&& x_12) = 0 then 0 else 1) : Int32)
def fX5_toWhole_s12 (sort : Int32) (v : Int64) (how : Int32) (x_1 : Int32) (x_2 : Int64) (x_3 : Int32) (x_5 : Int32) (x_10 : Int32) (x_12 : Int64) : Int64 := fX5_toWhole_s13 sort v how x_1 x_2 x_3 x_5 x_10 x_12 (x_2 &&& (x_12 - 1))
def fX5_toWhole_s27 (sort : Int32) (v : Int64) (how : Int32) (x_1 : Int32) (x_2 : Int64) (x_3 : Int32) (x_5 : Int32) (x_10 : Int32) (x_27 : Int32) : Int64 := fX5_signed sort (if x_27 = 0 then 0 else fX5_one sort : Int64) x_1
def fX5_toWhole_s10 (sort : Int32) (v : Int64) (how : Int32) (x_1 : Int32) (x_2 : Int64) (x_3 : Int32) (x_5 : Int32) (x_10 : Int32) : Int64 := if 0 ≤ x_5 then fX5_toWhole_s12 sort v how x_1 x_2 x_3 x_5 x_10 (jshl 1 (x_3 - x_5)) else fX5_toWhole_s27 sort v how x_1 x_2 x_3 x_5 x_10 (if how = 5 then (if x_5 = (-1) then (if (x_2 &&& ((jshl 1 x_3) - 1)) ≤ 0 then 0 else 1) else 0) else x_10 : Int32)
def fX5_toWhole_s5 (sort : Int32) (v : Int64) (how : Int32) (x_1 : Int32) (x_2 : Int64) (x_3 : Int32) (x_5 : Int32) : Int64 := if x_3 ≤ x_5 then v else (if x_2 = 0 then v else fX5_toWhole_s10 sort v how x_1 x_2 x_3 x_5 (if how = 3 then x_1 else (if x_1 = 0 then 1 else 0) : Int32))
def fX5_toWhole_s3 (sort : Int32) (v : Int64) (how : Int32) (x_1 : Int32) (x_2 : Int64) (x_3 : Int32) : Int64 := fX5_toWhole_s5 sort v how x_1 x_2 x_3 (((jshr x_2 x_3).toInt32) - (if sort = 2 then 127 else 1023 : Int32))
def fX5_toWhole_s2 (sort : Int32) (v : Int64) (how : Int32) (x_1 : Int32) (x_2 : Int64) : Int64 := fX5_toWhole_s3 sort v how x_1 x_2 (fX5_places sort)
def fX5_toWhole_s1 (sort : Int32) (v : Int64) (how : Int32) (x_1 : Int32) : Int64 := fX5_toWhole_s2 sort v how x_1 (fX5_amountBits sort v)
def fX5_toWhole (sort : Int32) (v : Int64) (how : Int32) : Int64 := fX5_toWhole_s1 sort v how (fX5_isMinus sort v)
set_option maxRecDepth 100000 in
set_option maxHeartbeats 4000000 in
theorem cvX5_toWhole (l : Launch) (D : mG) (sort : Int32) (v : Int64) (how : Int32) : cV l D yX5_toWhole cX5_toWhole 16 .long 2 (fun _ => True) [.int sort, .long v, .int how] (.long (fX5_toWhole  sort v how)) := by
  refine cV_of (by decide) (Nat.le_of_ble_eq_true rfl) ?_
  intro p e s m below meth c ls hx hb hr hlocks G hgf hpic hl
  have hl : lv_has ls 16 [(0, .int sort), (1, .long v), (3, .int how)] := hl
  refine lv_iload_n hx hb dX5_toWhole_0 rfl (lv_at hl 0 rfl) ?_
  refine lv_lload_n hx hb dX5_toWhole_1 rfl (lv_at hl 1 rfl) ?_
  refine kS G (cvX5_isMinus l D sort v) okX5_isMinus hgf trivial qw4_60 ⟨Nat.le_of_ble_eq_true rfl, Nat.le_of_ble_eq_true rfl⟩ ⟨Nat.zero_le _, Nat.zero_le _⟩ hl.1 (Nat.le_of_ble_eq_true rfl) rfl dX5_toWhole_2 ?_
  refine lv_topi (fun x_1 e_1 => ?_)
  refine lv_istore (lv' := [(4, .int x_1), (0, .int sort), (1, .long v), (3, .int how)]) hx hb dX5_toWhole_5 hl (by decide) rfl (fun ls hl => ?_)
  refine lv_iload_n hx hb dX5_toWhole_7 rfl (lv_at hl 1 rfl) ?_
  refine lv_lload_n hx hb dX5_toWhole_8 rfl (lv_at hl 2 rfl) ?_
  refine kS G (cvX5_amountBits l D sort v) okX5_amountBits hgf trivial qw4_31 ⟨Nat.le_of_ble_eq_true rfl, Nat.le_of_ble_eq_true rfl⟩ ⟨Nat.zero_le _, Nat.zero_le _⟩ hl.1 (Nat.le_of_ble_eq_true rfl) rfl dX5_toWhole_9 ?_
  refine lv_topl (fun x_2 e_2 => ?_)
  refine lv_lstore (lv' := [(5, .long x_2), (4, .int x_1), (0, .int sort), (1, .long v), (3, .int how)]) hx hb dX5_toWhole_12 hl (by decide) rfl (fun ls hl => ?_)
  refine lv_iload_n hx hb dX5_toWhole_14 rfl (lv_at hl 2 rfl) ?_
  refine kS G (cvX5_places l D sort) okX5_places hgf trivial qw4_95 ⟨Nat.le_of_ble_eq_true rfl, Nat.le_of_ble_eq_true rfl⟩ ⟨Nat.zero_le _, Nat.zero_le _⟩ hl.1 (Nat.le_of_ble_eq_true rfl) rfl dX5_toWhole_15 ?_
  refine lv_topi (fun x_3 e_3 => ?_)
  refine lv_istore (lv' := [(7, .int x_3), (5, .long x_2), (4, .int x_1), (0, .int sort), (1, .long v), (3, .int how)]) hx hb dX5_toWhole_18 hl (by decide) rfl (fun ls hl => ?_)
  refine lv_lload hx hb dX5_toWhole_20 (lv_at hl 1 rfl) ?_
  refine lv_iload hx hb dX5_toWhole_22 (lv_at hl 0 rfl) ?_
  refine lv_lshr (v := jshr x_2 x_3) hx hb dX5_toWhole_24 rfl ?_
  refine lv_l2i hx hb dX5_toWhole_25 rfl ?_
  refine lv_iload_n hx hb dX5_toWhole_26 rfl (lv_at hl 3 rfl) ?_
  refine lv_iconst (v := 2) hx hb dX5_toWhole_27 (by decide) ?_
  refine mw_join 39 (.int (if sort = 2 then 127 else 1023 : Int32)) [.int ((jshr x_2 x_3).toInt32)] (fun K => ?_) ?_
  · refine lv_icmp_ne (tgt := 36) hx hb dX5_toWhole_28 (by decide) (fun c_4 => ?_) (fun c_4 => ?_)
    · refine lv_sipush (v := 1023) hx hb dX5_toWhole_36 (by decide) ?_
      exact mw_topI ((if_neg c_4).trans (rfl)) K
    · refine lv_bipush (v := 127) hx hb dX5_toWhole_31 (by decide) ?_
      refine lv_goto (tgt := 39) hx hb dX5_toWhole_33 (by decide) ?_
      exact mw_topI ((if_pos c_4).trans (rfl)) K
  refine lv_isub hx hb dX5_toWhole_39 ?_
  refine lv_topi (fun x_5 e_5 => ?_)
  refine lv_istore (lv' := [(8, .int x_5), (7, .int x_3), (5, .long x_2), (4, .int x_1), (0, .int sort), (1, .long v), (3, .int how)]) hx hb dX5_toWhole_40 hl (by decide) rfl (fun ls hl => ?_)
  refine lv_iload hx hb dX5_toWhole_42 (lv_at hl 0 rfl) ?_
  refine lv_iload hx hb dX5_toWhole_44 (lv_at hl 1 rfl) ?_
  refine lv_icmp_ge (tgt := 56) hx hb dX5_toWhole_46 (by decide) (fun c_6 => ?_) (fun c_6 => ?_)
  · refine lv_lload_n hx hb dX5_toWhole_56 rfl (lv_at hl 5 rfl) ?_
    exact mw_lret hx hb hr hlocks dX5_toWhole_57 ((congrArg (fX5_toWhole_s1 sort v how) e_1.symm).trans ((congrArg (fX5_toWhole_s2 sort v how x_1) e_2.symm).trans ((congrArg (fX5_toWhole_s3 sort v how x_1 x_2) e_3.symm).trans ((congrArg (fX5_toWhole_s5 sort v how x_1 x_2 x_3) e_5.symm).trans ((if_pos c_6).trans (rfl)))))).symm
  · refine lv_lload hx hb dX5_toWhole_49 (lv_at hl 2 rfl) ?_
    refine lv_lconst (v := 0) hx hb dX5_toWhole_51 (by decide) ?_
    refine mw_lne (tgt := 58) hx hb dX5_toWhole_52 dX5_toWhole_53 (by decide) (fun c_7 => ?_) (fun c_7 => ?_)
    · refine lv_iload_n hx hb dX5_toWhole_58 rfl (lv_at hl 6 rfl) ?_
      refine lv_iconst (v := 3) hx hb dX5_toWhole_59 (by decide) ?_
      refine mw_join 78 (.int (if how = 3 then x_1 else (if x_1 = 0 then 1 else 0) : Int32)) [] (fun K => ?_) ?_
      · refine lv_icmp_ne (tgt := 68) hx hb dX5_toWhole_60 (by decide) (fun c_8 => ?_) (fun c_8 => ?_)
        · refine lv_iload hx hb dX5_toWhole_68 (lv_at hl 3 rfl) ?_
          refine lv_if_ne (tgt := 77) hx hb dX5_toWhole_70 (by decide) (fun c_9 => ?_) (fun c_9 => ?_)
          · refine lv_iconst (v := 0) hx hb dX5_toWhole_77 (by decide) ?_
            exact mw_topI ((if_neg c_8).trans ((if_neg c_9).trans (rfl))) K
          · refine lv_iconst (v := 1) hx hb dX5_toWhole_73 (by decide) ?_
            refine lv_goto (tgt := 78) hx hb dX5_toWhole_74 (by decide) ?_
            exact mw_topI ((if_neg c_8).trans ((if_pos c_9).trans (rfl))) K
        · refine lv_iload hx hb dX5_toWhole_63 (lv_at hl 3 rfl) ?_
          refine lv_goto (tgt := 78) hx hb dX5_toWhole_65 (by decide) ?_
          exact mw_topI ((if_pos c_8).trans (rfl)) K
      refine lv_topi (fun x_10 e_10 => ?_)
      refine lv_istore (lv' := [(9, .int x_10), (8, .int x_5), (7, .int x_3), (5, .long x_2), (4, .int x_1), (0, .int sort), (1, .long v), (3, .int how)]) hx hb dX5_toWhole_78 hl (by decide) rfl (fun ls hl => ?_)
      refine lv_iload hx hb dX5_toWhole_80 (lv_at hl 1 rfl) ?_
      refine lv_if_ge (tgt := 142) hx hb dX5_toWhole_82 (by decide) (fun c_11 => ?_) (fun c_11 => ?_)
      · refine lv_lconst (v := 1) hx hb dX5_toWhole_142 (by decide) ?_
        refine lv_iload hx hb dX5_toWhole_143 (lv_at hl 2 rfl) ?_
        refine lv_iload hx hb dX5_toWhole_145 (lv_at hl 1 rfl) ?_
        refine lv_isub hx hb dX5_toWhole_147 ?_
        refine lv_lshl (v := jshl 1 (x_3 - x_5)) hx hb dX5_toWhole_148 rfl ?_
        refine lv_topl (fun x_12 e_12 => ?_)
        refine lv_lstore (lv' := [(10, .long x_12), (9, .int x_10), (8, .int x_5), (7, .int x_3), (5, .long x_2), (4, .int x_1), (0, .int sort), (1, .long v), (3, .int how)]) hx hb dX5_toWhole_149 hl (by decide) rfl (fun ls hl => ?_)
        refine lv_lload hx hb dX5_toWhole_151 (lv_at hl 4 rfl) ?_
        refine lv_lload hx hb dX5_toWhole_153 (lv_at hl 0 rfl) ?_
        refine lv_lconst (v := 1) hx hb dX5_toWhole_155 (by decide) ?_
        refine lv_lsub hx hb dX5_toWhole_156 ?_
        refine lv_land hx hb dX5_toWhole_157 ?_
        refine lv_topl (fun x_13 e_13 => ?_)
        refine lv_lstore (lv' := [(12, .long x_13), (10, .long x_12), (9, .int x_10), (8, .int x_5), (7, .int x_3), (5, .long x_2), (4, .int x_1), (0, .int sort), (1, .long v), (3, .int how)]) hx hb dX5_toWhole_158 hl (by decide) rfl (fun ls hl => ?_)
        refine lv_lload hx hb dX5_toWhole_160 (lv_at hl 0 rfl) ?_
        refine lv_lconst (v := 0) hx hb dX5_toWhole_162 (by decide) ?_
        refine mw_lne (tgt := 169) hx hb dX5_toWhole_163 dX5_toWhole_164 (by decide) (fun c_14 => ?_) (fun c_14 => ?_)
        · refine lv_iload hx hb dX5_toWhole_169 (lv_at hl 3 rfl) ?_
          refine mw_join 189 (.int (if x_5 = 0 then 1 else (if (x_2 &&& x_12) = 0 then 0 else 1) : Int32)) [] (fun K => ?_) ?_
          · refine lv_if_eq (tgt := 184) hx hb dX5_toWhole_171 (by decide) (fun c_15 => ?_) (fun c_15 => ?_)
            · refine lv_iconst (v := 1) hx hb dX5_toWhole_184 (by decide) ?_
              refine lv_goto (tgt := 189) hx hb dX5_toWhole_185 (by decide) ?_
              exact mw_topI ((if_pos c_15).trans (rfl)) K
            · refine lv_lload hx hb dX5_toWhole_174 (lv_at hl 5 rfl) ?_
              refine lv_lload hx hb dX5_toWhole_176 (lv_at hl 1 rfl) ?_
              refine lv_land hx hb dX5_toWhole_178 ?_
              refine lv_lconst (v := 0) hx hb dX5_toWhole_179 (by decide) ?_
              refine mw_leq (tgt := 188) hx hb dX5_toWhole_180 dX5_toWhole_181 (by decide) (fun c_16 => ?_) (fun c_16 => ?_)
              · refine lv_iconst (v := 0) hx hb dX5_toWhole_188 (by decide) ?_
                exact mw_topI ((if_neg c_15).trans ((if_pos c_16).trans (rfl))) K
              · refine lv_iconst (v := 1) hx hb dX5_toWhole_184 (by decide) ?_
                refine lv_goto (tgt := 189) hx hb dX5_toWhole_185 (by decide) ?_
                exact mw_topI ((if_neg c_15).trans ((if_neg c_16).trans (rfl))) K
          refine lv_topi (fun x_17 e_17 => ?_)
          refine lv_istore (lv' := [(14, .int x_17), (12, .long x_13), (10, .long x_12), (9, .int x_10), (8, .int x_5), (7, .int x_3), (5, .long x_2), (4, .int x_1), (0, .int sort), (1, .long v), (3, .int how)]) hx hb dX5_toWhole_189 hl (by decide) rfl (fun ls hl => ?_)
          refine lv_iload_n hx hb dX5_toWhole_191 rfl (lv_at hl 10 rfl) ?_
          refine lv_iconst (v := 5) hx hb dX5_toWhole_192 (by decide) ?_
          refine mw_join 235 (.int (if how = 5 then (if (x_12 / 2) < x_13 then 1 else (if x_13 = (x_12 / 2) then (if x_17 = 0 then 0 else 1) else 0)) else x_10 : Int32)) [] (fun K => ?_) ?_
          · refine lv_icmp_ne (tgt := 233) hx hb dX5_toWhole_193 (by decide) (fun c_18 => ?_) (fun c_18 => ?_)
            · refine lv_iload hx hb dX5_toWhole_233 (lv_at hl 3 rfl) ?_
              exact mw_topI ((if_neg c_18).trans (rfl)) K
            · refine lv_lload hx hb dX5_toWhole_196 (lv_at hl 1 rfl) ?_
              refine lv_lload hx hb dX5_toWhole_198 (lv_at hl 2 rfl) ?_
              refine lv_ldc2 (v := 2) hx hb G.2.2.2.1 (G.2.2.2.2 _ qw4_98) dX5_toWhole_200 ?_
              refine lv_ldiv hx hb dX5_toWhole_203 (by decide) ?_
              refine mw_lgt (tgt := 225) hx hb dX5_toWhole_204 dX5_toWhole_205 (by decide) (fun c_19 => ?_) (fun c_19 => ?_)
              · refine lv_iconst (v := 1) hx hb dX5_toWhole_225 (by decide) ?_
                refine lv_goto (tgt := 235) hx hb dX5_toWhole_226 (by decide) ?_
                exact mw_topI ((if_pos c_18).trans ((if_pos c_19).trans (rfl))) K
              · refine lv_lload hx hb dX5_toWhole_208 (lv_at hl 1 rfl) ?_
                refine lv_lload hx hb dX5_toWhole_210 (lv_at hl 2 rfl) ?_
                refine lv_ldc2 (v := 2) hx hb G.2.2.2.1 (G.2.2.2.2 _ qw4_98) dX5_toWhole_212 ?_
                refine lv_ldiv hx hb dX5_toWhole_215 (by decide) ?_
                refine mw_lne (tgt := 229) hx hb dX5_toWhole_216 dX5_toWhole_217 (by decide) (fun c_20 => ?_) (fun c_20 => ?_)
                · refine lv_iconst (v := 0) hx hb dX5_toWhole_229 (by decide) ?_
                  refine lv_goto (tgt := 235) hx hb dX5_toWhole_230 (by decide) ?_
                  exact mw_topI ((if_pos c_18).trans ((if_neg c_19).trans ((if_neg c_20).trans (rfl)))) K
                · refine lv_iload hx hb dX5_toWhole_220 (lv_at hl 0 rfl) ?_
                  refine lv_if_eq (tgt := 229) hx hb dX5_toWhole_222 (by decide) (fun c_21 => ?_) (fun c_21 => ?_)
                  · refine lv_iconst (v := 0) hx hb dX5_toWhole_229 (by decide) ?_
                    refine lv_goto (tgt := 235) hx hb dX5_toWhole_230 (by decide) ?_
                    exact mw_topI ((if_pos c_18).trans ((if_neg c_19).trans ((if_pos c_20).trans ((if_pos c_21).trans (rfl))))) K
                  · refine lv_iconst (v := 1) hx hb dX5_toWhole_225 (by decide) ?_
                    refine lv_goto (tgt := 235) hx hb dX5_toWhole_226 (by decide) ?_
                    exact mw_topI ((if_pos c_18).trans ((if_neg c_19).trans ((if_pos c_20).trans ((if_neg c_21).trans (rfl))))) K
          refine lv_topi (fun x_22 e_22 => ?_)
          refine lv_istore (lv' := [(15, .int x_22), (14, .int x_17), (12, .long x_13), (10, .long x_12), (9, .int x_10), (8, .int x_5), (7, .int x_3), (5, .long x_2), (4, .int x_1), (0, .int sort), (1, .long v), (3, .int how)]) hx hb dX5_toWhole_235 hl (by decide) rfl (fun ls hl => ?_)
          refine lv_iload_n hx hb dX5_toWhole_237 rfl (lv_at hl 9 rfl) ?_
          refine lv_iload hx hb dX5_toWhole_238 (lv_at hl 0 rfl) ?_
          refine mw_join 259 (.long (if x_22 = 0 then x_2 - x_13 else (x_2 - x_13) + x_12 : Int64)) [.int sort] (fun K => ?_) ?_
          · refine lv_if_eq (tgt := 254) hx hb dX5_toWhole_240 (by decide) (fun c_23 => ?_) (fun c_23 => ?_)
            · refine lv_lload hx hb dX5_toWhole_254 (lv_at hl 7 rfl) ?_
              refine lv_lload hx hb dX5_toWhole_256 (lv_at hl 2 rfl) ?_
              refine lv_lsub hx hb dX5_toWhole_258 ?_
              exact mw_topL ((if_pos c_23).trans (rfl)) K
            · refine lv_lload hx hb dX5_toWhole_243 (lv_at hl 7 rfl) ?_
              refine lv_lload hx hb dX5_toWhole_245 (lv_at hl 2 rfl) ?_
              refine lv_lsub hx hb dX5_toWhole_247 ?_
              refine lv_lload hx hb dX5_toWhole_248 (lv_at hl 3 rfl) ?_
              refine lv_ladd hx hb dX5_toWhole_250 ?_
              refine lv_goto (tgt := 259) hx hb dX5_toWhole_251 (by decide) ?_
              exact mw_topL ((if_neg c_23).trans (rfl)) K
          refine lv_iload hx hb dX5_toWhole_259 (lv_at hl 8 rfl) ?_
          refine kS G (cvX5_signed l D sort (if x_22 = 0 then x_2 - x_13 else (x_2 - x_13) + x_12 : Int64) x_1) okX5_signed hgf trivial qw3_239 ⟨Nat.le_of_ble_eq_true rfl, Nat.le_of_ble_eq_true rfl⟩ ⟨Nat.zero_le _, Nat.zero_le _⟩ hl.1 (Nat.le_of_ble_eq_true rfl) rfl dX5_toWhole_261 ?_
          exact mw_lret hx hb hr hlocks dX5_toWhole_264 ((congrArg (fX5_toWhole_s1 sort v how) e_1.symm).trans ((congrArg (fX5_toWhole_s2 sort v how x_1) e_2.symm).trans ((congrArg (fX5_toWhole_s3 sort v how x_1 x_2) e_3.symm).trans ((congrArg (fX5_toWhole_s5 sort v how x_1 x_2 x_3) e_5.symm).trans ((if_neg c_6).trans ((if_neg c_7).trans ((congrArg (fX5_toWhole_s10 sort v how x_1 x_2 x_3 x_5) e_10.symm).trans ((if_pos c_11).trans ((congrArg (fX5_toWhole_s12 sort v how x_1 x_2 x_3 x_5 x_10) e_12.symm).trans ((congrArg (fX5_toWhole_s13 sort v how x_1 x_2 x_3 x_5 x_10 x_12) e_13.symm).trans ((if_neg c_14).trans ((congrArg (fX5_toWhole_s17 sort v how x_1 x_2 x_3 x_5 x_10 x_12 x_13) e_17.symm).trans ((congrArg (fX5_toWhole_s22 sort v how x_1 x_2 x_3 x_5 x_10 x_12 x_13 x_17) e_22.symm).trans (rfl)))))))))))))).symm
        · refine lv_lload_n hx hb dX5_toWhole_167 rfl (lv_at hl 8 rfl) ?_
          exact mw_lret hx hb hr hlocks dX5_toWhole_168 ((congrArg (fX5_toWhole_s1 sort v how) e_1.symm).trans ((congrArg (fX5_toWhole_s2 sort v how x_1) e_2.symm).trans ((congrArg (fX5_toWhole_s3 sort v how x_1 x_2) e_3.symm).trans ((congrArg (fX5_toWhole_s5 sort v how x_1 x_2 x_3) e_5.symm).trans ((if_neg c_6).trans ((if_neg c_7).trans ((congrArg (fX5_toWhole_s10 sort v how x_1 x_2 x_3 x_5) e_10.symm).trans ((if_pos c_11).trans ((congrArg (fX5_toWhole_s12 sort v how x_1 x_2 x_3 x_5 x_10) e_12.symm).trans ((congrArg (fX5_toWhole_s13 sort v how x_1 x_2 x_3 x_5 x_10 x_12) e_13.symm).trans ((if_pos c_14).trans (rfl)))))))))))).symm
      · refine lv_iload_n hx hb dX5_toWhole_85 rfl (lv_at hl 7 rfl) ?_
        refine lv_iconst (v := 5) hx hb dX5_toWhole_86 (by decide) ?_
        refine mw_join 120 (.int (if how = 5 then (if x_5 = (-1) then (if (x_2 &&& ((jshl 1 x_3) - 1)) ≤ 0 then 0 else 1) else 0) else x_10 : Int32)) [] (fun K => ?_) ?_
        · refine lv_icmp_ne (tgt := 118) hx hb dX5_toWhole_87 (by decide) (fun c_24 => ?_) (fun c_24 => ?_)
          · refine lv_iload hx hb dX5_toWhole_118 (lv_at hl 0 rfl) ?_
            exact mw_topI ((if_neg c_24).trans (rfl)) K
          · refine lv_iload hx hb dX5_toWhole_90 (lv_at hl 1 rfl) ?_
            refine lv_iconst (v := (-1)) hx hb dX5_toWhole_92 (by decide) ?_
            refine lv_icmp_ne (tgt := 114) hx hb dX5_toWhole_93 (by decide) (fun c_25 => ?_) (fun c_25 => ?_)
            · refine lv_iconst (v := 0) hx hb dX5_toWhole_114 (by decide) ?_
              refine lv_goto (tgt := 120) hx hb dX5_toWhole_115 (by decide) ?_
              exact mw_topI ((if_pos c_24).trans ((if_neg c_25).trans (rfl))) K
            · refine lv_lload hx hb dX5_toWhole_96 (lv_at hl 3 rfl) ?_
              refine lv_lconst (v := 1) hx hb dX5_toWhole_98 (by decide) ?_
              refine lv_iload hx hb dX5_toWhole_99 (lv_at hl 2 rfl) ?_
              refine lv_lshl (v := jshl 1 x_3) hx hb dX5_toWhole_101 rfl ?_
              refine lv_lconst (v := 1) hx hb dX5_toWhole_102 (by decide) ?_
              refine lv_lsub hx hb dX5_toWhole_103 ?_
              refine lv_land hx hb dX5_toWhole_104 ?_
              refine lv_lconst (v := 0) hx hb dX5_toWhole_105 (by decide) ?_
              refine mw_lle (tgt := 114) hx hb dX5_toWhole_106 dX5_toWhole_107 (by decide) (fun c_26 => ?_) (fun c_26 => ?_)
              · refine lv_iconst (v := 0) hx hb dX5_toWhole_114 (by decide) ?_
                refine lv_goto (tgt := 120) hx hb dX5_toWhole_115 (by decide) ?_
                exact mw_topI ((if_pos c_24).trans ((if_pos c_25).trans ((if_pos c_26).trans (rfl)))) K
              · refine lv_iconst (v := 1) hx hb dX5_toWhole_110 (by decide) ?_
                refine lv_goto (tgt := 120) hx hb dX5_toWhole_111 (by decide) ?_
                exact mw_topI ((if_pos c_24).trans ((if_pos c_25).trans ((if_neg c_26).trans (rfl)))) K
        refine lv_topi (fun x_27 e_27 => ?_)
        refine lv_istore (lv' := [(10, .int x_27), (9, .int x_10), (8, .int x_5), (7, .int x_3), (5, .long x_2), (4, .int x_1), (0, .int sort), (1, .long v), (3, .int how)]) hx hb dX5_toWhole_120 hl (by decide) rfl (fun ls hl => ?_)
        refine lv_iload_n hx hb dX5_toWhole_122 rfl (lv_at hl 6 rfl) ?_
        refine lv_iload hx hb dX5_toWhole_123 (lv_at hl 0 rfl) ?_
        refine mw_join 136 (.long (if x_27 = 0 then 0 else fX5_one sort : Int64)) [.int sort] (fun K => ?_) ?_
        · refine lv_if_eq (tgt := 135) hx hb dX5_toWhole_125 (by decide) (fun c_28 => ?_) (fun c_28 => ?_)
          · refine lv_lconst (v := 0) hx hb dX5_toWhole_135 (by decide) ?_
            exact mw_topL ((if_pos c_28).trans (rfl)) K
          · refine lv_iload_n hx hb dX5_toWhole_128 rfl (lv_at hl 6 rfl) ?_
            refine kS G (cvX5_one l D sort) okX5_one hgf trivial qw4_87 ⟨Nat.le_of_ble_eq_true rfl, Nat.le_of_ble_eq_true rfl⟩ ⟨Nat.zero_le _, Nat.zero_le _⟩ hl.1 (Nat.le_of_ble_eq_true rfl) rfl dX5_toWhole_129 ?_
            refine lv_goto (tgt := 136) hx hb dX5_toWhole_132 (by decide) ?_
            exact mw_topL ((if_neg c_28).trans (rfl)) K
        refine lv_iload hx hb dX5_toWhole_136 (lv_at hl 5 rfl) ?_
        refine kS G (cvX5_signed l D sort (if x_27 = 0 then 0 else fX5_one sort : Int64) x_1) okX5_signed hgf trivial qw3_239 ⟨Nat.le_of_ble_eq_true rfl, Nat.le_of_ble_eq_true rfl⟩ ⟨Nat.zero_le _, Nat.zero_le _⟩ hl.1 (Nat.le_of_ble_eq_true rfl) rfl dX5_toWhole_138 ?_
        exact mw_lret hx hb hr hlocks dX5_toWhole_141 ((congrArg (fX5_toWhole_s1 sort v how) e_1.symm).trans ((congrArg (fX5_toWhole_s2 sort v how x_1) e_2.symm).trans ((congrArg (fX5_toWhole_s3 sort v how x_1 x_2) e_3.symm).trans ((congrArg (fX5_toWhole_s5 sort v how x_1 x_2 x_3) e_5.symm).trans ((if_neg c_6).trans ((if_neg c_7).trans ((congrArg (fX5_toWhole_s10 sort v how x_1 x_2 x_3 x_5) e_10.symm).trans ((if_neg c_11).trans ((congrArg (fX5_toWhole_s27 sort v how x_1 x_2 x_3 x_5 x_10) e_27.symm).trans (rfl)))))))))).symm
    · refine lv_lload_n hx hb dX5_toWhole_56 rfl (lv_at hl 5 rfl) ?_
      exact mw_lret hx hb hr hlocks dX5_toWhole_57 ((congrArg (fX5_toWhole_s1 sort v how) e_1.symm).trans ((congrArg (fX5_toWhole_s2 sort v how x_1) e_2.symm).trans ((congrArg (fX5_toWhole_s3 sort v how x_1 x_2) e_3.symm).trans ((congrArg (fX5_toWhole_s5 sort v how x_1 x_2 x_3) e_5.symm).trans ((if_neg c_6).trans ((if_pos c_7).trans (rfl))))))).symm
def fX5_changed (sort : Int32) (st : Int32) (v : Int64) (k : Int64) : Int64 := if st = 0 then fX5_amount sort v else (if st = 1 then fX5_greater sort v k else (if st = 2 then fX5_lesser sort v k else (if st = 3 then fX5_toWhole sort v st else (if st = 4 then fX5_toWhole sort v st else (if st = 5 then fX5_toWhole sort v st else (if st = 6 then (if (fX5_amountBits sort v) = 0 then v else fX5_signed sort (fX5_one sort) (fX5_isMinus sort v)) else (if st = 7 then fX5_signed sort (fX5_amountBits sort v) (fX5_isMinus sort k) else fX5_toWhole sort v st)))))))
set_option maxRecDepth 100000 in
set_option maxHeartbeats 4000000 in
theorem cvX5_changed (l : Launch) (D : mG) (sort : Int32) (st : Int32) (v : Int64) (k : Int64) : cV l D yX5_changed cX5_changed 6 .long 4 (fun _ => True) [.int sort, .int st, .long v, .long k] (.long (fX5_changed  sort st v k)) := by
  refine cV_of (by decide) (Nat.le_of_ble_eq_true rfl) ?_
  intro p e s m below meth c ls hx hb hr hlocks G hgf hpic hl
  have hl : lv_has ls 6 [(0, .int sort), (1, .int st), (2, .long v), (4, .long k)] := hl
  refine lv_iload_n hx hb dX5_changed_0 rfl (lv_at hl 1 rfl) ?_
  by_cases c_1 : st = 0
  · refine lv_tableIn (off := 47) (tgt := 48) hx hb dX5_changed_1 (by rw [c_1]; decide) (by rw [c_1]; decide) (by rw [c_1]; rfl) (by decide) ?_
    refine lv_iload_n hx hb dX5_changed_48 rfl (lv_at hl 0 rfl) ?_
    refine lv_lload_n hx hb dX5_changed_49 rfl (lv_at hl 2 rfl) ?_
    refine kS G (cvX5_amount l D sort v) okX5_amount hgf trivial qw4_78 ⟨Nat.le_of_ble_eq_true rfl, Nat.le_of_ble_eq_true rfl⟩ ⟨Nat.zero_le _, Nat.zero_le _⟩ hl.1 (Nat.le_of_ble_eq_true rfl) rfl dX5_changed_50 ?_
    exact mw_lret hx hb hr hlocks dX5_changed_53 ((if_pos c_1).trans (rfl)).symm
  · by_cases c_2 : st = 1
    · refine lv_tableIn (off := 53) (tgt := 54) hx hb dX5_changed_1 (by rw [c_2]; decide) (by rw [c_2]; decide) (by rw [c_2]; rfl) (by decide) ?_
      refine lv_iload_n hx hb dX5_changed_54 rfl (lv_at hl 0 rfl) ?_
      refine lv_lload_n hx hb dX5_changed_55 rfl (lv_at hl 2 rfl) ?_
      refine lv_lload hx hb dX5_changed_56 (lv_at hl 3 rfl) ?_
      refine kS G (cvX5_greater l D sort v k) okX5_greater hgf trivial qw4_81 ⟨Nat.le_of_ble_eq_true rfl, Nat.le_of_ble_eq_true rfl⟩ ⟨Nat.zero_le _, Nat.zero_le _⟩ hl.1 (Nat.le_of_ble_eq_true rfl) rfl dX5_changed_58 ?_
      exact mw_lret hx hb hr hlocks dX5_changed_61 ((if_neg c_1).trans ((if_pos c_2).trans (rfl))).symm
    · by_cases c_3 : st = 2
      · refine lv_tableIn (off := 61) (tgt := 62) hx hb dX5_changed_1 (by rw [c_3]; decide) (by rw [c_3]; decide) (by rw [c_3]; rfl) (by decide) ?_
        refine lv_iload_n hx hb dX5_changed_62 rfl (lv_at hl 0 rfl) ?_
        refine lv_lload_n hx hb dX5_changed_63 rfl (lv_at hl 2 rfl) ?_
        refine lv_lload hx hb dX5_changed_64 (lv_at hl 3 rfl) ?_
        refine kS G (cvX5_lesser l D sort v k) okX5_lesser hgf trivial qw4_84 ⟨Nat.le_of_ble_eq_true rfl, Nat.le_of_ble_eq_true rfl⟩ ⟨Nat.zero_le _, Nat.zero_le _⟩ hl.1 (Nat.le_of_ble_eq_true rfl) rfl dX5_changed_66 ?_
        exact mw_lret hx hb hr hlocks dX5_changed_69 ((if_neg c_1).trans ((if_neg c_2).trans ((if_pos c_3).trans (rfl)))).symm
      · by_cases c_4 : st = 3
        · refine lv_tableIn (off := 113) (tgt := 114) hx hb dX5_changed_1 (by rw [c_4]; decide) (by rw [c_4]; decide) (by rw [c_4]; rfl) (by decide) ?_
          refine lv_iload_n hx hb dX5_changed_114 rfl (lv_at hl 0 rfl) ?_
          refine lv_lload_n hx hb dX5_changed_115 rfl (lv_at hl 2 rfl) ?_
          refine lv_iload_n hx hb dX5_changed_116 rfl (lv_at hl 1 rfl) ?_
          refine kS G (cvX5_toWhole l D sort v st) okX5_toWhole hgf trivial qw4_92 ⟨Nat.le_of_ble_eq_true rfl, Nat.le_of_ble_eq_true rfl⟩ ⟨Nat.zero_le _, Nat.zero_le _⟩ hl.1 (Nat.le_of_ble_eq_true rfl) rfl dX5_changed_117 ?_
          exact mw_lret hx hb hr hlocks dX5_changed_120 ((if_neg c_1).trans ((if_neg c_2).trans ((if_neg c_3).trans ((if_pos c_4).trans (rfl))))).symm
        · by_cases c_5 : st = 4
          · refine lv_tableIn (off := 113) (tgt := 114) hx hb dX5_changed_1 (by rw [c_5]; decide) (by rw [c_5]; decide) (by rw [c_5]; rfl) (by decide) ?_
            refine lv_iload_n hx hb dX5_changed_114 rfl (lv_at hl 0 rfl) ?_
            refine lv_lload_n hx hb dX5_changed_115 rfl (lv_at hl 2 rfl) ?_
            refine lv_iload_n hx hb dX5_changed_116 rfl (lv_at hl 1 rfl) ?_
            refine kS G (cvX5_toWhole l D sort v st) okX5_toWhole hgf trivial qw4_92 ⟨Nat.le_of_ble_eq_true rfl, Nat.le_of_ble_eq_true rfl⟩ ⟨Nat.zero_le _, Nat.zero_le _⟩ hl.1 (Nat.le_of_ble_eq_true rfl) rfl dX5_changed_117 ?_
            exact mw_lret hx hb hr hlocks dX5_changed_120 ((if_neg c_1).trans ((if_neg c_2).trans ((if_neg c_3).trans ((if_neg c_4).trans ((if_pos c_5).trans (rfl)))))).symm
          · by_cases c_6 : st = 5
            · refine lv_tableIn (off := 113) (tgt := 114) hx hb dX5_changed_1 (by rw [c_6]; decide) (by rw [c_6]; decide) (by rw [c_6]; rfl) (by decide) ?_
              refine lv_iload_n hx hb dX5_changed_114 rfl (lv_at hl 0 rfl) ?_
              refine lv_lload_n hx hb dX5_changed_115 rfl (lv_at hl 2 rfl) ?_
              refine lv_iload_n hx hb dX5_changed_116 rfl (lv_at hl 1 rfl) ?_
              refine kS G (cvX5_toWhole l D sort v st) okX5_toWhole hgf trivial qw4_92 ⟨Nat.le_of_ble_eq_true rfl, Nat.le_of_ble_eq_true rfl⟩ ⟨Nat.zero_le _, Nat.zero_le _⟩ hl.1 (Nat.le_of_ble_eq_true rfl) rfl dX5_changed_117 ?_
              exact mw_lret hx hb hr hlocks dX5_changed_120 ((if_neg c_1).trans ((if_neg c_2).trans ((if_neg c_3).trans ((if_neg c_4).trans ((if_neg c_5).trans ((if_pos c_6).trans (rfl))))))).symm
            · by_cases c_7 : st = 6
              · refine lv_tableIn (off := 69) (tgt := 70) hx hb dX5_changed_1 (by rw [c_7]; decide) (by rw [c_7]; decide) (by rw [c_7]; rfl) (by decide) ?_
                refine lv_iload_n hx hb dX5_changed_70 rfl (lv_at hl 0 rfl) ?_
                refine lv_lload_n hx hb dX5_changed_71 rfl (lv_at hl 2 rfl) ?_
                refine kS G (cvX5_amountBits l D sort v) okX5_amountBits hgf trivial qw4_31 ⟨Nat.le_of_ble_eq_true rfl, Nat.le_of_ble_eq_true rfl⟩ ⟨Nat.zero_le _, Nat.zero_le _⟩ hl.1 (Nat.le_of_ble_eq_true rfl) rfl dX5_changed_72 ?_
                refine lv_lconst (v := 0) hx hb dX5_changed_75 (by decide) ?_
                refine mw_lne (tgt := 84) hx hb dX5_changed_76 dX5_changed_77 (by decide) (fun c_8 => ?_) (fun c_8 => ?_)
                · refine lv_iload_n hx hb dX5_changed_84 rfl (lv_at hl 0 rfl) ?_
                  refine lv_iload_n hx hb dX5_changed_85 rfl (lv_at hl 0 rfl) ?_
                  refine kS G (cvX5_one l D sort) okX5_one hgf trivial qw4_87 ⟨Nat.le_of_ble_eq_true rfl, Nat.le_of_ble_eq_true rfl⟩ ⟨Nat.zero_le _, Nat.zero_le _⟩ hl.1 (Nat.le_of_ble_eq_true rfl) rfl dX5_changed_86 ?_
                  refine lv_iload_n hx hb dX5_changed_89 rfl (lv_at hl 0 rfl) ?_
                  refine lv_lload_n hx hb dX5_changed_90 rfl (lv_at hl 2 rfl) ?_
                  refine kS G (cvX5_isMinus l D sort v) okX5_isMinus hgf trivial qw4_60 ⟨Nat.le_of_ble_eq_true rfl, Nat.le_of_ble_eq_true rfl⟩ ⟨Nat.zero_le _, Nat.zero_le _⟩ hl.1 (Nat.le_of_ble_eq_true rfl) rfl dX5_changed_91 ?_
                  refine kS G (cvX5_signed l D sort (fX5_one sort) (fX5_isMinus sort v)) okX5_signed hgf trivial qw3_239 ⟨Nat.le_of_ble_eq_true rfl, Nat.le_of_ble_eq_true rfl⟩ ⟨Nat.zero_le _, Nat.zero_le _⟩ hl.1 (Nat.le_of_ble_eq_true rfl) rfl dX5_changed_94 ?_
                  exact mw_lret hx hb hr hlocks dX5_changed_97 ((if_neg c_1).trans ((if_neg c_2).trans ((if_neg c_3).trans ((if_neg c_4).trans ((if_neg c_5).trans ((if_neg c_6).trans ((if_pos c_7).trans ((if_neg c_8).trans (rfl))))))))).symm
                · refine lv_lload_n hx hb dX5_changed_80 rfl (lv_at hl 2 rfl) ?_
                  refine lv_goto (tgt := 97) hx hb dX5_changed_81 (by decide) ?_
                  exact mw_lret hx hb hr hlocks dX5_changed_97 ((if_neg c_1).trans ((if_neg c_2).trans ((if_neg c_3).trans ((if_neg c_4).trans ((if_neg c_5).trans ((if_neg c_6).trans ((if_pos c_7).trans ((if_pos c_8).trans (rfl))))))))).symm
              · by_cases c_9 : st = 7
                · refine lv_tableIn (off := 97) (tgt := 98) hx hb dX5_changed_1 (by rw [c_9]; decide) (by rw [c_9]; decide) (by rw [c_9]; rfl) (by decide) ?_
                  refine lv_iload_n hx hb dX5_changed_98 rfl (lv_at hl 0 rfl) ?_
                  refine lv_iload_n hx hb dX5_changed_99 rfl (lv_at hl 0 rfl) ?_
                  refine lv_lload_n hx hb dX5_changed_100 rfl (lv_at hl 2 rfl) ?_
                  refine kS G (cvX5_amountBits l D sort v) okX5_amountBits hgf trivial qw4_31 ⟨Nat.le_of_ble_eq_true rfl, Nat.le_of_ble_eq_true rfl⟩ ⟨Nat.zero_le _, Nat.zero_le _⟩ hl.1 (Nat.le_of_ble_eq_true rfl) rfl dX5_changed_101 ?_
                  refine lv_iload_n hx hb dX5_changed_104 rfl (lv_at hl 0 rfl) ?_
                  refine lv_lload hx hb dX5_changed_105 (lv_at hl 3 rfl) ?_
                  refine kS G (cvX5_isMinus l D sort k) okX5_isMinus hgf trivial qw4_60 ⟨Nat.le_of_ble_eq_true rfl, Nat.le_of_ble_eq_true rfl⟩ ⟨Nat.zero_le _, Nat.zero_le _⟩ hl.1 (Nat.le_of_ble_eq_true rfl) rfl dX5_changed_107 ?_
                  refine kS G (cvX5_signed l D sort (fX5_amountBits sort v) (fX5_isMinus sort k)) okX5_signed hgf trivial qw3_239 ⟨Nat.le_of_ble_eq_true rfl, Nat.le_of_ble_eq_true rfl⟩ ⟨Nat.zero_le _, Nat.zero_le _⟩ hl.1 (Nat.le_of_ble_eq_true rfl) rfl dX5_changed_110 ?_
                  exact mw_lret hx hb hr hlocks dX5_changed_113 ((if_neg c_1).trans ((if_neg c_2).trans ((if_neg c_3).trans ((if_neg c_4).trans ((if_neg c_5).trans ((if_neg c_6).trans ((if_neg c_7).trans ((if_pos c_9).trans (rfl))))))))).symm
                · refine lv_tableOut (tgt := 114) hx hb dX5_changed_1 (by have qc_1 : st.toInt ≠ 0 := mw_ne c_1; have qc_2 : st.toInt ≠ 1 := mw_ne c_2; have qc_3 : st.toInt ≠ 2 := mw_ne c_3; have qc_4 : st.toInt ≠ 3 := mw_ne c_4; have qc_5 : st.toInt ≠ 4 := mw_ne c_5; have qc_6 : st.toInt ≠ 5 := mw_ne c_6; have qc_7 : st.toInt ≠ 6 := mw_ne c_7; have qc_9 : st.toInt ≠ 7 := mw_ne c_9; omega) (by decide) ?_
                  refine lv_iload_n hx hb dX5_changed_114 rfl (lv_at hl 0 rfl) ?_
                  refine lv_lload_n hx hb dX5_changed_115 rfl (lv_at hl 2 rfl) ?_
                  refine lv_iload_n hx hb dX5_changed_116 rfl (lv_at hl 1 rfl) ?_
                  refine kS G (cvX5_toWhole l D sort v st) okX5_toWhole hgf trivial qw4_92 ⟨Nat.le_of_ble_eq_true rfl, Nat.le_of_ble_eq_true rfl⟩ ⟨Nat.zero_le _, Nat.zero_le _⟩ hl.1 (Nat.le_of_ble_eq_true rfl) rfl dX5_changed_117 ?_
                  exact mw_lret hx hb hr hlocks dX5_changed_120 ((if_neg c_1).trans ((if_neg c_2).trans ((if_neg c_3).trans ((if_neg c_4).trans ((if_neg c_5).trans ((if_neg c_6).trans ((if_neg c_7).trans ((if_neg c_9).trans (rfl))))))))).symm
