/-! THE LAW's LOOP -/
theorem and_15 (v : Int32) : 0 ≤ (v &&& 15).toInt ∧ (v &&& 15).toInt < 16 := by
  have h3 : (v &&& 15).toInt = (v.toBitVec &&& 15#32).toInt := rfl
  have h4 : (v.toBitVec &&& 15#32).toNat ≤ 15 := by
    rw [BitVec.toNat_and]
    exact Nat.and_le_right (n := v.toBitVec.toNat) (m := 15)
  rw [h3, BitVec.toInt_eq_toNat_of_lt (by omega)]
  omega
section LOOP
variable {p : Program} {l : Launch} {e : Env} {s : State} {m : MethodId} {below : List Frame} {meth : Method} {c : Code} {b L : Nat} {xs : Nat → Int32} {D : mG} {x xa oa r : Nat} {ma : Nat → Nat}
set_option maxRecDepth 100000 in
set_option maxHeartbeats 4000000 in
theorem law_loop (C : LC p s m c b L xs D) (hlt : l.stackTraces = false) (hL2 : L ≤ 3072) (hr : meth.sig.returnType = ret) (hlocks : meth.locks = false) : ∀ (n T cells slots : Nat) (ov : Nat → Int64) (I : Nat → Nat → Nat) (N : Nat) (M : MSt) (t : Int32) (H : Heap) (locs : List Loc) (ls : Array Slot), 512 ≤ T + n → cells ≤ 100 + 6 * T → slots ≤ 1000 + 60 * T → T ≤ 512 → Inv M N T → va_P D.1 vwCl (wM D r ma t M ++ WS D x xa oa ov I N M) H → va_D (LA s) (wM D r ma t M ++ WS D x xa oa ov I N M) → va_S (LA s) s.heap H locs → lv_has ls 8 [(4, .int (nI (6 * T))), (0, .ref b), (1, .ref x), (2, .ref r), (3, .ref oa)] → W p l e room_1 s m #[Value.ref b] below meth c H locs cells slots (lw_Z below #[Value.ref b] s) (F0 m 23 ls []) := by
  obtain ⟨hx, hb, G, hgf, hz, hX, hbl⟩ := id C
  have hbA : ¬ LA s b := Nat.not_le.mpr hbl
  intro n
  induction n with
  | zero =>
    intro T cells slots ov I N M t H locs ls hn hc1 hc2 hT hI hP hD hS hl
    refine lv_iload hx hb dL_law_23 (lv_at hl 0 rfl) ?_
    refine lv_aload_n hx hb dL_law_25 rfl (lv_at hl 1 rfl) ?_
    refine va_slen hx hb hX hbl hbA hS dL_law_26 ?_
    refine lv_bipush (v := 6) hx hb dL_law_27 (by decide) ?_
    refine lv_isub hx hb dL_law_29 ?_
    have hLi : (Int32.ofNat L - 6).toInt = (L : Int) - 6 := by
      rw [Int32.toInt_sub, show (Int32.ofNat L).toInt = (L : Int) from nI_toInt (by omega), show (6 : Int32).toInt = 6 by decide, Int.bmod_eq_of_le (by omega) (by omega)]
    refine lv_icmp_gt (tgt := 990) hx hb dL_law_30 (by decide) (fun h => ?_) (fun h => absurd (by rw [Int32.lt_iff_toInt_lt, hLi, nI_toInt (by omega)]; omega) h)
    refine lv_iconst (v := 1) hx hb dL_law_990 (by decide) ?_
    refine va_forget (fun q hq => hS.2.2 q hq) ?_
    refine mw_widen (k := 601024) (n := 7293034) (by omega) (by omega) ?_
    refine W.base ?_
    exact lw_ret (Drawn.sameBut.refl s.drawn lw_cs) hx hb hr hlocks dL_law_991
  | succ n ih =>
    intro T cells slots ov I N M t H locs ls hn hc1 hc2 hT hI hP hD hS hl
    refine lv_iload hx hb dL_law_23 (lv_at hl 0 rfl) ?_
    refine lv_aload_n hx hb dL_law_25 rfl (lv_at hl 1 rfl) ?_
    refine va_slen hx hb hX hbl hbA hS dL_law_26 ?_
    refine lv_bipush (v := 6) hx hb dL_law_27 (by decide) ?_
    refine lv_isub hx hb dL_law_29 ?_
    have hLi : (Int32.ofNat L - 6).toInt = (L : Int) - 6 := by
      rw [Int32.toInt_sub, show (Int32.ofNat L).toInt = (L : Int) from nI_toInt (by omega), show (6 : Int32).toInt = 6 by decide, Int.bmod_eq_of_le (by omega) (by omega)]
    refine lv_icmp_gt (tgt := 990) hx hb dL_law_30 (by decide) (fun h => ?_) (fun h => ?_)
    · refine lv_iconst (v := 1) hx hb dL_law_990 (by decide) ?_
      refine va_forget (fun q hq => hS.2.2 q hq) ?_
      refine mw_widen (k := 601024) (n := 7293034) (by omega) (by omega) ?_
      refine W.base ?_
      exact lw_ret (Drawn.sameBut.refl s.drawn lw_cs) hx hb hr hlocks dL_law_991
    · have hTL : 6 * T + 6 ≤ L := by
        rw [Int32.lt_iff_toInt_lt, hLi, nI_toInt (by omega)] at h
        omega
      have hT5 : T < 512 := by omega
      have K : ∀ (ov : Nat → Int64) (I : Nat → Nat → Nat) (N : Nat) (M : MSt) (t : Int32) (H : Heap) (locs : List Loc) (ls : Array Slot), True → Inv M N (T + 1) → va_P D.1 vwCl (wM D r ma t M ++ WS D x xa oa ov I N M) H → va_D (LA s) (wM D r ma t M ++ WS D x xa oa ov I N M) → va_S (LA s) s.heap H locs → lv_has ls 8 [(4, .int (nI (6 * T))), (0, .ref b), (1, .ref x), (2, .ref r), (3, .ref oa)] → W p l e room_1 s m #[Value.ref b] below meth c H locs (cells + 6) (slots + 60) (lw_Z below #[Value.ref b] s) (F0 m 984 ls []) := by
        intro ov I N M t H locs ls _ hI hP hD hS hl
        refine lv_iinc (v := nI (6 * (T + 1))) (lv' := [(4, .int (nI (6 * (T + 1)))), (0, .ref b), (1, .ref x), (2, .ref r), (3, .ref oa)]) hx hb dL_law_984 hl (k := 0) rfl (by rw [Nat.mul_add]; exact nI_add (6 * T) 6) (by decide) rfl (fun ls hl => ?_)
        refine lv_goto (tgt := 23) hx hb dL_law_987 (by decide) ?_
        exact ih (T + 1) _ _ ov I N M t H locs ls (by omega) (by omega) (by omega) (by omega) hI hP hD hS hl
      refine lv_aload_n hx hb dL_law_33 rfl (lv_at hl 1 rfl) ?_
      refine lv_iload hx hb dL_law_34 (lv_at hl 0 rfl) ?_
      refine va_sld hx hb hX hbl hbA hS (by have h0 := in_k (k := 0) hTL (by decide) hL2; rw [nI_add, Nat.add_zero] at h0; exact h0) dL_law_36 ?_
      refine lv_bipush (v := 15) hx hb dL_law_37 (by decide) ?_
      refine lv_iand hx hb dL_law_39 ?_
      obtain ⟨w1, w2⟩ := and_15 (xs (nI (6 * T)).toNatClampNeg)
      generalize (xs (nI (6 * T)).toNatClampNeg &&& 15) = w at w1 w2 ⊢
      by_cases h11 : 11 < w.toInt
      · refine lv_tableOut (tgt := 984) hx hb dL_law_40 (Or.inr h11) (by decide) ?_
        exact mw_widen (k := cells + 6) (n := slots + 60) (by omega) (by omega) (K ov I N M t _ _ _ trivial (hI.more hT5) hP hD hS hl)
      · have hw : w.toInt = 0 ∨ w.toInt = 1 ∨ w.toInt = 2 ∨ w.toInt = 3 ∨ w.toInt = 4 ∨ w.toInt = 5 ∨ w.toInt = 6 ∨ w.toInt = 7 ∨ w.toInt = 8 ∨ w.toInt = 9 ∨ w.toInt = 10 ∨ w.toInt = 11 := by omega
        rcases hw with h | h | h | h | h | h | h | h | h | h | h | h
        · refine lv_tableIn (off := 64) (tgt := 104) hx hb dL_law_40 (by rw [h]; decide) (by rw [h]; decide) (by rw [h]; rfl) (by decide) ?_
          exact lw_c_mount C hlt hI hT5 hTL hL2 (by omega) (by omega) hP hD hS hl K
        · refine lv_tableIn (off := 120) (tgt := 160) hx hb dL_law_40 (by rw [h]; decide) (by rw [h]; decide) (by rw [h]; rfl) (by decide) ?_
          exact lw_c_step C hlt hI hT5 hTL hL2 (by omega) (by omega) hP hD hS hl K
        · refine lv_tableIn (off := 232) (tgt := 272) hx hb dL_law_40 (by rw [h]; decide) (by rw [h]; decide) (by rw [h]; rfl) (by decide) ?_
          exact lw_c_follow C hlt hI hT5 hTL hL2 (by omega) (by omega) hP hD hS hl K
        · refine lv_tableIn (off := 312) (tgt := 352) hx hb dL_law_40 (by rw [h]; decide) (by rw [h]; decide) (by rw [h]; rfl) (by decide) ?_
          exact lw_c_read C hlt hI hT5 hTL hL2 (by omega) (by omega) hP hD hS hl K
        · refine lv_tableIn (off := 411) (tgt := 451) hx hb dL_law_40 (by rw [h]; decide) (by rw [h]; decide) (by rw [h]; rfl) (by decide) ?_
          exact lw_c_reading C hlt hI hT5 hTL hL2 (by omega) (by omega) hP hD hS hl K
        · refine lv_tableIn (off := 478) (tgt := 518) hx hb dL_law_40 (by rw [h]; decide) (by rw [h]; decide) (by rw [h]; rfl) (by decide) ?_
          exact lw_c_tell C hlt hI hT5 hTL hL2 (by omega) (by omega) hP hD hS hl K
        · refine lv_tableIn (off := 545) (tgt := 585) hx hb dL_law_40 (by rw [h]; decide) (by rw [h]; decide) (by rw [h]; rfl) (by decide) ?_
          exact lw_c_whole C hlt hI hT5 hTL hL2 (by omega) (by omega) hP hD hS hl K
        · refine lv_tableIn (off := 601) (tgt := 641) hx hb dL_law_40 (by rw [h]; decide) (by rw [h]; decide) (by rw [h]; rfl) (by decide) ?_
          exact lw_c_limits C hlt hI hT5 hTL hL2 (by omega) (by omega) hP hD hS hl K
        · refine lv_tableIn (off := 752) (tgt := 792) hx hb dL_law_40 (by rw [h]; decide) (by rw [h]; decide) (by rw [h]; rfl) (by decide) ?_
          exact lw_c_widest C hlt hI hT5 hTL hL2 (by omega) (by omega) hP hD hS hl K
        · refine lv_tableIn (off := 807) (tgt := 847) hx hb dL_law_40 (by rw [h]; decide) (by rw [h]; decide) (by rw [h]; rfl) (by decide) ?_
          exact lw_c_forget C hlt hI hT5 hTL hL2 (by omega) (by omega) hP hD hS hl K
        · refine lv_tableIn (off := 863) (tgt := 903) hx hb dL_law_40 (by rw [h]; decide) (by rw [h]; decide) (by rw [h]; rfl) (by decide) ?_
          exact lw_c_alarms C hlt hI hT5 hTL hL2 (by omega) (by omega) hP hD hS hl K
        · refine lv_tableIn (off := 919) (tgt := 959) hx hb dL_law_40 (by rw [h]; decide) (by rw [h]; decide) (by rw [h]; rfl) (by decide) ?_
          exact lw_c_count C hlt hI hT5 hTL hL2 (by omega) (by omega) hP hD hS hl K
end LOOP
