/-! THE COMMANDS, on the class's side -/
theorem WS_sub {D : mG} {x xa oa : Nat} {ov : Nat → Int64} {I : Nat → Nat → Nat} {M : MSt} {N j : Nat} (hj : j < N) {H : Heap} (h : va_P D.1 vwCl (WS D x xa oa ov I N M) H) : va_P D.1 vwCl (mMa x xa M :: mAr D xa I N :: wJ D I M j) H := fun k q hk => by
  obtain ⟨i, -, hi⟩ := va_idx (cJ_map hj) hk
  exact h i q hi
theorem WS_sub0 {D : mG} {x xa oa : Nat} {ov : Nat → Int64} {I : Nat → Nat → Nat} {M : MSt} {N : Nat} {H : Heap} (h : va_P D.1 vwCl (WS D x xa oa ov I N M) H) : va_P D.1 vwCl [mMa x xa M, mAr D xa I N] H := va_P.sub h [0, 1] rfl
theorem Inv.n {M : MSt} {N T : Nat} (h : Inv M N T) : M.1 14 0 = nI N := h.1.2.1
theorem Inv.N8 {M : MSt} {N T : Nat} (h : Inv M N T) : N ≤ 8 := h.1.1
theorem Inv.mn {M : MSt} {N T j : Nat} (h : Inv M N T) (hj : j < N) : cnt M j ≤ 512 ∧ M.1 7 j = nI (cnt M j) := h.1.2.2.2.1 j (Nat.lt_of_lt_of_le hj h.1.1)
theorem Inv.ch {M : MSt} {N T j : Nat} (h : Inv M N T) (hj : j < N) : chn M j ≤ 6 ∧ M.1 1 j = nI (chn M j) := h.1.2.2.1 j (Nat.lt_of_lt_of_le hj h.1.1)
theorem Inv.so {M : MSt} {N T j : Nat} (h : Inv M N T) (hj : j < N) : srt (M.1 0 j) := (h.2.2.2.2.1 j hj).1
theorem mIA_at {I : Nat → Nat → Nat} {N j : Nat} (hj : j < N) : mIA I N j = some (I j 0) := if_pos hj
theorem hasRead0 {M : MSt} {j : Nat} : gi_hasRead (M.1 7 j) = 0 ↔ M.1 7 j = 0 := by
  unfold gi_hasRead; split <;> simp_all
theorem inst_cases (i : Int32) {N : Nat} (hN : N ≤ 8) : (∃ j, j < N ∧ i = nI j) ∨ (i < 0 ∨ ¬ i < nI N) := by
  by_cases h0 : i < 0
  · exact Or.inr (Or.inl h0)
  · by_cases h1 : i < nI N
    · obtain ⟨j, hj, rfl⟩ := nI_of h0
      exact Or.inl ⟨j, (nI_ltI hj (by omega)).mp h1, rfl⟩
    · exact Or.inr (Or.inr h1)
theorem bad_of {I : Nat → Nat → Nat} {N : Nat} {i : Int32} (hN : N ≤ 8) (hb : i < 0 ∨ ¬ i < nI N) : i < 0 ∨ 8 ≤ i ∨ mIA I N i.toNatClampNeg = none := by
  by_cases h0 : i < 0
  · exact Or.inl h0
  · obtain ⟨q, hq, rfl⟩ := nI_of h0
    exact Or.inr (Or.inr (by rw [nI_clamp hq]; exact if_neg (fun h => hb.resolve_left h0 ((nI_ltI hq (by omega)).mpr h))))
theorem mIA_no {I : Nat → Nat → Nat} {N i : Nat} (h : N ≤ i) : mIA I N i = none := if_neg (Nat.not_lt.mpr h)
theorem nI_bv (k : Nat) : (nI k).toBitVec = BitVec.ofNat 32 k := rfl
theorem and15 {k : Nat} (hk : k < 2 ^ 31) : (nI k &&& 15).toNatClampNeg = k % 16 := by
  have h1 : (nI k &&& 15) = nI (k % 16) := by
    apply Int32.toBitVec_inj.mp
    show (nI k).toBitVec &&& 15#32 = (nI (k % 16)).toBitVec
    rw [nI_bv, nI_bv]
    apply BitVec.eq_of_toNat_eq
    rw [BitVec.toNat_and, BitVec.toNat_ofNat, BitVec.toNat_ofNat]
    show k % 2 ^ 32 &&& 2 ^ 4 - 1 = k % 16 % 2 ^ 32
    rw [Nat.and_two_pow_sub_one_eq_mod]
    omega
  rw [h1, nI_clamp (by omega)]
theorem nI_sub {a b : Nat} (h : b ≤ a) : nI a - nI b = nI (a - b) := by
  have : nI a = nI (a - b) + nI b := by rw [nI_add, Nat.sub_add_cancel h]
  rw [this, Int32.add_sub_cancel]
theorem latest_eq {M : MSt} {j c w : Nat} (hw : w < c) (hc : c ≤ 512) : gi_latest (nI c) (mKE M j) (nI w) = M.2 8 (16 * j + (c - 1 - w) % 16) := by
  unfold gi_latest mKE
  rw [show (nI c - 1) = nI (c - 1) from nI_sub (b := 1) (by omega), nI_sub (by omega), and15 (by omega), if_pos (Nat.mod_lt _ (by decide))]
theorem lat_eq {M : MSt} {N T j : Nat} (h : Inv M N T) (hj : j < N) (h0 : ¬ M.1 7 j = 0) : gi_latest (M.1 7 j) (mKE M j) 0 = lat M j := by
  obtain ⟨h1, h2⟩ := h.mn hj
  have h3 : cnt M j ≠ 0 := fun q => h0 (by rw [h2, q]; rfl)
  rw [h2, show (0 : Int32) = nI 0 from rfl, latest_eq (by omega) h1, lat, if_neg h3]
  rfl
theorem cm_step_b (l : Launch) (D : mG) (x xa oa : Nat) (ov : Nat → Int64) (I : Nat → Nat → Nat) (N : Nat) (M : MSt) (T : Nat) (hlt : l.stackTraces = false) (hI : Inv M N T) (hT : T < 512) (st : Int32) (k : Int64) {i : Int32} (hb : i < 0 ∨ ¬ i < nI N) (val : Int64) : cmd l D x xa oa ov I N M T yL_step cL_step 7 [(0, 12, 15, 21), (0, 12, 19, 13), (0, 12, 23, 23)] [.ref x, .int i, .int st, .long k, .ref oa] 1 val M := cmd_t hI hT (by decide) (ch_step_t1 l D x xa oa ov I N M i st k (k := 7) (by decide) ((ct_step_b l D x xa (M.1 14 0) (M.1 14 1) (M.1 14 2) (M.1 14 3) (mIA I N) st k hlt (bad_of hI.N8 hb)).mono (fun H h => WS_sub0 h)))
theorem cm_follow_b (l : Launch) (D : mG) (x xa oa : Nat) (ov : Nat → Int64) (I : Nat → Nat → Nat) (N : Nat) (M : MSt) (T : Nat) (hlt : l.stackTraces = false) (hI : Inv M N T) (hT : T < 512) (st o : Int32) {i : Int32} (hb : i < 0 ∨ ¬ i < nI N) (val : Int64) : cmd l D x xa oa ov I N M T yL_follow cL_follow 6 [(0, 12, 15, 21), (0, 12, 19, 13), (0, 12, 23, 23)] [.ref x, .int i, .int st, .int o, .ref oa] 1 val M := cmd_t hI hT (by decide) (ch_follow_t1 l D x xa oa ov I N M i st o (k := 7) (by decide) ((ct_follow_b l D x xa (M.1 14 0) (M.1 14 1) (M.1 14 2) (M.1 14 3) (mIA I N) st o hlt (bad_of hI.N8 hb)).mono (fun H h => WS_sub0 h)))
theorem cm_read_b (l : Launch) (D : mG) (x xa oa : Nat) (ov : Nat → Int64) (I : Nat → Nat → Nat) (N : Nat) (M : MSt) (T : Nat) (hlt : l.stackTraces = false) (hI : Inv M N T) (hT : T < 512) (bits : Int64) {i : Int32} (hb : i < 0 ∨ ¬ i < nI N) (val : Int64) : cmd l D x xa oa ov I N M T yL_read cL_read 6 [(0, 10, 13, 21), (0, 10, 17, 13)] [.ref x, .int i, .long bits, .ref oa] 1 val M := cmd_t hI hT (by decide) (ch_read_t1 l D x xa oa ov I N M i bits (k := 7) (by decide) ((ct_read_b l D x xa (M.1 14 0) (M.1 14 1) (M.1 14 2) (M.1 14 3) (mIA I N) bits hlt (bad_of hI.N8 hb)).mono (fun H h => WS_sub0 h)))
theorem cm_reading_b (l : Launch) (D : mG) (x xa oa : Nat) (ov : Nat → Int64) (I : Nat → Nat → Nat) (N : Nat) (M : MSt) (T : Nat) (hlt : l.stackTraces = false) (hI : Inv M N T) (hT : T < 512) (w : Int32) {i : Int32} (hb : i < 0 ∨ ¬ i < nI N) (val : Int64) : cmd l D x xa oa ov I N M T yL_reading cL_reading 5 [(0, 9, 12, 21), (0, 9, 16, 37)] [.ref x, .int i, .int w, .ref oa] 1 val M := cmd_t hI hT (by decide) (ch_reading_t1 l D x xa oa ov I N M i w (k := 7) (by decide) ((ct_reading_b l D x xa (M.1 14 0) (M.1 14 1) (M.1 14 2) (M.1 14 3) (mIA I N) w hlt (bad_of hI.N8 hb)).mono (fun H h => WS_sub0 h)))
theorem cm_tell_b (l : Launch) (D : mG) (x xa oa : Nat) (ov : Nat → Int64) (I : Nat → Nat → Nat) (N : Nat) (M : MSt) (T : Nat) (hlt : l.stackTraces = false) (hI : Inv M N T) (hT : T < 512) (w : Int32) {i : Int32} (hb : i < 0 ∨ ¬ i < nI N) (val : Int64) : cmd l D x xa oa ov I N M T yL_tell cL_tell 5 [(0, 9, 12, 21), (0, 9, 16, 13), (0, 9, 20, 37)] [.ref x, .int i, .int w, .ref oa] 1 val M := cmd_t hI hT (by decide) (ch_tell_t1 l D x xa oa ov I N M i w (k := 7) (by decide) ((ct_tell_b l D x xa (M.1 14 0) (M.1 14 1) (M.1 14 2) (M.1 14 3) (mIA I N) w hlt (bad_of hI.N8 hb)).mono (fun H h => WS_sub0 h)))
theorem cm_whole_b (l : Launch) (D : mG) (x xa oa : Nat) (ov : Nat → Int64) (I : Nat → Nat → Nat) (N : Nat) (M : MSt) (T : Nat) (hlt : l.stackTraces = false) (hI : Inv M N T) (hT : T < 512)  {i : Int32} (hb : i < 0 ∨ ¬ i < nI N) (val : Int64) : cmd l D x xa oa ov I N M T yL_whole cL_whole 4 [(0, 9, 12, 21), (0, 9, 15, 37)] [.ref x, .int i, .ref oa] 1 val M := cmd_t hI hT (by decide) (ch_whole_t1 l D x xa oa ov I N M i  (k := 7) (by decide) ((ct_whole_b l D x xa (M.1 14 0) (M.1 14 1) (M.1 14 2) (M.1 14 3) (mIA I N)  hlt (bad_of hI.N8 hb)).mono (fun H h => WS_sub0 h)))
theorem cm_limits_b (l : Launch) (D : mG) (x xa oa : Nat) (ov : Nat → Int64) (I : Nat → Nat → Nat) (N : Nat) (M : MSt) (T : Nat) (hlt : l.stackTraces = false) (hI : Inv M N T) (hT : T < 512) (u w : Int64) {i : Int32} (hb : i < 0 ∨ ¬ i < nI N) (val : Int64) : cmd l D x xa oa ov I N M T yL_limits cL_limits 8 [(0, 20, 23, 21), (0, 20, 27, 13)] [.ref x, .int i, .long u, .long w, .ref oa] 1 val M := cmd_t hI hT (by decide) (ch_limits_t1 l D x xa oa ov I N M i u w (k := 7) (by decide) ((ct_limits_b l D x xa (M.1 14 0) (M.1 14 1) (M.1 14 2) (M.1 14 3) (mIA I N) u w hlt (bad_of hI.N8 hb)).mono (fun H h => WS_sub0 h)))
theorem cm_forget_b (l : Launch) (D : mG) (x xa oa : Nat) (ov : Nat → Int64) (I : Nat → Nat → Nat) (N : Nat) (M : MSt) (T : Nat) (hlt : l.stackTraces = false) (hI : Inv M N T) (hT : T < 512)  {i : Int32} (hb : i < 0 ∨ ¬ i < nI N) (val : Int64) : cmd l D x xa oa ov I N M T yL_forget cL_forget 4 [(0, 9, 12, 21)] [.ref x, .int i, .ref oa] 1 val M := cmd_t hI hT (by decide) (ch_forget_t1 l D x xa oa ov I N M i  (k := 7) (by decide) ((ct_forget_b l D x xa (M.1 14 0) (M.1 14 1) (M.1 14 2) (M.1 14 3) (mIA I N)  hlt (bad_of hI.N8 hb)).mono (fun H h => WS_sub0 h)))
theorem cm_alarms_b (l : Launch) (D : mG) (x xa oa : Nat) (ov : Nat → Int64) (I : Nat → Nat → Nat) (N : Nat) (M : MSt) (T : Nat) (hlt : l.stackTraces = false) (hI : Inv M N T) (hT : T < 512)  {i : Int32} (hb : i < 0 ∨ ¬ i < nI N) (val : Int64) : cmd l D x xa oa ov I N M T yL_alarms cL_alarms 4 [(0, 9, 12, 21)] [.ref x, .int i, .ref oa] 1 val M := cmd_t hI hT (by decide) (ch_alarms_t1 l D x xa oa ov I N M i  (k := 7) (by decide) ((ct_alarms_b l D x xa (M.1 14 0) (M.1 14 1) (M.1 14 2) (M.1 14 3) (mIA I N)  hlt (bad_of hI.N8 hb)).mono (fun H h => WS_sub0 h)))
