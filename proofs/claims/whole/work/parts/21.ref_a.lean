/-! THE REFERENCE's METHODS over its cells -/
section MN
variable {p : Program} {l : Launch} {e : Env} {R : Room} {s : State} {m : MethodId} {args : Array Value} {below : List Frame} {meth : Method} {c : Code} {H : Heap} {locs : List Loc} {cells slots : Nat} {Q : State → Prop}
variable {cc : ByteArray} {pc nL n : Nat} {ls : Array Slot} {rest : List Value} {D : mG} {own : String} {ws w1 : va_W} {A : Nat → Prop} {a : Nat} {j : Int32}
theorem mN_iald {f : Nat → Int32} (G : CallFix p m c cc nL s args aw own) (hgf : GF D s) (hP : va_at D.1 vwCl (a, .inl (D.2.1, n, .inl f)) H) {k : Nat} (hj : j = nI k) (hk : k < n) (hn : n < 2 ^ 31) (hdg : decode cc pc = .ok (.iaload, 1)) (kk : W p l e R s m args below meth c H locs cells slots Q (F0 m (pc + 1) ls (.int (f k) :: rest))) : W p l e R s m args below meth c H locs cells slots Q (F0 m pc ls (.int j :: .ref a :: rest)) := by
  subst hj
  refine mw_iald G hgf hP (vp_in_nI hk hn) hdg ?_
  rw [nI_clamp (by omega)]
  exact kk
theorem mN_lald {f : Nat → Int64} (G : CallFix p m c cc nL s args aw own) (hgf : GF D s) (hP : va_at D.1 vwCl (a, .inl (D.2.2.1, n, .inr (.inl f))) H) {k : Nat} (hj : j = nI k) (hk : k < n) (hn : n < 2 ^ 31) (hdg : decode cc pc = .ok (.laload, 1)) (kk : W p l e R s m args below meth c H locs cells slots Q (F0 m (pc + 1) ls (.long (f k) :: rest))) : W p l e R s m args below meth c H locs cells slots Q (F0 m pc ls (.int j :: .ref a :: rest)) := by
  subst hj
  refine mw_lald G hgf hP (vp_in_nI hk hn) hdg ?_
  rw [nI_clamp (by omega)]
  exact kk
theorem mN_aald {f : Nat → Option Nat} (G : CallFix p m c cc nL s args aw own) (hgf : GF D s) (hP : va_at D.1 vwCl (a, .inl (D.2.2.2, n, .inr (.inr (.inr (.inr f))))) H) {k : Nat} (hj : j = nI k) (hk : k < n) (hn : n < 2 ^ 31) (hdg : decode cc pc = .ok (.aaload, 1)) (kk : W p l e R s m args below meth c H locs cells slots Q (F0 m (pc + 1) ls (va_rf (f k) :: rest))) : W p l e R s m args below meth c H locs cells slots Q (F0 m pc ls (.int j :: .ref a :: rest)) := by
  subst hj
  refine mw_aald G hgf hP (vp_in_nI hk hn) hdg ?_
  rw [nI_clamp (by omega)]
  exact kk
theorem mN_iast {f : Nat → Int32} {x : Int32} (G : CallFix p m c cc nL s args aw own) (hgf : GF D s) (hP : va_P D.1 vwCl ws H) (hD : va_D A ws) (hS : va_S A s.heap H locs) (q0 : Nat) (he : ws[q0]? = some (a, .inl (D.2.1, n, .inl f))) {k : Nat} (hj : j = nI k) (hk : k < n) (hn : n < 2 ^ 31) (hw : ws.set q0 (a, .inl (D.2.1, n, .inl (upd f k x))) = w1) (hdg : decode cc pc = .ok (.iastore, 1))
    (kk : ∀ (H1 : Heap) (locs1 : List Loc), va_P D.1 vwCl w1 H1 → va_D A w1 → va_S A s.heap H1 locs1 → W p l e R s m args below meth c H1 locs1 cells slots Q (F0 m (pc + 1) ls rest)) : W p l e R s m args below meth c H locs cells slots Q (F0 m pc ls (.int x :: .int j :: .ref a :: rest)) := by
  subst hj
  exact mw_iast G hgf hP hD hS q0 he (vp_in_nI hk hn) (by rw [nI_clamp (by omega)]; exact hw) hdg kk
theorem mN_last {f : Nat → Int64} {x : Int64} (G : CallFix p m c cc nL s args aw own) (hgf : GF D s) (hP : va_P D.1 vwCl ws H) (hD : va_D A ws) (hS : va_S A s.heap H locs) (q0 : Nat) (he : ws[q0]? = some (a, .inl (D.2.2.1, n, .inr (.inl f)))) {k : Nat} (hj : j = nI k) (hk : k < n) (hn : n < 2 ^ 31) (hw : ws.set q0 (a, .inl (D.2.2.1, n, .inr (.inl (vp_updL f k x)))) = w1) (hdg : decode cc pc = .ok (.lastore, 1))
    (kk : ∀ (H1 : Heap) (locs1 : List Loc), va_P D.1 vwCl w1 H1 → va_D A w1 → va_S A s.heap H1 locs1 → W p l e R s m args below meth c H1 locs1 cells slots Q (F0 m (pc + 1) ls rest)) : W p l e R s m args below meth c H locs cells slots Q (F0 m pc ls (.long x :: .int j :: .ref a :: rest)) := by
  subst hj
  exact mw_last G hgf hP hD hS q0 he (vp_in_nI hk hn) (by rw [nI_clamp (by omega)]; exact hw) hdg kk
end MN
/-- how many readings instrument j has, how many steps; its latest reading -/
def cnt (M : MSt) (j : Nat) : Nat := (M.1 7 j).toNatClampNeg
def chn (M : MSt) (j : Nat) : Nat := (M.1 1 j).toNatClampNeg
def lat (M : MSt) (j : Nat) : Int64 := if cnt M j = 0 then 0 else M.2 8 (16 * j + (cnt M j - 1) % 16)
/-- a state with n instruments -/
def mok (M : MSt) (n : Nat) : Prop := n ≤ 8 ∧ M.1 14 0 = nI n ∧ (∀ j, j < 8 → chn M j ≤ 6 ∧ M.1 1 j = nI (chn M j)) ∧ (∀ j, j < 8 → cnt M j ≤ 512 ∧ M.1 7 j = nI (cnt M j)) ∧ ∀ j, j < n → ∀ c, c < chn M j → M.1 3 (6 * j + c) < 0 ∨ ∃ k, k < n ∧ M.1 3 (6 * j + c) = nI k
def fX5_isInst (n i : Int32) : Int32 := if i < 0 then 0 else (if n ≤ i then 0 else 1)
theorem isInst_in {n j : Nat} (h : j < n) (hn : n ≤ 8) : fX5_isInst (nI n) (nI j) = 1 := by
  unfold fX5_isInst
  rw [if_neg (nI_pos (by omega)), if_neg (nI_ge h (by omega))]
theorem isInst_out {n : Nat} {i : Int32} (hn : n ≤ 8) (h : ¬ ∃ j, j < n ∧ i = nI j) : fX5_isInst (nI n) i = 0 := by
  unfold fX5_isInst
  by_cases h0 : i < 0
  · rw [if_pos h0]
  · rw [if_neg h0]
    by_cases h1 : nI n ≤ i
    · rw [if_pos h1]
    · obtain ⟨j, hj, rfl⟩ := nI_of h0
      exact absurd ⟨j, by
        rcases Nat.lt_or_ge j n with q | q
        · exact q
        · exact absurd (nI_le q hj) h1, rfl⟩ h
theorem nI_m16 {j k : Nat} (hk : k ≤ 512) (hj : j < 8) : (16 : Int32) * nI j + (nI k - nI k / 16 * 16) = nI (16 * j + k % 16) := by
  rw [show (16 : Int32) = nI 16 from rfl, pk_rem (by omega) (by omega) (by omega), pk_mul, nI_add]
theorem nI_m16p {j k : Nat} (h0 : k ≠ 0) (hk : k ≤ 512) (hj : j < 8) : (16 : Int32) * nI j + ((nI k - 1) - (nI k - 1) / 16 * 16) = nI (16 * j + (k - 1) % 16) := by
  obtain ⟨q, rfl⟩ : ∃ q, k = q + 1 := ⟨k - 1, by omega⟩
  rw [nI_pred, Nat.add_sub_cancel, show (16 : Int32) = nI 16 from rfl, pk_rem (by omega) (by omega) (by omega), pk_mul, nI_add]
theorem nI_6 {j c : Nat} : (6 : Int32) * nI j + nI c = nI (6 * j + c) := by
  rw [show (6 : Int32) = nI 6 from rfl, pk_mul, nI_add]
theorem nI_z {k : Nat} (hk : k ≤ 512) : nI k = 0 ↔ k = 0 := by
  rw [show (0 : Int32) = nI 0 from rfl]; exact nI_eq (by omega) (by omega)
theorem sI_self (M : MSt) (a i : Nat) (v : Int32) : (sI M a i v).1 a i = v := by simp [sI, va_up, upd]
theorem sL_self (M : MSt) (a i : Nat) (v : Int64) : (sL M a i v).2 a i = v := by simp [sL, va_up, vp_updL]
theorem lt8 {n : Nat} (h : n ≤ 8) (h2 : ¬ nI n = 8) : n < 8 := by
  rcases Nat.lt_or_ge n 8 with q | q
  · exact q
  · exact absurd (by rw [show n = 8 by omega]; rfl) h2
theorem lt6 {n : Nat} (h : n ≤ 6) (h2 : ¬ nI n = 6) : n < 6 := by
  rcases Nat.lt_or_ge n 6 with q | q
  · exact q
  · exact absurd (by rw [show n = 6 by omega]; rfl) h2
theorem nI_rd {j k : Nat} {x : Int32} (hk : k ≤ 512) (hj : j < 8) (h0 : ¬ x < 0) (h1 : ¬ nI k ≤ x) : (16 : Int32) * nI j + (((nI k - 1) - x) - ((nI k - 1) - x) / 16 * 16) = nI (16 * j + (k - 1 - x.toNatClampNeg) % 16) := by
  obtain ⟨q, hq, rfl⟩ := nI_of h0
  rw [nI_clamp hq]
  have hlt : q < k := by
    rcases Nat.lt_or_ge q k with z | z
    · exact z
    · exact absurd (nI_le z hq) h1
  obtain ⟨z, rfl⟩ : ∃ z, k = z + 1 := ⟨k - 1, by omega⟩
  rw [nI_pred, Nat.add_sub_cancel, pk_sub (by omega), show (16 : Int32) = nI 16 from rfl, pk_rem (by omega) (by omega) (by omega), pk_mul, nI_add]
theorem pair3 {α β γ : Type} {a a' : α} {b b' : β} {c c' : γ} (h1 : a = a') (h2 : b = b') (h3 : c = c') : (a, b, c) = (a', b', c') := by rw [h1, h2, h3]
set_option maxRecDepth 100000 in
set_option maxHeartbeats 4000000 in
theorem cvX5_thrown (l : Launch) (D : mG) (r : Nat) (ma : Nat → Nat) (t : Int32) (M : MSt)  : cV l D yX5_thrown cX5_thrown 1 .int 0 (fun H => va_P D.1 vwCl (wM D r ma t M) H) [.ref r] (.int t) := by
  refine cV_of (by decide) (Nat.le_of_ble_eq_true rfl) ?_
  intro p e s m below meth c ls hx hb hr hlocks G hgf hP hl
  have hP : va_P D.1 vwCl (wM D r ma t M) s.heap := hP
  have hl : lv_has ls 1 [(0, .ref r)] := hl
  refine lv_aload_n hx hb dX5_thrown_0 rfl (lv_at hl 0 rfl) ?_
  refine mw_get G hgf (hP 0 _ rfl) rfl inX5 0 (by decide) qw3_162 rfl dX5_thrown_1 ?_
  exact mw_iret hx hb hr hlocks dX5_thrown_4 (rfl)
set_option maxRecDepth 100000 in
set_option maxHeartbeats 4000000 in
theorem cqX5_fail (l : Launch) (D : mG) (r : Nat) (ma : Nat → Nat) (t : Int32) (M : MSt) (pl : Int32) : cQ l D yX5_fail cX5_fail 2 (some .int) (rmP 0) (wM D r ma t M) [.ref r, .int pl] (some (.int 0)) (wM D r ma pl M) := by
  refine cQ_of (by decide) (Nat.le_of_ble_eq_true rfl) ?_
  intro p e s m below meth c ls A hx hb hr hlocks G hnm hgf hA hP hD hS hl
  have hl : lv_has ls 2 [(0, .ref r), (1, .int pl)] := hl
  refine lv_aload_n hx hb dX5_fail_0 rfl (lv_at hl 0 rfl) ?_
  refine lv_iload_n hx hb dX5_fail_1 rfl (lv_at hl 1 rfl) ?_
  refine mw_put (w1 := wM D r ma pl M) G hgf hP hD hS 0 rfl rfl inX5 tyX5_ok nmX5 0 (by decide) qw3_162 rfl rfl rfl rfl (Nat.le_of_ble_eq_true rfl) rfl dX5_fail_2 (fun H locs hP hD hS => ?_)
  refine lv_iconst (v := 0) hx hb dX5_fail_5 (by decide) ?_
  exact mM_iret (h := (0, pl, M)) (rfl) hx hb hr hlocks hP hD hS dX5_fail_6
set_option maxRecDepth 100000 in
set_option maxHeartbeats 4000000 in
theorem cvX5_isInstrument (l : Launch) (D : mG) (r : Nat) (ma : Nat → Nat) (t : Int32) (M : MSt) (i : Int32) : cV l D yX5_isInstrument cX5_isInstrument 2 .boolean 0 (fun H => va_P D.1 vwCl (wM D r ma t M) H) [.ref r, .int i] (.int (fX5_isInst (M.1 14 0) i)) := by
  refine cV_of (by decide) (Nat.le_of_ble_eq_true rfl) ?_
  intro p e s m below meth c ls hx hb hr hlocks G hgf hP hl
  have hP : va_P D.1 vwCl (wM D r ma t M) s.heap := hP
  have hl : lv_has ls 2 [(0, .ref r), (1, .int i)] := hl
  refine lv_iload_n hx hb dX5_isInstrument_0 rfl (lv_at hl 1 rfl) ?_
  refine lv_if_lt (tgt := 16) hx hb dX5_isInstrument_1 (by decide) (fun c_1 => ?_) (fun c_1 => ?_)
  · refine lv_iconst (v := 0) hx hb dX5_isInstrument_16 (by decide) ?_
    exact mw_zret hx hb hr hlocks dX5_isInstrument_17 (Or.inl rfl) (((if_pos c_1).trans (rfl)).symm)
  · refine lv_iload_n hx hb dX5_isInstrument_4 rfl (lv_at hl 1 rfl) ?_
    refine lv_aload_n hx hb dX5_isInstrument_5 rfl (lv_at hl 0 rfl) ?_
    refine mw_get G hgf (hP 0 _ rfl) rfl inX5 1 (by decide) qw3_163 rfl dX5_isInstrument_6 ?_
    refine lv_icmp_ge (tgt := 16) hx hb dX5_isInstrument_9 (by decide) (fun c_2 => ?_) (fun c_2 => ?_)
    · refine lv_iconst (v := 0) hx hb dX5_isInstrument_16 (by decide) ?_
      exact mw_zret hx hb hr hlocks dX5_isInstrument_17 (Or.inl rfl) (((if_neg c_1).trans ((if_pos c_2).trans (rfl))).symm)
    · refine lv_iconst (v := 1) hx hb dX5_isInstrument_12 (by decide) ?_
      refine lv_goto (tgt := 17) hx hb dX5_isInstrument_13 (by decide) ?_
      exact mw_zret hx hb hr hlocks dX5_isInstrument_17 (Or.inr rfl) (((if_neg c_1).trans ((if_neg c_2).trans (rfl))).symm)
set_option maxRecDepth 100000 in
set_option maxHeartbeats 4000000 in
theorem cvX5_latest (l : Launch) (D : mG) (r : Nat) (ma : Nat → Nat) (t : Int32) (M : MSt) {j : Nat} (hj : j < 8) (hc : cnt M j ≤ 512) (hm : M.1 7 j = nI (cnt M j)) : cV l D yX5_latest cX5_latest 2 .long 0 (fun H => va_P D.1 vwCl (wM D r ma t M) H) [.ref r, .int (nI j)] (.long (lat M j)) := by
  refine cV_of (by decide) (Nat.le_of_ble_eq_true rfl) ?_
  intro p e s m below meth c ls hx hb hr hlocks G hgf hP hl
  have hP : va_P D.1 vwCl (wM D r ma t M) s.heap := hP
  have hl : lv_has ls 2 [(0, .ref r), (1, .int (nI j))] := hl
  by_cases h0 : cnt M j = 0
  · refine lv_aload_n hx hb dX5_latest_0 rfl (lv_at hl 0 rfl) ?_
    refine mw_get G hgf (hP 0 _ rfl) rfl inX5 9 (by decide) qw3_171 rfl dX5_latest_1 ?_
    refine lv_iload_n hx hb dX5_latest_4 rfl (lv_at hl 1 rfl) ?_
    refine mN_iald (f := M.1 7) G hgf (hP 8 _ rfl) (k := j) (rfl) (hj) (by decide) dX5_latest_5 ?_
    rw [show M.1 7 j = nI (cnt M j) from hm]
    refine lv_if_ne (tgt := 13) hx hb dX5_latest_6 (by decide) (fun h => absurd ((nI_z hc).mpr h0) h) (fun _ => ?_)
    refine lv_lconst (v := 0) hx hb dX5_latest_9 (by decide) ?_
    refine lv_goto (tgt := 34) hx hb dX5_latest_10 (by decide) ?_
    exact mw_lret hx hb hr hlocks dX5_latest_34 ((if_pos h0).symm)
  · refine lv_aload_n hx hb dX5_latest_0 rfl (lv_at hl 0 rfl) ?_
    refine mw_get G hgf (hP 0 _ rfl) rfl inX5 9 (by decide) qw3_171 rfl dX5_latest_1 ?_
    refine lv_iload_n hx hb dX5_latest_4 rfl (lv_at hl 1 rfl) ?_
    refine mN_iald (f := M.1 7) G hgf (hP 8 _ rfl) (k := j) (rfl) (hj) (by decide) dX5_latest_5 ?_
    rw [show M.1 7 j = nI (cnt M j) from hm]
    refine lv_if_ne (tgt := 13) hx hb dX5_latest_6 (by decide) (fun _ => ?_) (fun h => absurd h (fun q => h0 ((nI_z hc).mp q)))
    refine lv_aload_n hx hb dX5_latest_13 rfl (lv_at hl 0 rfl) ?_
    refine mw_get G hgf (hP 0 _ rfl) rfl inX5 10 (by decide) qw3_172 rfl dX5_latest_14 ?_
    refine lv_bipush (v := 16) hx hb dX5_latest_17 (by decide) ?_
    refine lv_iload_n hx hb dX5_latest_19 rfl (lv_at hl 1 rfl) ?_
    refine lv_imul hx hb dX5_latest_20 ?_
    refine lv_aload_n hx hb dX5_latest_21 rfl (lv_at hl 0 rfl) ?_
    refine mw_get G hgf (hP 0 _ rfl) rfl inX5 9 (by decide) qw3_171 rfl dX5_latest_22 ?_
    refine lv_iload_n hx hb dX5_latest_25 rfl (lv_at hl 1 rfl) ?_
    refine mN_iald (f := M.1 7) G hgf (hP 8 _ rfl) (k := j) (rfl) (hj) (by decide) dX5_latest_26 ?_
    rw [show M.1 7 j = nI (cnt M j) from hm]
    refine lv_iconst (v := 1) hx hb dX5_latest_27 (by decide) ?_
    refine lv_isub hx hb dX5_latest_28 ?_
    refine lv_bipush (v := 16) hx hb dX5_latest_29 (by decide) ?_
    refine lv_irem hx hb dX5_latest_31 (by decide) ?_
    refine lv_iadd hx hb dX5_latest_32 ?_
    refine mN_lald (f := M.2 8) G hgf (hP 9 _ rfl) (k := 16 * j + (cnt M j - 1) % 16) (nI_m16p h0 hc hj) (by omega) (by decide) dX5_latest_33 ?_
    exact mw_lret hx hb hr hlocks dX5_latest_34 ((if_neg h0).symm)
