/-! WHAT THE MATHEMATICS MUST SAY: on valid numbers of a sort the class answers as the reference -/
def srt (so : Int32) : Prop := so = 0 ∨ so = 1 ∨ so = 2 ∨ so = 3
/-- v is a number of the sort, as both sides hold it -/
def vld (so : Int32) (v : Int64) : Prop := fX5_cut so v = v ∧ fX5_isNone so v = 0
/-- an amount, or a sum of amounts -/
def amt (so : Int32) (v : Int64) : Prop := vld so v ∧ (2 ≤ so → 0 ≤ v)
def toI (so : Int32) (lw : Int64) : Int32 := if so = 2 then FP.f2i (fX5_single lw) else (if so = 3 then FP.d2i (fX5_real lw) else (if (-2147483648) ≤ lw then (if lw ≤ 2147483647 then lw else 2147483647) else (-2147483648) : Int64).toInt32)
def maW : Prop := ∀ so, srt so → ∀ k, gn_ofWidth (ff so) (zz so) k = fX5_cut so k
def maS : Prop := ∀ so, srt so → ∀ st, gn_hasStep (ff so) (zz so) st = fX5_isStep so st
def maN : Prop := ∀ so, srt so → ∀ k, gn_isNumber (ff so) (zz so) (fX5_cut so k) = 0 ↔ ¬ fX5_isNone so k = 0
def maO : Prop := ∀ so, srt so → ∀ a b, vld so a → vld so b → gn_greater (ff so) (zz so) a b = fX5_greater so a b ∧ gn_lesser (ff so) (zz so) a b = fX5_lesser so a b ∧ gn_isAbove (ff so) (zz so) a b = fX5_isAbove so a b
def maA : Prop := ∀ so, srt so → ∀ v, vld so v → gn_amount (ff so) (zz so) v = fX5_amount so v ∧ amt so (fX5_amount so v)
def maC : Prop := ∀ so, srt so → ∀ kd v k, ¬ fX5_isStep so kd = 0 → vld so v → (fX5_takes kd = 0 ∨ vld so k) → gn_stepped (ff so) (zz so) kd v k = fX5_changed so kd v k ∧ vld so (fX5_changed so kd v k)
def maD : Prop := ∀ so, srt so → ∀ v w, vld so v → vld so w → gn_apart (ff so) (zz so) v w = fX5_swing so v w ∧ okSwing so v w ∧ vld so (fX5_swing so v w)
def maP : Prop := ∀ so, srt so → ∀ s a, amt so s → amt so a → gn_plus (ff so) (zz so) s a = fX5_sum so s a ∧ okSum so s a ∧ amt so (fX5_sum so s a)
def maZ : Prop := ∀ so, srt so → ∀ a, amt so a → fX5_sum so 0 a = a
def maI : Prop := ∀ so, srt so → ∀ v, vld so v → gn_toInt (ff so) (zz so) v = toI so v
def MATH : Prop := maW ∧ maS ∧ maN ∧ maO ∧ maA ∧ maC ∧ maD ∧ maP ∧ maZ ∧ maI
/-- what holds of the reference's state between calls: T calls at most have been made -/
def Inv (M : MSt) (N T : Nat) : Prop :=
  mok M N ∧ fresh M N ∧ (∀ j, cnt M j ≤ T) ∧ T ≤ 512 ∧
  (∀ j, j < N → srt (M.1 0 j) ∧ vld (M.1 0 j) (M.2 5 j) ∧ vld (M.1 0 j) (M.2 6 j)) ∧
  (∀ j, j < N → cnt M j ≠ 0 → vld (M.1 0 j) (M.2 9 j) ∧ vld (M.1 0 j) (M.2 10 j) ∧ vld (M.1 0 j) (M.2 11 j) ∧ amt (M.1 0 j) (M.2 12 j)) ∧
  (∀ j, j < N → ∀ c, c < cnt M j → c < 16 → vld (M.1 0 j) (M.2 8 (16 * j + c))) ∧
  (∀ j, j < N → ∀ c, c < chn M j → ¬ fX5_isStep (M.1 0 j) (M.1 2 (6 * j + c)) = 0 ∧ ((M.1 3 (6 * j + c) < 0 ∧ (fX5_takes (M.1 2 (6 * j + c)) = 0 ∨ vld (M.1 0 j) (M.2 4 (6 * j + c)))) ∨ ∃ k, k < N ∧ M.1 3 (6 * j + c) = nI k ∧ M.1 0 k = M.1 0 j))
theorem srt_ok : ∀ so, srt so → fX4_isSort so = 1 := by
  rintro so (rfl | rfl | rfl | rfl) <;> decide
theorem vld0 {so : Int32} (h : srt so) : vld so 0 := by
  rcases h with rfl | rfl | rfl | rfl <;> exact ⟨by decide, by decide⟩
/-- the latest reading is a number -/
theorem Inv.vlat {M : MSt} {N T j : Nat} (h : Inv M N T) (hj : j < N) : vld (M.1 0 j) (lat M j) := by
  unfold lat
  split
  · exact vld0 (h.2.2.2.2.1 j hj).1
  · rename_i h0
    exact h.2.2.2.2.2.2.1 j hj _ (by have := Nat.mod_le (cnt M j - 1) 16; omega) (Nat.mod_lt _ (by decide))
theorem takes_eq (st : Int32) : fX4_takesK st = fX5_takes st := by
  unfold fX4_takesK fX5_takes
  first | rfl | (split <;> (try rfl) <;> split <;> (try rfl) <;> split <;> simp_all)
/-- a command of the law, on the class's side: the helper answers t1, and val stands in out if that is 0 -/
def cmd (l : Launch) (D : mG) (x xa oa : Nat) (ov : Nat → Int64) (I : Nat → Nat → Nat) (N : Nat) (M : MSt) (T : Nat) (y : MethodName) (b : ByteArray) (n : Nat) (hh : List (Nat × Nat × Nat × Nat)) (As : List Value) (t1 : Int32) (val : Int64) (M1 : MSt) : Prop :=
  ∃ (S : Type) (I1 : S → Nat → Nat → Nat) (N1 : Nat) (ov1 : Nat → Int64), cH l D y b n hh rmH (WS D x xa oa ov I N M) As (fun _ : S => some (.int t1)) (fun u => WS D x xa oa ov1 (I1 u) N1 M1) ∧ (t1 = 0 → ov1 0 = val) ∧ Inv M1 N1 (T + 1)
theorem Inv.more {M : MSt} {N T : Nat} (h : Inv M N T) (hT : T < 512) : Inv M N (T + 1) := ⟨h.1, h.2.1, fun j => Nat.le_succ_of_le (h.2.2.1 j), hT, h.2.2.2.2⟩
/-- a command that throws -/
theorem cmd_t {l : Launch} {D : mG} {x xa oa : Nat} {ov : Nat → Int64} {I : Nat → Nat → Nat} {N : Nat} {M : MSt} {T : Nat} {y : MethodName} {b : ByteArray} {n : Nat} {hh : List (Nat × Nat × Nat × Nat)} {As : List Value} {t1 : Int32} {val : Int64} (hI : Inv M N T) (hT : T < 512) (h0 : t1 ≠ 0) (h : cH l D y b n hh rmH (WS D x xa oa ov I N M) As (fun _ : Unit => some (.int t1)) (fun _ => WS D x xa oa ov I N M)) : cmd l D x xa oa ov I N M T y b n hh As t1 val M :=
  ⟨Unit, fun _ => I, N, ov, h, fun q => absurd q h0, hI.more hT⟩
/-- a command that answers, and makes nothing -/
theorem cmd_v {l : Launch} {D : mG} {x xa oa : Nat} {ov : Nat → Int64} {I : Nat → Nat → Nat} {N : Nat} {M M1 : MSt} {T : Nat} {y : MethodName} {b : ByteArray} {n : Nat} {hh : List (Nat × Nat × Nat × Nat)} {As : List Value} {val : Int64} (hI : Inv M1 N (T + 1)) (h : cH l D y b n hh rmH (WS D x xa oa ov I N M) As (fun _ : Unit => some (.int 0)) (fun _ => WS D x xa oa (vp_updL ov 0 val) I N M1)) : cmd l D x xa oa ov I N M T y b n hh As 0 val M1 :=
  ⟨Unit, fun _ => I, N, _, h, fun _ => if_pos rfl, hI⟩
