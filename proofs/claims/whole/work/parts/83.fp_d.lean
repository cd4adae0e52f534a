/-! THE MACHINE's SUM AND DIFFERENCE -/
theorem na_sum {s t : Bool} {X Y : Nat} (h : Y ≤ X) : (FP.Core.signed s X + FP.Core.signed t Y).natAbs = (if s = t then X + Y else X - Y) ∧ (FP.Core.signed s Y + FP.Core.signed t X).natAbs = (if s = t then X + Y else X - Y) := by
  cases s <;> cases t <;> simp [FP.Core.signed] <;> omega
theorem ss_pos {X Y : Nat} : FP.Core.sumSign false false (FP.Core.signed false X + FP.Core.signed false Y) = false := by
  simp [FP.Core.sumSign, FP.Core.signed]
  omega
theorem ex_sum (z s t : Bool) (a b : Nat) : ∃ s', FP.Core.exactSum (.fin s (xp_s z a) ((fm z).qmin + ((xp_e z a : Int) - 1))) (.fin t (xp_s z b) ((fm z).qmin + ((xp_e z b : Int) - 1))) = .fin s' (if s = t then xp_s z (max a b) * 2 ^ (xp_e z (max a b) - xp_e z (min a b)) + xp_s z (min a b) else xp_s z (max a b) * 2 ^ (xp_e z (max a b) - xp_e z (min a b)) - xp_s z (min a b)) ((fm z).qmin + ((xp_e z (min a b) : Int) - 1)) ∧ (s = false → t = false → s' = false) := by
  generalize hQ : (fm z).qmin = q0
  rcases Nat.le_total b a with h | h
  · obtain ⟨v1, v2, -⟩ := val_le (z := z) h
    rw [Nat.max_eq_left h, Nat.min_eq_right h]
    have hmin : min (q0 + ((xp_e z a : Int) - 1)) (q0 + ((xp_e z b : Int) - 1)) = q0 + ((xp_e z b : Int) - 1) := by omega
    refine ⟨FP.Core.sumSign s t (FP.Core.sumUnits s (xp_s z a) (q0 + ((xp_e z a : Int) - 1)) t (xp_s z b) (q0 + ((xp_e z b : Int) - 1)) (min (q0 + ((xp_e z a : Int) - 1)) (q0 + ((xp_e z b : Int) - 1)))), ?_, ?_⟩
    · show FP.Core.Datum.fin _ (FP.Core.sumUnits s (xp_s z a) (q0 + ((xp_e z a : Int) - 1)) t (xp_s z b) (q0 + ((xp_e z b : Int) - 1)) (min (q0 + ((xp_e z a : Int) - 1)) (q0 + ((xp_e z b : Int) - 1)))).natAbs (min (q0 + ((xp_e z a : Int) - 1)) (q0 + ((xp_e z b : Int) - 1))) = _
      rw [hmin]
      unfold FP.Core.sumUnits FP.Core.inUnits
      rw [show (q0 + ((xp_e z a : Int) - 1) - (q0 + ((xp_e z b : Int) - 1))).toNat = xp_e z a - xp_e z b by omega, Int.sub_self, Int.toNat_zero, Nat.pow_zero, Nat.mul_one, (na_sum v2).1]
    · rintro rfl rfl
      exact ss_pos
  · obtain ⟨v1, v2, -⟩ := val_le (z := z) h
    rw [Nat.max_eq_right h, Nat.min_eq_left h]
    have hmin : min (q0 + ((xp_e z a : Int) - 1)) (q0 + ((xp_e z b : Int) - 1)) = q0 + ((xp_e z a : Int) - 1) := by omega
    refine ⟨FP.Core.sumSign s t (FP.Core.sumUnits s (xp_s z a) (q0 + ((xp_e z a : Int) - 1)) t (xp_s z b) (q0 + ((xp_e z b : Int) - 1)) (min (q0 + ((xp_e z a : Int) - 1)) (q0 + ((xp_e z b : Int) - 1)))), ?_, ?_⟩
    · show FP.Core.Datum.fin _ (FP.Core.sumUnits s (xp_s z a) (q0 + ((xp_e z a : Int) - 1)) t (xp_s z b) (q0 + ((xp_e z b : Int) - 1)) (min (q0 + ((xp_e z a : Int) - 1)) (q0 + ((xp_e z b : Int) - 1)))).natAbs (min (q0 + ((xp_e z a : Int) - 1)) (q0 + ((xp_e z b : Int) - 1))) = _
      rw [hmin]
      unfold FP.Core.sumUnits FP.Core.inUnits
      rw [show (q0 + ((xp_e z b : Int) - 1) - (q0 + ((xp_e z a : Int) - 1))).toNat = xp_e z b - xp_e z a by omega, Int.sub_self, Int.toNat_zero, Nat.pow_zero, Nat.mul_one, (na_sum v2).2]
    · rintro rfl rfl
      exact ss_pos
theorem enc_inf {z s : Bool} : FP.Core.encode (fm z) (.inf s) = s.toNat * fw z + inN z := by
  show FP.Core.assemble (fm z) s ((fm z).exps - 1) 0 = _
  rw [as_n, fm_exps]; rfl
theorem dec_c {z s : Bool} {n : Nat} (h : n ≤ inN z) : FP.Core.decode (fm z) (s.toNat * fw z + n) = if n = inN z then .inf s else .fin s (xp_s z n) ((fm z).qmin + ((xp_e z n : Int) - 1)) := by
  by_cases e : n = inN z
  · rw [if_pos e, e]; exact dec_inf
  · rw [if_neg e]; exact dec_n (show n < inN z by omega)
theorem neg_c {z t : Bool} {n : Nat} : FP.Core.negate (if n = inN z then .inf t else .fin t (xp_s z n) ((fm z).qmin + ((xp_e z n : Int) - 1))) = if n = inN z then .inf (!t) else .fin (!t) (xp_s z n) ((fm z).qmin + ((xp_e z n : Int) - 1)) := by
  split <;> rfl
/-- the rounded sum of two numbers of which no two endless ones of other signs are added, and no two like amounts of other signs -/
theorem rs_c {z s t : Bool} {a b : Nat} (ha : a ≤ inN z) (hb : b ≤ inN z) (hne : s = t ∨ a ≠ b) : ∃ s', FP.Core.encode (fm z) (FP.Core.round (fm z) (FP.Core.exactSum (if a = inN z then .inf s else .fin s (xp_s z a) ((fm z).qmin + ((xp_e z a : Int) - 1))) (if b = inN z then .inf t else .fin t (xp_s z b) ((fm z).qmin + ((xp_e z b : Int) - 1))))) = s'.toNat * fw z + (if s = t then plN z (max a b) (min a b) else miN z (max a b) (min a b)) ∧ (if s = t then plN z (max a b) (min a b) else miN z (max a b) (min a b)) ≤ inN z ∧ (s = false → t = false → s' = false) := by
  by_cases e1 : a = inN z
  · have hmax : max a b = inN z := by omega
    have hpl : plN z (max a b) (min a b) = inN z := by unfold plN; rw [if_pos hmax]
    by_cases e2 : b = inN z
    · have hst : s = t := hne.resolve_right (fun h => h (by omega))
      subst hst
      rw [if_pos e1, if_pos e2, if_pos rfl, hpl]
      refine ⟨s, ?_, Nat.le_refl _, fun h _ => h⟩
      show FP.Core.encode (fm z) (FP.Core.round (fm z) (if s = s then .inf s else .nan)) = _
      rw [if_pos rfl]; exact enc_inf
    · have hmi : miN z (max a b) (min a b) = inN z := by unfold miN; rw [if_neg (by omega), if_pos hmax]
      rw [if_pos e1, if_neg e2, hpl, hmi, ite_self]
      exact ⟨s, enc_inf, Nat.le_refl _, fun h _ => h⟩
  · by_cases e2 : b = inN z
    · have hmax : max a b = inN z := by omega
      have hpl : plN z (max a b) (min a b) = inN z := by unfold plN; rw [if_pos hmax]
      have hmi : miN z (max a b) (min a b) = inN z := by unfold miN; rw [if_neg (by omega), if_pos hmax]
      rw [if_neg e1, if_pos e2, hpl, hmi, ite_self]
      exact ⟨t, enc_inf, Nat.le_refl _, fun _ h => h⟩
    · rw [if_neg e1, if_neg e2]
      obtain ⟨s', h1, h2⟩ := ex_sum z s t a b
      rw [h1]
      show ∃ s'', FP.Core.encode (fm z) (FP.Core.roundRatio (fm z) s' _ 1 _) = _ ∧ _
      by_cases hst : s = t
      · rw [if_pos hst, if_pos hst]
        have := pl_core (z := z) (s := s') (mo := max a b) (le := min a b) (by omega) (by omega)
        exact ⟨s', this.1, this.2, h2⟩
      · rw [if_neg hst, if_neg hst]
        have := mi_core (z := z) (s := s') (mo := max a b) (le := min a b) (by omega) (by have := hne.resolve_left hst; omega)
        exact ⟨s', this.1, this.2, h2⟩
theorem add_c {z : Bool} {a b : Nat} (ha : a ≤ inN z) (hb : b ≤ inN z) : FP.Core.add (fm z) a b = plN z (max a b) (min a b) ∧ plN z (max a b) (min a b) ≤ inN z := by
  have h1 := dec_c (z := z) (s := false) ha
  have h2 := dec_c (z := z) (s := false) hb
  rw [show false.toNat * fw z + a = a by simp] at h1
  rw [show false.toNat * fw z + b = b by simp] at h2
  obtain ⟨s', g1, g2, g3⟩ := rs_c (z := z) (s := false) (t := false) ha hb (Or.inl rfl)
  rw [if_pos rfl] at g1 g2
  rw [g3 rfl rfl] at g1
  refine ⟨?_, g2⟩
  unfold FP.Core.add
  rw [h1, h2, g1]
  simp
theorem sub_c {z s t : Bool} {a b : Nat} (ha : a ≤ inN z) (hb : b ≤ inN z) (hne : s = !t ∨ a ≠ b) : ∃ s' : Bool, FP.Core.sub (fm z) (s.toNat * fw z + a) (t.toNat * fw z + b) = s'.toNat * fw z + (if s = !t then plN z (max a b) (min a b) else miN z (max a b) (min a b)) ∧ (if s = !t then plN z (max a b) (min a b) else miN z (max a b) (min a b)) ≤ inN z := by
  obtain ⟨s', g1, g2, -⟩ := rs_c (z := z) (s := s) (t := !t) ha hb hne
  refine ⟨s', ?_, g2⟩
  unfold FP.Core.sub
  rw [dec_c ha, dec_c hb, neg_c, g1]
