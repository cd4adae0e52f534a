/-! THE CLASS'S WORLD, told by the reference's state M: I j i is the address of cell i of instrument j, N how many there are -/
def ff (so : Int32) : Bool := decide (so = 2 ∨ so = 3)
def zz (so : Int32) : Bool := decide (so = 1 ∨ so = 3)
def mKI (M : MSt) (j : Nat) : Nat → Int32 := fun c => if c < 6 then M.1 2 (6 * j + c) else 0
def mKJ (M : MSt) (j : Nat) : Nat → Int64 := fun c => if c < 6 then M.2 4 (6 * j + c) else 0
def mKE (M : MSt) (j : Nat) : Nat → Int64 := fun c => if c < 16 then M.2 8 (16 * j + c) else 0
def mL (I : Nat → Nat → Nat) (M : MSt) (j : Nat) : Nat → Option Nat := fun c => if c < chn M j then (if 0 ≤ M.1 3 (6 * j + c) then some (I (M.1 3 (6 * j + c)).toNatClampNeg 0) else none) else none
abbrev wJ (D : mG) (I : Nat → Nat → Nat) (M : MSt) (j : Nat) : va_W := wI D (I j) (M.1 0 j) (M.2 5 j) (M.2 6 j) (M.1 13 j) (M.1 1 j) (M.2 9 j) (M.2 10 j) (M.2 11 j) (M.2 12 j) (M.1 7 j) (ff (M.1 0 j)) (zz (M.1 0 j)) (mKI M j) (mKJ M j) (mL I M j) (mKE M j)
def jc (D : mG) (I : Nat → Nat → Nat) (M : MSt) (j i : Nat) : Nat × va_E := (wJ D I M j).getD i (0, .inr (0, []))
def IW (D : mG) (I : Nat → Nat → Nat) (N : Nat) (M : MSt) : va_W := (List.range (6 * N)).map (fun t => jc D I M (t / 6) (t % 6))
def mIA (I : Nat → Nat → Nat) (N : Nat) : Nat → Option Nat := fun i => if i < N then some (I i 0) else none
abbrev mMa (x xa : Nat) (M : MSt) : Nat × va_E := (x, .inr (3, xF xa (M.1 14 0) (M.1 14 1) (M.1 14 2) (M.1 14 3)))
abbrev mAr (D : mG) (xa : Nat) (I : Nat → Nat → Nat) (N : Nat) : Nat × va_E := (xa, .inl (D.2.2.2, 8, .inr (.inr (.inr (.inr (mIA I N))))))
abbrev mOu (D : mG) (oa : Nat) (ov : Nat → Int64) : Nat × va_E := (oa, .inl (D.2.2.1, 1, .inr (.inl ov)))
abbrev WS (D : mG) (x xa oa : Nat) (ov : Nat → Int64) (I : Nat → Nat → Nat) (N : Nat) (M : MSt) : va_W := mMa x xa M :: mAr D xa I N :: mOu D oa ov :: IW D I N M
theorem wJ_get {D : mG} {I : Nat → Nat → Nat} {M : MSt} {j i : Nat} (hi : i < 6) : (wJ D I M j)[i]? = some (jc D I M j i) := by
  match i, hi with
  | 0, _ => rfl
  | 1, _ => rfl
  | 2, _ => rfl
  | 3, _ => rfl
  | 4, _ => rfl
  | 5, _ => rfl
theorem jc_fst {D : mG} {I : Nat → Nat → Nat} {M : MSt} {j i : Nat} (hi : i < 6) : (jc D I M j i).1 = I j i := by
  match i, hi with
  | 0, _ => rfl
  | 1, _ => rfl
  | 2, _ => rfl
  | 3, _ => rfl
  | 4, _ => rfl
  | 5, _ => rfl
theorem jc_mem {D : mG} {I : Nat → Nat → Nat} {M : MSt} {j i : Nat} (hi : i < 6) : jc D I M j i ∈ wJ D I M j := List.mem_of_getElem? (wJ_get hi)
theorem IW_get {D : mG} {I : Nat → Nat → Nat} {M : MSt} {N t : Nat} (h : t < 6 * N) : (IW D I N M)[t]? = some (jc D I M (t / 6) (t % 6)) := by
  rw [IW, List.getElem?_map, List.getElem?_range h]; rfl
theorem IW_at {D : mG} {I : Nat → Nat → Nat} {M : MSt} {N j i : Nat} (hj : j < N) (hi : i < 6) : (IW D I N M)[6 * j + i]? = some (jc D I M j i) := by
  rw [IW_get (by omega), show (6 * j + i) / 6 = j by omega, show (6 * j + i) % 6 = i by omega]
theorem WS_at {D : mG} {x xa oa : Nat} {ov : Nat → Int64} {I : Nat → Nat → Nat} {M : MSt} {N j i : Nat} (hj : j < N) (hi : i < 6) : (WS D x xa oa ov I N M)[6 * j + i + 3]? = some (jc D I M j i) := IW_at hj hi
theorem IW_fst {D : mG} {I : Nat → Nat → Nat} {M M' : MSt} {N : Nat} : (IW D I N M').map Prod.fst = (IW D I N M).map Prod.fst := by
  rw [IW, IW, List.map_map, List.map_map]
  exact List.map_congr_left (fun t _ => by show (jc D I M' (t / 6) (t % 6)).1 = (jc D I M (t / 6) (t % 6)).1; rw [jc_fst (Nat.mod_lt _ (by decide)), jc_fst (Nat.mod_lt _ (by decide))])
theorem WS_fst {D : mG} {x xa oa : Nat} {ov ov' : Nat → Int64} {I : Nat → Nat → Nat} {M M' : MSt} {N : Nat} : (WS D x xa oa ov' I N M').map Prod.fst = (WS D x xa oa ov I N M).map Prod.fst := by
  show x :: xa :: oa :: (IW D I N M').map Prod.fst = x :: xa :: oa :: (IW D I N M).map Prod.fst
  rw [IW_fst (M := M)]
/-- the places of the mast's and instrument j's cells -/
abbrev cJ (j : Nat) : List Nat := [0, 1, 6 * j + 0 + 3, 6 * j + 1 + 3, 6 * j + 2 + 3, 6 * j + 3 + 3, 6 * j + 4 + 3, 6 * j + 5 + 3]
theorem cJ_nd (j : Nat) : va_nd (cJ j) = true := by
  simp [va_nd, cJ]
theorem cJ_map {D : mG} {x xa oa : Nat} {ov : Nat → Int64} {I : Nat → Nat → Nat} {M : MSt} {N j : Nat} (hj : j < N) : (cJ j).map (fun i => (WS D x xa oa ov I N M)[i]?) = (mMa x xa M :: mAr D xa I N :: wJ D I M j).map some := by
  simp only [cJ, List.map_cons, List.map_nil, WS_at hj (by decide : 0 < 6), WS_at hj (by decide : 1 < 6), WS_at hj (by decide : 2 < 6), WS_at hj (by decide : 3 < 6), WS_at hj (by decide : 4 < 6), WS_at hj (by decide : 5 < 6)]
  rfl
theorem cJ_mem {j k : Nat} (h : k ∈ cJ j) : k = 0 ∨ k = 1 ∨ ∃ i, i < 6 ∧ k = 6 * j + i + 3 := by
  simp only [cJ, List.mem_cons, List.not_mem_nil, or_false] at h
  rcases h with h | h | h | h | h | h | h | h
  · exact Or.inl h
  · exact Or.inr (Or.inl h)
  · exact Or.inr (Or.inr ⟨0, by decide, h⟩)
  · exact Or.inr (Or.inr ⟨1, by decide, h⟩)
  · exact Or.inr (Or.inr ⟨2, by decide, h⟩)
  · exact Or.inr (Or.inr ⟨3, by decide, h⟩)
  · exact Or.inr (Or.inr ⟨4, by decide, h⟩)
  · exact Or.inr (Or.inr ⟨5, by decide, h⟩)
/-- a cell behind is as it was, or is one of instrument j's -/
theorem WS_cell {D : mG} {x xa oa : Nat} {ov : Nat → Int64} {I : Nat → Nat → Nat} {M M' : MSt} {N j : Nat} {isC : List Nat} (hj : j < N) (hoth : ∀ j', j' < N → j' ≠ j → wJ D I M' j' = wJ D I M j') (hC : ∀ k ∈ isC, (k = 0 ∨ k = 1 ∨ ∃ i, i < 6 ∧ k = 6 * j + i + 3) ∨ ∃ j' i, j' < N ∧ j' ≠ j ∧ i < 6 ∧ k = 6 * j' + i + 3) (w : va_W) (hw : ∀ z ∈ mMa x xa M' :: mAr D xa I N :: wJ D I M' j, z ∈ w) (hw2 : ∀ j' i, j' < N → j' ≠ j → i < 6 → 6 * j' + i + 3 ∈ isC → jc D I M j' i ∈ w) (k : Nat) (q : Nat × va_E) (hk : (WS D x xa oa ov I N M')[k]? = some q) : q ∈ w ∨ (k ∉ isC ∧ (WS D x xa oa ov I N M)[k]? = some q) := by
  match k, hk with
  | 0, hk => cases hk; exact Or.inl (hw _ List.mem_cons_self)
  | 1, hk => cases hk; exact Or.inl (hw _ (List.mem_cons_of_mem _ List.mem_cons_self))
  | 2, hk =>
    refine Or.inr ⟨fun h => ?_, hk⟩
    rcases hC 2 h with (h | h | ⟨i, _, h⟩) | ⟨j', i, _, _, _, h⟩ <;> omega
  | t + 3, hk =>
    have hk : (IW D I N M')[t]? = some q := hk
    have ht : t < 6 * N := by
      have h9 := (List.getElem?_eq_some_iff.mp hk).1
      rw [IW, List.length_map, List.length_range] at h9
      exact h9
    rw [IW_get ht] at hk
    cases hk
    have hi : t % 6 < 6 := Nat.mod_lt _ (by decide)
    have ht2 : t = 6 * (t / 6) + t % 6 := by omega
    by_cases e : t / 6 = j
    · rw [e]
      exact Or.inl (hw _ (List.mem_cons_of_mem _ (List.mem_cons_of_mem _ (jc_mem hi))))
    · have hjj : t / 6 < N := by omega
      have hs : jc D I M' (t / 6) (t % 6) = jc D I M (t / 6) (t % 6) := by rw [jc, jc, hoth _ hjj e]
      by_cases hin : t + 3 ∈ isC
      · rw [hs]
        exact Or.inl (hw2 _ _ hjj e hi (by rw [← ht2]; exact hin))
      · rw [hs]
        exact Or.inr ⟨hin, by show (IW D I N M)[t]? = _; rw [IW_get ht]⟩
theorem lift_j {l : Launch} {D : mG} {y : MethodName} {b : ByteArray} {n : Nat} {ret : Option FieldType} {rm : Room} {x xa oa : Nat} {ov : Nat → Int64} {I : Nat → Nat → Nat} {M M' : MSt} {N j : Nat} {Pic : Heap → Prop} {As : List Value} {v : Option Value} (hj : j < N) (hoth : ∀ j', j' < N → j' ≠ j → wJ D I M' j' = wJ D I M j') (h : cZ l D y b n ret rm (mMa x xa M :: mAr D xa I N :: wJ D I M j) Pic As (fun _ : Unit => v) (fun _ => mMa x xa M' :: mAr D xa I N :: wJ D I M' j))
    (hpic : ∀ H, va_P D.1 vwCl (WS D x xa oa ov I N M) H → Pic H) : cZ l D y b n ret rm (WS D x xa oa ov I N M) (fun _ => True) As (fun _ : Unit => v) (fun _ => WS D x xa oa ov I N M') :=
  h.frame (cJ j) (cJ_nd j) (cJ_map hj) (fun H h1 _ => hpic H h1) (fun _ => WS_fst) (fun _ k q hk => WS_cell hj hoth (fun k hk => Or.inl (cJ_mem hk)) _ (fun z hz => hz) (fun j' i h1 h2 h3 h4 => by
    rcases cJ_mem h4 with h | h | ⟨i', h5, h6⟩ <;> omega) k q hk)
/-- with the object of another instrument o -/
theorem lift_o {l : Launch} {D : mG} {y : MethodName} {b : ByteArray} {n : Nat} {ret : Option FieldType} {rm : Room} {x xa oa : Nat} {ov : Nat → Int64} {I : Nat → Nat → Nat} {M M' : MSt} {N j o : Nat} {As : List Value} {v : Option Value} (hj : j < N) (ho : o < N) (hne : o ≠ j) (hoth : ∀ j', j' < N → j' ≠ j → wJ D I M' j' = wJ D I M j') (h : cZ l D y b n ret rm (mMa x xa M :: mAr D xa I N :: (wJ D I M j ++ [jc D I M o 0])) (fun _ => True) As (fun _ : Unit => v) (fun _ => mMa x xa M' :: mAr D xa I N :: (wJ D I M' j ++ [jc D I M o 0]))) :
    cZ l D y b n ret rm (WS D x xa oa ov I N M) (fun _ => True) As (fun _ : Unit => v) (fun _ => WS D x xa oa ov I N M') := by
  refine h.frame (cJ j ++ [6 * o + 0 + 3]) ?_ ?_ (fun H h1 h2 => h2) (fun _ => WS_fst) (fun _ k q hk => WS_cell (isC := cJ j ++ [6 * o + 0 + 3]) hj hoth ?_ _ ?_ ?_ k q hk)
  · simp [va_nd, cJ]; omega
  · rw [List.map_append, cJ_map hj]
    show _ ++ [(WS D x xa oa ov I N M)[6 * o + 0 + 3]?] = _
    rw [WS_at ho (by decide : 0 < 6)]
    rfl
  · intro k hk
    rcases List.mem_append.mp hk with h | h
    · exact Or.inl (cJ_mem h)
    · exact Or.inr ⟨o, 0, ho, hne, by decide, List.mem_singleton.mp h⟩
  · intro z hz
    rcases List.mem_cons.mp hz with rfl | hz
    · exact List.mem_cons_self
    · rcases List.mem_cons.mp hz with rfl | hz
      · exact List.mem_cons_of_mem _ List.mem_cons_self
      · exact List.mem_cons_of_mem _ (List.mem_cons_of_mem _ (List.mem_append_left _ hz))
  · intro j' i h1 h2 h3 h4
    rcases List.mem_append.mp h4 with h | h
    · rcases cJ_mem h with h | h | ⟨i', h5, h6⟩ <;> omega
    · have h := List.mem_singleton.mp h
      have e1 : j' = o := by omega
      have e2 : i = 0 := by omega
      subst e1; subst e2
      exact List.mem_cons_of_mem _ (List.mem_cons_of_mem _ (List.mem_append_right _ (List.mem_singleton.mpr rfl)))
