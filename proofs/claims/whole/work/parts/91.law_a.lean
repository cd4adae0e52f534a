/-! THE CLAIM OUT OF ONE WALK OF THE LAW'S BODY. Your part is whole_start (and what it stands on); all else here is the same for every law, but numbers. -/
def R_law : String := "WeatherMastLaw"
def lw_P (b : Addr) (xs : List Int32) (args : Array Value) (s : State) : Prop := args = #[.ref b] ∧ s.IntsAt b xs ∧ xs.length ≤ 3072 ∧ (Jvm.Cond.and given_1 narrow_1).before args s = true
/-- what a walk over the start with the record d0 says of its end, said of the start itself -/
theorem lw_closed {s t : State} {o : Outcome} {d0 : Drawn} {L : List Loc} {k n : Nat} (hd0 : s.drawn.sameBut d0 lw_cs) (hv : ∃ v, o = .returned v) (hW : (s.setDrawn d0).WarmedH t.vm) (hs : (s.setDrawn d0).sameButNew ({ t with vm := s.vm } : State) L k n) : State.butDraws s t lw_cs (fun t1 => Framed s o t1 L k n) := by
  have h2 : t.drawn = d0 := congrArg State.drawn hs.1
  refine ⟨⟨hv, hW, State.sameButNew.setDrawn hs s.drawn⟩, ?_, by decide⟩
  rw [h2]
  exact hd0
def lw_Q (_ : Array Value) (s : State) (o : Outcome) (t : State) : Prop := o = .returned (some (.int 1)) ∧ State.butDraws s t lw_cs (fun t1 => Framed s o t1 [] 601024 7293034)
def lw_Z (below : List Frame) (a : Array Value) (s : State) : State → Prop := fun t => ∃ o, t.status = .running ∧ Ended t below o ∧ lw_Q a s o t
/-- the law's own end, with 1 on the stack, nothing written that was there before, its room as the claim has it; d0: the record of draws at this point (at the entry s.drawn: begin with 'refine W.base ?_' and 'have hd0 := Drawn.sameBut.refl s.drawn lw_cs') -/
theorem lw_ret {p : Program} {l : Launch} {e : Env} {s : State} {m : MethodId} {below : List Frame} {meth : Method} {c : Code} {b : Nat} {d0 : Drawn} (hd0 : s.drawn.sameBut d0 lw_cs) (hx : p.tables.exec = Jvm.exec) (hb : c.code = code) (hr : meth.sig.returnType = ret) (hlocks : meth.locks = false) {pc : Nat} {H : Heap} {ls : Array Slot} (hdg : decode code pc = .ok (.ireturn, 1)) : W p l e room_1 (s.setDrawn d0) m #[Value.ref b] below meth c H [] 601024 7293034 (lw_Z below #[Value.ref b] s) (F0 m pc ls [.int 1]) := by
  intro T hT X
  obtain ⟨fs, hret, hrun, hended, hW, hframe⟩ := X.leave (v := some (.int 1)) (hlocks := hlocks) (fun h => by rw [hr] at h; cases h)
  have hmeth' : T.vm.method? m = some meth := X.method'
  refine ⟨T.setFrames fs, ?_, .returned (some (.int 1)), hrun, hended, rfl, lw_closed hd0 ⟨_, rfl⟩ hW hframe⟩
  jvm_step X.here [X.here.top, hx, hb, hdg, hmeth', hr, ret, narrow_b1]
  (try refine ⟨rfl, ?_⟩); (try refine ⟨rfl, ?_⟩)
  first | (intro acts; rw [hret _ acts rfl rfl rfl]) | rw [hret _ _ rfl rfl rfl]
  exact Steps.refl _
/-- what holds at the law's entry: the machine, the code, the tables' words (any of lw_tbl by 'hts w (by decide +kernel)'), the script of L ints xs at the cell b, what the Statement gives of the start (any of its parts by flat_of_before) -/
def lw_At (p : Program) (s : State) (m : MethodId) (meth : Method) (c : Code) (b L : Nat) (xs : Nat → Int32) : Prop :=
  p.tables.exec = Jvm.exec ∧ c.code = code ∧ meth.sig.returnType = ret ∧ c.maxLocals = 8 ∧ s.vm.findClass R_law = some m.cls ∧ (∀ w ∈ lw_tbl, w.before #[Value.ref b] s = true) ∧ va_X b L xs s s.heap ∧ b < s.heap.size ∧ meth.locks = false ∧ (Jvm.Cond.and given_1 narrow_1).before #[Value.ref b] s = true
/-! THE LAW's WALK: what holds all along -/
abbrev LA (s : State) : Nat → Prop := fun q => s.heap.size ≤ q
def LC (p : Program) (s : State) (m : MethodId) (c : Code) (b L : Nat) (xs : Nat → Int32) (D : mG) : Prop :=
  p.tables.exec = Jvm.exec ∧ c.code = cL_law ∧ CallFix p m c cL_law 8 s #[Value.ref b] aw RL ∧ GF D s ∧ ZA (LA s) s ∧ va_X b L xs s s.heap ∧ b < s.heap.size
/-- the places of the second list behind the first -/
abbrev ixB (a b : va_W) : List Nat := (List.range b.length).map (fun i => a.length + i)
theorem ix_l (a b : va_W) : (List.range a.length).map (fun i => (a ++ b)[i]?) = a.map some := by
  rw [← va_all a]
  apply List.map_congr_left
  intro i hi
  rw [List.getElem?_append_left (List.mem_range.mp hi)]
theorem ix_r (a b : va_W) : (ixB a b).map (fun i => (a ++ b)[i]?) = b.map some := by
  rw [← va_all b, ixB, List.map_map]
  apply List.map_congr_left
  intro i hi
  show (a ++ b)[a.length + i]? = b[i]?
  rw [List.getElem?_append_right (by omega), Nat.add_sub_cancel_left]
theorem ix_nd (a b : va_W) : va_nd (ixB a b) = true := va_nd_of (by
  rw [ixB, List.nodup_iff_pairwise_ne, List.pairwise_map]
  refine List.Pairwise.imp ?_ List.nodup_range
  intro i j h q
  exact h (by omega))
theorem ix_dis (a b : va_W) : ∀ i ∈ ixB a b, i ∉ List.range a.length := by
  intro i hi h
  obtain ⟨k, -, rfl⟩ := List.mem_map.mp hi
  have := List.mem_range.mp h
  omega
theorem ix_dis2 (a b : va_W) : ∀ i ∈ List.range a.length, i ∉ ixB a b := fun i h hi => ix_dis a b i hi h
theorem va_P.left {D : va_G} {cl : List vw_C} {a b : va_W} {H : Heap} (h : va_P D cl (a ++ b) H) : va_P D cl a H := fun k q hk => h k q (by rw [List.getElem?_append_left (List.getElem?_eq_some_iff.mp hk).1]; exact hk)
theorem va_P.right {D : va_G} {cl : List vw_C} {a b : va_W} {H : Heap} (h : va_P D cl (a ++ b) H) : va_P D cl b H := fun k q hk => h (a.length + k) q (by rw [List.getElem?_append_right (by omega), Nat.add_sub_cancel_left]; exact hk)
theorem va_P.flip {D : va_G} {cl : List vw_C} {a b : va_W} {H : Heap} (h : va_P D cl (a ++ b) H) : va_P D cl (b ++ a) H := h.right.app h.left
theorem va_D.flip {A : Nat → Prop} {a b : va_W} (h : va_D A (a ++ b)) : va_D A (b ++ a) := va_D.swap (a := []) h
/-- the script's places -/
theorem in_k {T L k : Nat} (h : 6 * T + 6 ≤ L) (hk : k < 6) (hL : L ≤ 3072) : vp_in (nI (6 * T) + nI k) L := by
  rw [nI_add]
  unfold vp_in
  intro q
  rcases q with q | q
  · exact nI_pos (by omega) q
  · rw [nI_clamp (by omega)] at q; omega
/-- the counts -/
def cW (M : MSt) (w : Int32) : Int32 := if w = 0 then M.1 14 0 else (if w = 1 then M.1 14 1 else (if w = 2 then M.1 14 2 else (if w = 3 then M.1 14 3 else (-1))))
theorem hc_eq (M : MSt) (w : Int32) : hX5_count M w = (cW M w, 0, M) := by
  unfold hX5_count cW
  split
  · rfl
  · split
    · rfl
    · split
      · rfl
      · split <;> rfl
