section MH
variable {p : Program} {l : Launch} {e : Env} {R : Room} {s : State} {m : MethodId} {args : Array Value} {below : List Frame} {meth : Method} {c : Code} {H : Heap} {locs : List Loc} {cells slots : Nat} {Q : State → Prop}
variable {cc : ByteArray} {pc nL index n k : Nat} {ls : Array Slot} {st rest As : List Value} {D : mG} {own C : String} {y x : MethodName} {b : ByteArray} {ret : FieldType} {Pic : Heap → Prop} {o : Nat} {E : String} {A : Nat → Prop} {ws w0 wr : va_W} {rm : Room} {S : Type} {ov : S → Option Value} {w1 : S → va_W}
/-- a call throws, and a row of this method's table takes it -/
theorem kTC (G : CallFix p m c cc nL s args aw own) (hM : cT l D y b n ret k Pic (.ref o :: As) E) (hok : okV C y b n ret As.length) (hgf : GF D s) (hz : ZA A s) (hP : va_P D.1 vwCl ws H) (hS : va_S A s.heap H locs) (hpic : Pic H) (hrc : ∃ cell : Cell, H[o]? = some cell ∧ cell.vm.isStatics = false ∧ s.vm.findClass C = some cell.cls) (hl : Cond.methodLink own index y ∈ aw) (hR : k + 1 ≤ R.frames ∧ 8 + (n + 11) + 42 * k ≤ R.locals) (hcs : cells + 1 ≤ R.cells ∧ slots + 6 ≤ R.slots) (hls : ls.size = nL) (hrest : (rest.map fun v => v.category).sum ≤ 8)
    (hst : st = As.reverse ++ .ref o :: rest) (hdg : decode cc pc = .ok (.invokevirtual index, 3))
    (pre : List ExceptionTableEntry) (x : ExceptionTableEntry) (suf : List ExceptionTableEntry) (hsplit : c.exceptionTable.toList = pre ++ x :: suf) (hpass : ∀ z ∈ pre, z.catchType ≠ 0 ∧ ∃ nm : String, Cond.classLink own z.catchType nm ∈ aw ∧ (E, nm) ∈ gfN) (hx : covers x pc = true) (h0 : x.catchType ≠ 0) (hlink : Cond.classLink own x.catchType E ∈ aw) (hcast : (E, E) ∈ gfC)
    (kk : ∀ (q : Addr) (H1 : Heap) (locs1 : List Loc), va_P D.1 vwCl ws H1 → va_S A s.heap H1 locs1 → W p l e R s m args below meth c H1 locs1 (cells + 1) (slots + 6) Q (F0 m x.handlerPc ls [.ref q])) : W p l e R s m args below meth c H locs cells slots Q (F0 m pc ls st) := by
  obtain ⟨h1, h2, h3, h4, hd⟩ := hok
  have hr := vx_runV (H := H) (locs := locs) (cells := cells) (slots := slots) (As := As) (rest := rest) (e := e) (below := below) (meth := meth) (g := F0 m pc ls st) G hM (cwV As.length G.2.2.2.2 (aw_gl (fun w h => by
    simp only [wsV, List.mem_append, List.mem_cons, List.not_mem_nil, or_false] at h
    rcases h with (rfl | rfl | rfl | rfl) | rfl | h
    · exact hl
    · exact h1
    · exact h2
    · exact h3
    · exact h4
    · exact h)) rfl rfl rfl hd hR) ⟨mPT.blind, hrc, fun U hU hW => ⟨rfl, GF.warm hW hgf, hz.at hS hU hW, by rw [hU]; exact hpic⟩⟩ rfl rfl hls hst (lv_room hrest) hdg hcs
  intro T hT X
  rcases hr T hT X with ⟨v, st₀, t, T', L, h0', X', hL, e1, e2, hF, go⟩ | ⟨q, st₀, t, T', L, E', ce, h0', X', hL, e1, e2, ⟨rfl, k1, k2⟩, hce, hcv, hcl, go⟩
  · exact hF.elim
  · rw [h0'] at k1 k2
    have hP1 : va_P D.1 vwCl ws T'.heap := hP.kept (fun j z hj => by rw [e1]; exact k2 z.1 (hP j z hj).lt)
    have hS1 : va_S A s.heap T'.heap (locs ++ L) := ⟨Nat.le_trans hS.1 (by rw [e1]; exact k1), fun z z1 z2 => by rw [e1, k2 z (Nat.lt_of_lt_of_le z1 hS.1)]; exact hS.2.1 z z1 z2, fun z hz => by
      rcases List.mem_append.mp hz with h | h
      · exact hS.2.2 z h
      · exact (hL z h).elim⟩
    have hw : vx_W p l e R s m args below meth c T'.heap (locs ++ L) (cells + 1) (slots + 6) Q (F0 m pc ls rest) q :=
      vx_catch (E := E') (name := E') G.2.2.2.1 pre x suf hsplit (fun z hz => by
        obtain ⟨z0, nm, z1, z2⟩ := hpass z hz
        exact Or.inr ⟨z0, nm, G.2.2.2.2 _ z1, hgf.2.2.2.2.1 (E', nm) z2⟩) hx h0 (G.2.2.2.2 _ hlink) (va_Nw.use rfl (hgf.2.2.2.1 (E', E') hcast)) (by rw [e1]; exact hce) hcv hcl (kk q T'.heap (locs ++ L) hP1 hS1)
    obtain ⟨t2, a1, b1⟩ := hw T' rfl X'
    exact ⟨t2, go.trans a1, b1⟩
/-- a helper's call -/
theorem kH {hh : List (Nat × Nat × Nat × Nat)} (G : CallFix p m c cc nL s args aw own) (hM : cH l D y b n hh rm w0 As ov w1) (hok : Cond.static y ∈ aw ∧ Cond.initialized y.cls ∈ aw ∧ Cond.codeWith y b n (some .int) hh ∈ aw ∧ (y.cls ≠ "java/lang/invoke/MethodHandle" ∧ y.cls ≠ "java/lang/invoke/VarHandle" ∧ (parseMethodDescriptor y.desc).map (fun d => d.parameters.length) = some As.length)) (hgf : GF D s) (hz : ZA A s) (hP : va_P D.1 vwCl ws H) (hD : va_D A ws) (hS : va_S A s.heap H locs) (hA : ∀ q, s.heap.size ≤ q → A q)
    (isC isR : List Nat) (hnd : va_nd isC = true) (hC : isC.map (fun i => ws[i]?) = w0.map some) (hRr : isR.map (fun i => ws[i]?) = wr.map some) (hn : va_nd isR = true) (hdis : ∀ i ∈ isR, i ∉ isC)
    (hl : Cond.methodLink own index y ∈ aw) (hR : rm.frames + 1 ≤ R.frames ∧ 8 + (n + 11) + rm.locals ≤ R.locals) (hcs : cells + rm.cells ≤ R.cells ∧ slots + rm.slots ≤ R.slots) (hls : ls.size = nL) (hrest : (rest.map fun v => v.category).sum ≤ 8)
    (hst : st = As.reverse ++ rest) (hdg : decode cc pc = .ok (.invokestatic index, 3))
    (kk : ∀ (u : S) (H1 : Heap) (locs1 : List Loc), va_P D.1 vwCl (wr ++ w1 u) H1 → va_D A (wr ++ w1 u) → va_S A s.heap H1 locs1 → W p l e R s m args below meth c H1 locs1 (cells + rm.cells) (slots + rm.slots) Q (F0 m (pc + 3) ls ((ov u).toList ++ rest))) : W p l e R s m args below meth c H locs cells slots Q (F0 m pc ls st) := by
  obtain ⟨h2, h3, h4, hd⟩ := hok
  refine mw_callE (vx_runSW (As := As) (rest := rest) G (hM H.size) (vx_cwSW As.length G.2.2.2.2 (aw_gl (fun w h => ?_)) rfl rfl rfl hd hR) ⟨mPh.blind, fun U hU hW => ⟨rfl, (mw_preQ (As := As) hgf hP hD isC hnd hC U hU hW).2, hz.at hS hU hW⟩⟩ rfl rfl hls hst (lv_room hrest) hdg hcs) hP hD hS hA isC isR hC hRr hn hdis kk
  simp only [va_wsS, List.mem_append, List.mem_cons, List.not_mem_nil, or_false] at h
  rcases h with (rfl | rfl | rfl) | rfl | h
  · exact hl
  · exact h2
  · exact h3
  · exact h4
  · exact h
end MH
