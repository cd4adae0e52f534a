/-! METHODS THAT WRITE. cQ: from any heap that holds the cells w0 (apart): it answers v, the heap holds the cells w1 (apart, among the old ones and new ones), no other old cell has changed -/
def mQ (D : mG) (v : Option Value) (w1 : va_W) (A : Nat → Prop) : Array Value → State → Outcome → State → Prop := fun _ st o t => (o = .returned v ∧ va_P D.1 vwCl w1 t.heap ∧ va_D A w1) ∧ va_F A st t
def mPq (D : mG) (w0 : va_W) (sz : Nat) : State → Prop := fun U => U.heap.size = sz ∧ GF D U ∧ va_P D.1 vwCl w0 U.heap ∧ va_D (fun _ => True) w0
def cQ (l : Launch) (D : mG) (y : MethodName) (b : ByteArray) (n : Nat) (ret : Option FieldType) (rm : Room) (w0 : va_W) (As : List Value) (v : Option Value) (w1 : va_W) : Prop :=
  ∀ sz : Nat, Met l y (.code y b n ret :: aw) rm (va_Pc As (mPq D w0 sz)) (mQ D v w1 (va_A w0 sz)) rm.cells rm.slots (va_A w0 sz)
theorem mPq.blind {D : mG} {w0 : va_W} {sz : Nat} {As : List Value} : FrameBlind (va_Pc As (mPq D w0 sz)) := fun a U g mk q => ⟨q.1, q.2.1, GF.calling g mk a q.2.2.1, q.2.2.2⟩
theorem cQ_of {l : Launch} {D : mG} {y : MethodName} {b : ByteArray} {n : Nat} {ret : Option FieldType} {rm : Room} {w0 w1 : va_W} {As : List Value} {v : Option Value} (hy : plainName y.cls = true) (hn : (lg_sl As).length ≤ n)
    (body : ∀ (p : Program) (e : Env) (s : State) (m : MethodId) (below : List Frame) (meth : Method) (c : Code) (ls : Array Slot) (A : Nat → Prop), p.tables.exec = Jvm.exec → c.code = b → meth.sig.returnType = ret → meth.locks = false → CallFix p m c b n s As.toArray aw y.cls → meth.name = y.name → GF D s → (∀ q : Nat, s.heap.size ≤ q → A q) → va_P D.1 vwCl w0 s.heap → va_D A w0 → va_S A s.heap s.heap [] → lv_has ls n (lv_args 0 As) →
      W p l e rm s m As.toArray below meth c s.heap [] 0 0 (MQ below (mQ D v w1 A) As.toArray s rm.cells rm.slots A) (F0 m 0 ls [])) : cQ l D y b n ret rm w0 As v w1 := by
  intro sz
  refine Met.ofW (cc := b) (maxL := n) (ret := ret) hy rfl ?_
  intro p e s m args below meth c s₁ B hml hv
  obtain ⟨rfl, hsz, hg, hP, hD⟩ := hv
  have hts := atoms_spec (ws := .code y b n ret :: aw) B.pre
  rw [lg_entry_eq, ← hsz]
  exact body p e s m below meth c _ (va_A w0 s.heap.size) B.exec B.bytes B.returns B.notSynchronized ⟨B.exec, B.bytes, hml, findClass_of_methodNamed B.named, fun w h => hts w (List.mem_cons_of_mem _ h)⟩ (name_of_methodNamed B.named B.method).1 hg (fun q h => Or.inr h) hP hD.self va_S.rf (lv_entry As hn)
section MWQ
variable {p : Program} {l : Launch} {e : Env} {R : Room} {s : State} {m : MethodId} {args : Array Value} {below : List Frame} {meth : Method} {c : Code} {H : Heap} {locs : List Loc} {cells slots : Nat} {Q : State → Prop}
variable {cc : ByteArray} {pc nL index n : Nat} {ls : Array Slot} {st rest As : List Value} {D : mG} {own C : String} {y x : MethodName} {b : ByteArray} {ret : FieldType} {o : Nat} {ov : Option Value} {v : Value} {rm : Room} {ws w0 w1 wr : va_W} {A : Nat → Prop}
/-- behind a call of a method that writes -/
theorem mw_callQ {a : Array Value} (hr : va_Run p l e R s m args below meth c H locs cells slots rm.cells rm.slots (F0 m pc ls st) rest (mQ D ov w1 (va_A w0 H.size) a) (va_A w0 H.size)) (hP : va_P D.1 vwCl ws H) (hD : va_D A ws) (hS : va_S A s.heap H locs) (hA : ∀ q, s.heap.size ≤ q → A q)
    (isC isR : List Nat) (hC : isC.map (fun i => ws[i]?) = w0.map some) (hRr : isR.map (fun i => ws[i]?) = wr.map some) (hn : va_nd isR = true) (hdis : ∀ i ∈ isR, i ∉ isC)
    (kk : ∀ (H1 : Heap) (locs1 : List Loc), va_P D.1 vwCl (wr ++ w1) H1 → va_D A (wr ++ w1) → va_S A s.heap H1 locs1 → W p l e R s m args below meth c H1 locs1 (cells + rm.cells) (slots + rm.slots) Q (F0 m (pc + 3) ls (ov.toList ++ rest))) : W p l e R s m args below meth c H locs cells slots Q (F0 m pc ls st) := by
  intro T hT X
  have hF := va_free (wc := w0) hD hS hA isC hC
  obtain ⟨v1, st₀, t, T', L, h0, X', hL, e1, e2, ⟨⟨hv, hp1, hd1⟩, hz, hk⟩, go⟩ := hr T hT X
  cases hv
  rw [h0] at hz hk
  have hk1 : ∀ q : Nat, q < H.size → ¬ va_A w0 H.size q → T'.heap[q]? = H[q]? := fun q h1 h2 => by rw [e1]; exact hk q h1 h2
  obtain ⟨hP2, hD2⟩ := va_join (wr := wr) (w1 := w1) hP hD isC isR hC hRr hn hdis hk1 hF (by rw [e1]; exact hp1) hd1
  have hS2 : va_S A s.heap T'.heap (locs ++ L) := ⟨Nat.le_trans hS.1 (by rw [e1]; exact hz), fun q h1 h2 => by
      rw [hk1 q (Nat.lt_of_lt_of_le h1 hS.1) (fun z => h2 (hF q z))]; exact hS.2.1 q h1 h2, fun q hq => by
      rcases List.mem_append.mp hq with h | h
      · exact hS.2.2 q h
      · exact hF _ (hL q h)⟩
  obtain ⟨t2, a1, b1⟩ := kk T'.heap (locs ++ L) hP2 hD2 hS2 T' rfl X'
  exact ⟨t2, go t2 a1, b1⟩
theorem mw_preQ (hgf : GF D s) (hP : va_P D.1 vwCl ws H) (hD : va_D A ws) (isC : List Nat) (hnd : va_nd isC = true) (hC : isC.map (fun i => ws[i]?) = w0.map some) (U : State) (hU : U.heap = H) (hW : s.WarmedH U.vm) : va_Pc As (mPq D w0 H.size) As.toArray U := by
  refine ⟨rfl, by rw [hU], GF.warm hW hgf, ?_, (hD.sub isC hnd hC).weaken (fun _ _ _ _ => trivial)⟩
  rw [hU]
  intro k q hk
  have h1 : (w0.map some)[k]? = some (some q) := by rw [List.getElem?_map, hk]; rfl
  rw [← hC, List.getElem?_map] at h1
  obtain ⟨i, -, h2⟩ := Option.map_eq_some_iff.mp h1
  exact hP i q h2
theorem kQ (G : CallFix p m c cc nL s args aw own) (hM : cQ l D y b n (some ret) rm w0 (.ref o :: As) ov w1) (hok : okV C y b n ret As.length) (hgf : GF D s) (hP : va_P D.1 vwCl ws H) (hD : va_D A ws) (hS : va_S A s.heap H locs) (hA : ∀ q, s.heap.size ≤ q → A q)
    (isC isR : List Nat) (hnd : va_nd isC = true) (hC : isC.map (fun i => ws[i]?) = w0.map some) (hRr : isR.map (fun i => ws[i]?) = wr.map some) (hn : va_nd isR = true) (hdis : ∀ i ∈ isR, i ∉ isC)
    (hrc : ∃ cell : Cell, H[o]? = some cell ∧ cell.vm.isStatics = false ∧ s.vm.findClass C = some cell.cls) (hl : Cond.methodLink own index y ∈ aw) (hR : rm.frames + 1 ≤ R.frames ∧ 8 + (n + 11) + rm.locals ≤ R.locals) (hcs : cells + rm.cells ≤ R.cells ∧ slots + rm.slots ≤ R.slots) (hls : ls.size = nL) (hrest : (rest.map fun v => v.category).sum ≤ 8)
    (hst : st = As.reverse ++ .ref o :: rest) (hdg : decode cc pc = .ok (.invokevirtual index, 3))
    (kk : ∀ (H1 : Heap) (locs1 : List Loc), va_P D.1 vwCl (wr ++ w1) H1 → va_D A (wr ++ w1) → va_S A s.heap H1 locs1 → W p l e R s m args below meth c H1 locs1 (cells + rm.cells) (slots + rm.slots) Q (F0 m (pc + 3) ls (ov.toList ++ rest))) : W p l e R s m args below meth c H locs cells slots Q (F0 m pc ls st) := by
  obtain ⟨h1, h2, h3, h4, hd⟩ := hok
  refine mw_callQ (va_runV (As := As) (rest := rest) G (hM H.size) (cwV As.length G.2.2.2.2 (aw_gl (fun w h => ?_)) rfl rfl rfl hd hR) ⟨mPq.blind, hrc, fun U hU hW => mw_preQ hgf hP hD isC hnd hC U hU hW⟩ rfl rfl hls hst (lv_room hrest) hdg hcs) hP hD hS hA isC isR hC hRr hn hdis kk
  simp only [wsV, List.mem_append, List.mem_cons, List.not_mem_nil, or_false] at h
  rcases h with (rfl | rfl | rfl | rfl) | rfl | h
  · exact hl
  · exact h1
  · exact h2
  · exact h3
  · exact h4
  · exact h
theorem mw_put {ci N : Nat} {fs : List Value} {T : u_T} {ty : FieldType} (G : CallFix p m c cc nL s args aw own) (hgf : GF D s) (hP : va_P D.1 vwCl ws H) (hD : va_D A ws) (hS : va_S A s.heap H locs) (q0 : Nat) (he : ws[q0]? = some (o, .inr (ci, fs))) (hc : vwCl[ci]? = some (C, T, N)) (hin : ∀ w ∈ u_ws C T N, w ∈ aw) {ty0 : Nat → FieldType} (hty : ∀ k, k < N → parseFieldDescriptor (T k).2.2.1 = some (ty0 k)) (hnm : ∀ a, a < N → ∀ b, b < N → a ≠ b → (T a).2.1 ≠ (T b).2.1) (k : Nat) (hk : k < N) (hl : Cond.fieldLink own index (T k).1 (T k).2.1 (T k).2.2.1 ∈ aw) (hfin : (T k).2.2.2 = false) (hd : ty0 k = ty) (hn : narrow ty v = v) (hfit : fits ty v = true) (hlen : k < fs.length) (hw : ws.set q0 (o, .inr (ci, fs.set k v)) = w1) (hdg : decode cc pc = .ok (.putfield index, 3))
    (kk : ∀ (H1 : Heap) (locs1 : List Loc), va_P D.1 vwCl w1 H1 → va_D A w1 → va_S A s.heap H1 locs1 → W p l e R s m args below meth c H1 locs1 cells slots Q (F0 m (pc + 3) ls rest)) : W p l e R s m args below meth c H locs cells slots Q (F0 m pc ls (v :: .ref o :: rest)) := by
  subst hw
  exact va_put G.1 G.2.1 G.2.2.2.2 hin ty0 hty hnm G.2.2.2.1 hgf.K hP hD hS q0 he hc k hk (G.2.2.2.2 _ hl) (fun _ h => h) hfin (by rw [← hd]; exact hty k hk) hn hfit hlen hdg kk
theorem mw_iast {a n : Nat} {f : Nat → Int32} {x j : Int32} (G : CallFix p m c cc nL s args aw own) (hgf : GF D s) (hP : va_P D.1 vwCl ws H) (hD : va_D A ws) (hS : va_S A s.heap H locs) (q0 : Nat) (he : ws[q0]? = some (a, .inl (D.2.1, n, .inl f))) (hin : vp_in j n) (hw : ws.set q0 (a, .inl (D.2.1, n, .inl (upd f j.toNatClampNeg x))) = w1) (hdg : decode cc pc = .ok (.iastore, 1))
    (kk : ∀ (H1 : Heap) (locs1 : List Loc), va_P D.1 vwCl w1 H1 → va_D A w1 → va_S A s.heap H1 locs1 → W p l e R s m args below meth c H1 locs1 cells slots Q (F0 m (pc + 1) ls rest)) : W p l e R s m args below meth c H locs cells slots Q (F0 m pc ls (.int x :: .int j :: .ref a :: rest)) := by
  subst hw
  exact va_iast G.1 G.2.1 hgf.K hP hD hS q0 0 he rfl hin hdg kk
theorem mw_last {a n : Nat} {f : Nat → Int64} {x : Int64} {j : Int32} (G : CallFix p m c cc nL s args aw own) (hgf : GF D s) (hP : va_P D.1 vwCl ws H) (hD : va_D A ws) (hS : va_S A s.heap H locs) (q0 : Nat) (he : ws[q0]? = some (a, .inl (D.2.2.1, n, .inr (.inl f)))) (hin : vp_in j n) (hw : ws.set q0 (a, .inl (D.2.2.1, n, .inr (.inl (vp_updL f j.toNatClampNeg x)))) = w1) (hdg : decode cc pc = .ok (.lastore, 1))
    (kk : ∀ (H1 : Heap) (locs1 : List Loc), va_P D.1 vwCl w1 H1 → va_D A w1 → va_S A s.heap H1 locs1 → W p l e R s m args below meth c H1 locs1 cells slots Q (F0 m (pc + 1) ls rest)) : W p l e R s m args below meth c H locs cells slots Q (F0 m pc ls (.long x :: .int j :: .ref a :: rest)) := by
  subst hw
  exact va_last G.1 G.2.1 hgf.K hP hD hS q0 1 he rfl hin hdg kk
theorem mw_iald {a n : Nat} {f : Nat → Int32} {j : Int32} (G : CallFix p m c cc nL s args aw own) (hgf : GF D s) (hP : va_at D.1 vwCl (a, .inl (D.2.1, n, .inl f)) H) (hin : vp_in j n) (hdg : decode cc pc = .ok (.iaload, 1)) (kk : W p l e R s m args below meth c H locs cells slots Q (F0 m (pc + 1) ls (.int (f j.toNatClampNeg) :: rest))) : W p l e R s m args below meth c H locs cells slots Q (F0 m pc ls (.int j :: .ref a :: rest)) :=
  va_iald G.1 G.2.1 hgf.K hP.P 0 0 rfl rfl hin hdg kk
theorem mw_lald {a n : Nat} {f : Nat → Int64} {j : Int32} (G : CallFix p m c cc nL s args aw own) (hgf : GF D s) (hP : va_at D.1 vwCl (a, .inl (D.2.2.1, n, .inr (.inl f))) H) (hin : vp_in j n) (hdg : decode cc pc = .ok (.laload, 1)) (kk : W p l e R s m args below meth c H locs cells slots Q (F0 m (pc + 1) ls (.long (f j.toNatClampNeg) :: rest))) : W p l e R s m args below meth c H locs cells slots Q (F0 m pc ls (.int j :: .ref a :: rest)) :=
  va_lald G.1 G.2.1 hgf.K hP.P 0 1 rfl rfl hin hdg kk
theorem mw_aald {a n : Nat} {f : Nat → Option Nat} {j : Int32} (G : CallFix p m c cc nL s args aw own) (hgf : GF D s) (hP : va_at D.1 vwCl (a, .inl (D.2.2.2, n, .inr (.inr (.inr (.inr f))))) H) (hin : vp_in j n) (hdg : decode cc pc = .ok (.aaload, 1)) (kk : W p l e R s m args below meth c H locs cells slots Q (F0 m (pc + 1) ls (va_rf (f j.toNatClampNeg) :: rest))) : W p l e R s m args below meth c H locs cells slots Q (F0 m pc ls (.int j :: .ref a :: rest)) :=
  va_aldq G.1 G.2.1 hgf.K hP.P 0 2 rfl rfl hin hdg kk
end MWQ
/-! THE REFERENCE's CELLS. M.1 a: the ints of array a; M.2 a: its longs; a: 0 sorts, 1 chains, 2 steps, 3 sources, 4 told (longs), 5 lows, 6 highs (longs), 7 many, 8 kept, 9 leasts, 10 greatests, 11 swings, 12 sums (longs), 13 alarms; M.1 14: instruments, readings, allAlarms, done. t: thrown -/
abbrev MSt : Type := (Nat → Nat → Int32) × (Nat → Nat → Int64)
def sI (M : MSt) (a i : Nat) (v : Int32) : MSt := (va_up M.1 a (upd (M.1 a) i v), M.2)
def sL (M : MSt) (a i : Nat) (v : Int64) : MSt := (M.1, va_up M.2 a (vp_updL (M.2 a) i v))
abbrev mF (ma : Nat → Nat) (t : Int32) (M : MSt) : List Value := [.int t, .int (M.1 14 0), .ref (ma 0), .ref (ma 1), .ref (ma 2), .ref (ma 3), .ref (ma 4), .ref (ma 5), .ref (ma 6), .ref (ma 7), .ref (ma 8), .ref (ma 9), .ref (ma 10), .ref (ma 11), .ref (ma 12), .ref (ma 13), .int (M.1 14 1), .int (M.1 14 2), .int (M.1 14 3)]
abbrev wM (D : mG) (r : Nat) (ma : Nat → Nat) (t : Int32) (M : MSt) : va_W := [(r, .inr (4, mF ma t M)), (ma 0, .inl (D.2.1, 8, .inl (M.1 0))), (ma 1, .inl (D.2.1, 8, .inl (M.1 1))), (ma 2, .inl (D.2.1, 48, .inl (M.1 2))), (ma 3, .inl (D.2.1, 48, .inl (M.1 3))), (ma 4, .inl (D.2.2.1, 48, .inr (.inl (M.2 4)))), (ma 5, .inl (D.2.2.1, 8, .inr (.inl (M.2 5)))), (ma 6, .inl (D.2.2.1, 8, .inr (.inl (M.2 6)))), (ma 7, .inl (D.2.1, 8, .inl (M.1 7))), (ma 8, .inl (D.2.2.1, 128, .inr (.inl (M.2 8)))), (ma 9, .inl (D.2.2.1, 8, .inr (.inl (M.2 9)))), (ma 10, .inl (D.2.2.1, 8, .inr (.inl (M.2 10)))), (ma 11, .inl (D.2.2.1, 8, .inr (.inl (M.2 11)))), (ma 12, .inl (D.2.2.1, 8, .inr (.inl (M.2 12)))), (ma 13, .inl (D.2.1, 8, .inl (M.1 13)))]
section MWM
variable {p : Program} {l : Launch} {e : Env} {R : Room} {s : State} {m : MethodId} {args : Array Value} {below : List Frame} {meth : Method} {c : Code} {H : Heap} {locs : List Loc} {cells slots : Nat}
variable {cc : ByteArray} {pc : Nat} {ls : Array Slot} {D : mG} {r : Nat} {ma : Nat → Nat} {A : Nat → Prop} {t : Int32} {M : MSt}
theorem mM_lret {x : Int64} {h : Int64 × Int32 × MSt} (heq : h = (x, t, M)) (hx : p.tables.exec = Jvm.exec) (hb : c.code = cc) (hr : meth.sig.returnType = some .long) (hlocks : meth.locks = false) (hP : va_P D.1 vwCl (wM D r ma t M) H) (hD : va_D A (wM D r ma t M)) (hS : va_S A s.heap H locs) (hdg : decode cc pc = .ok (.lreturn, 1)) : W p l e R s m args below meth c H locs 0 0 (MQ below (mQ D (some (.long h.1)) (wM D r ma h.2.1 h.2.2) A) args s 0 0 A) (F0 m pc ls [.long x]) := by
  subst heq
  exact W.lret hx hb hr (fun u hu _ => ⟨⟨rfl, by rw [hu]; exact hP, hD⟩, hS.F hu⟩) hS.2.2 hdg hlocks
theorem mM_iret {x : Int32} {h : Int32 × Int32 × MSt} (heq : h = (x, t, M)) (hx : p.tables.exec = Jvm.exec) (hb : c.code = cc) (hr : meth.sig.returnType = some .int) (hlocks : meth.locks = false) (hP : va_P D.1 vwCl (wM D r ma t M) H) (hD : va_D A (wM D r ma t M)) (hS : va_S A s.heap H locs) (hdg : decode cc pc = .ok (.ireturn, 1)) : W p l e R s m args below meth c H locs 0 0 (MQ below (mQ D (some (.int h.1)) (wM D r ma h.2.1 h.2.2) A) args s 0 0 A) (F0 m pc ls [.int x]) := by
  subst heq
  exact W.iret hx hb hr (fun u hu _ => ⟨⟨rfl, by rw [hu]; exact hP, hD⟩, hS.F hu⟩) hS.2.2 hdg hlocks
theorem mM_zret {x : Int32} {h : Int32 × Int32 × MSt} (heq : h = (x, t, M)) (hx : p.tables.exec = Jvm.exec) (hb : c.code = cc) (hr : meth.sig.returnType = some .boolean) (hlocks : meth.locks = false) (hn : x = 0 ∨ x = 1) (hP : va_P D.1 vwCl (wM D r ma t M) H) (hD : va_D A (wM D r ma t M)) (hS : va_S A s.heap H locs) (hdg : decode cc pc = .ok (.ireturn, 1)) : W p l e R s m args below meth c H locs 0 0 (MQ below (mQ D (some (.int h.1)) (wM D r ma h.2.1 h.2.2) A) args s 0 0 A) (F0 m pc ls [.int x]) := by
  subst heq
  exact W.zret hx hb hr (by rcases hn with rfl | rfl <;> decide) (fun u hu _ => ⟨⟨rfl, by rw [hu]; exact hP, hD⟩, hS.F hu⟩) hS.2.2 hdg hlocks
end MWM
