/-! MAKING: contracts whose answer and cells are told by some u : S -/
def mQE (D : mG) {S : Type} (v : S → Option Value) (w1 : S → va_W) (A : Nat → Prop) : Array Value → State → Outcome → State → Prop := fun _ st o t => (∃ u : S, o = .returned (v u) ∧ va_P D.1 vwCl (w1 u) t.heap ∧ va_D A (w1 u)) ∧ va_F A st t
def cE (l : Launch) (D : mG) (y : MethodName) (b : ByteArray) (n : Nat) (ret : Option FieldType) (rm : Room) (w0 : va_W) (As : List Value) {S : Type} (v : S → Option Value) (w1 : S → va_W) : Prop :=
  ∀ sz : Nat, Met l y (.code y b n ret :: aw) rm (va_Pc As (mPq D w0 sz)) (mQE D v w1 (va_A w0 sz)) rm.cells rm.slots (va_A w0 sz)
theorem cE_of {l : Launch} {D : mG} {y : MethodName} {b : ByteArray} {n : Nat} {ret : Option FieldType} {rm : Room} {w0 : va_W} {As : List Value} {S : Type} {v : S → Option Value} {w1 : S → va_W} (hy : plainName y.cls = true) (hn : (lg_sl As).length ≤ n)
    (body : ∀ (p : Program) (e : Env) (s : State) (m : MethodId) (below : List Frame) (meth : Method) (c : Code) (ls : Array Slot) (A : Nat → Prop), p.tables.exec = Jvm.exec → c.code = b → meth.sig.returnType = ret → meth.locks = false → CallFix p m c b n s As.toArray aw y.cls → meth.name = y.name → GF D s → (∀ q : Nat, s.heap.size ≤ q → A q) → va_P D.1 vwCl w0 s.heap → va_D A w0 → va_S A s.heap s.heap [] → lv_has ls n (lv_args 0 As) →
      W p l e rm s m As.toArray below meth c s.heap [] 0 0 (MQ below (mQE D v w1 A) As.toArray s rm.cells rm.slots A) (F0 m 0 ls [])) : cE l D y b n ret rm w0 As v w1 := by
  intro sz
  refine Met.ofW (cc := b) (maxL := n) (ret := ret) hy rfl ?_
  intro p e s m args below meth c s₁ B hml hv
  obtain ⟨rfl, hsz, hg, hP, hD⟩ := hv
  have hts := atoms_spec (ws := .code y b n ret :: aw) B.pre
  rw [lg_entry_eq, ← hsz]
  exact body p e s m below meth c _ (va_A w0 s.heap.size) B.exec B.bytes B.returns B.notSynchronized ⟨B.exec, B.bytes, hml, findClass_of_methodNamed B.named, fun w h => hts w (List.mem_cons_of_mem _ h)⟩ (name_of_methodNamed B.named B.method).1 hg (fun q h => Or.inr h) hP hD.self va_S.rf (lv_entry As hn)
theorem cQ.toE {l : Launch} {D : mG} {y : MethodName} {b : ByteArray} {n : Nat} {ret : Option FieldType} {rm : Room} {w0 w1 : va_W} {As : List Value} {v : Option Value} (h : cQ l D y b n ret rm w0 As v w1) : cE l D y b n ret rm w0 As (fun _ : Unit => v) (fun _ => w1) := by
  intro sz p e ha hc hk s m args below hf happ hP hK
  obtain ⟨k, o, h1, h2, h3, h4, h5⟩ := h sz p e ha hc hk s m args below hf happ hP hK
  exact ⟨k, o, h1, h2, h3, ⟨⟨(), h4.1⟩, h4.2⟩, h5⟩
section MWE
variable {p : Program} {l : Launch} {e : Env} {R : Room} {s : State} {m : MethodId} {args : Array Value} {below : List Frame} {meth : Method} {c : Code} {H : Heap} {locs : List Loc} {cells slots : Nat} {Q : State → Prop}
variable {cc : ByteArray} {pc nL index n : Nat} {ls : Array Slot} {st rest As : List Value} {D : mG} {own C : String} {y x : MethodName} {b : ByteArray} {ret : FieldType} {o : Nat} {v : Value} {rm : Room} {ws w0 wr w1' : va_W} {A : Nat → Prop} {S : Type} {ov : S → Option Value} {w1 : S → va_W}
theorem mw_callE {a : Array Value} (hr : va_Run p l e R s m args below meth c H locs cells slots rm.cells rm.slots (F0 m pc ls st) rest (mQE D ov w1 (va_A w0 H.size) a) (va_A w0 H.size)) (hP : va_P D.1 vwCl ws H) (hD : va_D A ws) (hS : va_S A s.heap H locs) (hA : ∀ q, s.heap.size ≤ q → A q)
    (isC isR : List Nat) (hC : isC.map (fun i => ws[i]?) = w0.map some) (hRr : isR.map (fun i => ws[i]?) = wr.map some) (hn : va_nd isR = true) (hdis : ∀ i ∈ isR, i ∉ isC)
    (kk : ∀ (u : S) (H1 : Heap) (locs1 : List Loc), va_P D.1 vwCl (wr ++ w1 u) H1 → va_D A (wr ++ w1 u) → va_S A s.heap H1 locs1 → W p l e R s m args below meth c H1 locs1 (cells + rm.cells) (slots + rm.slots) Q (F0 m (pc + 3) ls ((ov u).toList ++ rest))) : W p l e R s m args below meth c H locs cells slots Q (F0 m pc ls st) := by
  intro T hT X
  have hF := va_free (wc := w0) hD hS hA isC hC
  obtain ⟨v1, st₀, t, T', L, h0, X', hL, e1, e2, ⟨⟨u, hv, hp1, hd1⟩, hz, hk⟩, go⟩ := hr T hT X
  cases hv
  rw [h0] at hz hk
  have hk1 : ∀ q : Nat, q < H.size → ¬ va_A w0 H.size q → T'.heap[q]? = H[q]? := fun q h1 h2 => by rw [e1]; exact hk q h1 h2
  obtain ⟨hP2, hD2⟩ := va_join (wr := wr) (w1 := w1 u) hP hD isC isR hC hRr hn hdis hk1 hF (by rw [e1]; exact hp1) hd1
  have hS2 : va_S A s.heap T'.heap (locs ++ L) := ⟨Nat.le_trans hS.1 (by rw [e1]; exact hz), fun q h1 h2 => by
      rw [hk1 q (Nat.lt_of_lt_of_le h1 hS.1) (fun z => h2 (hF q z))]; exact hS.2.1 q h1 h2, fun q hq => by
      rcases List.mem_append.mp hq with h | h
      · exact hS.2.2 q h
      · exact hF _ (hL q h)⟩
  obtain ⟨t2, a1, b1⟩ := kk u T'.heap (locs ++ L) hP2 hD2 hS2 T' rfl X'
  exact ⟨t2, go t2 a1, b1⟩
/-- what a constructor brings of its own -/
def okI (y : MethodName) (b : ByteArray) (n : Nat) (na : Nat) : Prop := Cond.initialized y.cls ∈ aw ∧ Cond.instanceMethod y ∈ aw ∧ Cond.code y b n none ∈ aw ∧ y.name = "<init>" ∧ (y.cls ≠ "java/lang/invoke/MethodHandle" ∧ y.cls ≠ "java/lang/invoke/VarHandle" ∧ (parseMethodDescriptor y.desc).map (fun d => d.parameters.length) = some na)
theorem kEI (G : CallFix p m c cc nL s args aw own) (hM : cE l D y b n none rm w0 (.ref o :: As) ov w1) (hok : okI y b n As.length) (hgf : GF D s) (hP : va_P D.1 vwCl ws H) (hD : va_D A ws) (hS : va_S A s.heap H locs) (hA : ∀ q, s.heap.size ≤ q → A q)
    (isC isR : List Nat) (hnd : va_nd isC = true) (hC : isC.map (fun i => ws[i]?) = w0.map some) (hRr : isR.map (fun i => ws[i]?) = wr.map some) (hn : va_nd isR = true) (hdis : ∀ i ∈ isR, i ∉ isC)
    (hl : Cond.methodLink own index y ∈ aw) (hR : rm.frames + 1 ≤ R.frames ∧ 8 + (n + 11) + rm.locals ≤ R.locals) (hcs : cells + rm.cells ≤ R.cells ∧ slots + rm.slots ≤ R.slots) (hls : ls.size = nL) (hrest : (rest.map fun v => v.category).sum ≤ 8)
    (hst : st = As.reverse ++ .ref o :: rest) (hdg : decode cc pc = .ok (.invokespecial index, 3))
    (kk : ∀ (u : S) (H1 : Heap) (locs1 : List Loc), va_P D.1 vwCl (wr ++ w1 u) H1 → va_D A (wr ++ w1 u) → va_S A s.heap H1 locs1 → W p l e R s m args below meth c H1 locs1 (cells + rm.cells) (slots + rm.slots) Q (F0 m (pc + 3) ls ((ov u).toList ++ rest))) : W p l e R s m args below meth c H locs cells slots Q (F0 m pc ls st) := by
  obtain ⟨h1, h2, h3, h4, hd⟩ := hok
  refine mw_callE (va_runI (As := As) (rest := rest) G (hM H.size) (cwI As.length G.2.2.2.2 (aw_gl (fun w h => ?_)) rfl rfl rfl (G.2.2.2.2 _ h1) (G.2.2.2.2 _ hl) (G.2.2.2.2 _ h2) h4 hd hR) ⟨mPq.blind, fun U hU hW => mw_preQ hgf hP hD isC hnd hC U hU hW⟩ rfl rfl hls hst (lv_room hrest) hdg hcs) hP hD hS hA isC isR hC hRr hn hdis kk
  rcases List.mem_cons.mp h with rfl | h
  · exact h3
  · exact h
theorem kES (G : CallFix p m c cc nL s args aw own) (hM : cE l D y b n (some ret) rm w0 As ov w1) (hok : okS y b n ret As.length) (hgf : GF D s) (hP : va_P D.1 vwCl ws H) (hD : va_D A ws) (hS : va_S A s.heap H locs) (hA : ∀ q, s.heap.size ≤ q → A q)
    (isC isR : List Nat) (hnd : va_nd isC = true) (hC : isC.map (fun i => ws[i]?) = w0.map some) (hRr : isR.map (fun i => ws[i]?) = wr.map some) (hn : va_nd isR = true) (hdis : ∀ i ∈ isR, i ∉ isC)
    (hl : Cond.methodLink own index y ∈ aw) (hR : rm.frames + 1 ≤ R.frames ∧ 8 + (n + 11) + rm.locals ≤ R.locals) (hcs : cells + rm.cells ≤ R.cells ∧ slots + rm.slots ≤ R.slots) (hls : ls.size = nL) (hrest : (rest.map fun v => v.category).sum ≤ 8)
    (hst : st = As.reverse ++ rest) (hdg : decode cc pc = .ok (.invokestatic index, 3))
    (kk : ∀ (u : S) (H1 : Heap) (locs1 : List Loc), va_P D.1 vwCl (wr ++ w1 u) H1 → va_D A (wr ++ w1 u) → va_S A s.heap H1 locs1 → W p l e R s m args below meth c H1 locs1 (cells + rm.cells) (slots + rm.slots) Q (F0 m (pc + 3) ls ((ov u).toList ++ rest))) : W p l e R s m args below meth c H locs cells slots Q (F0 m pc ls st) := by
  obtain ⟨h2, h3, h4, hd⟩ := hok
  refine mw_callE (va_runS (As := As) (rest := rest) G (hM H.size) (va_cwS As.length G.2.2.2.2 (aw_gl (fun w h => ?_)) rfl rfl rfl hd hR) ⟨mPq.blind, fun U hU hW => mw_preQ hgf hP hD isC hnd hC U hU hW⟩ rfl rfl hls hst (lv_room hrest) hdg hcs) hP hD hS hA isC isR hC hRr hn hdis kk
  simp only [va_wsS, List.mem_append, List.mem_cons, List.not_mem_nil, or_false] at h
  rcases h with (rfl | rfl | rfl) | rfl | h
  · exact hl
  · exact h2
  · exact h3
  · exact h4
  · exact h
theorem kEV (G : CallFix p m c cc nL s args aw own) (hM : cE l D y b n (some ret) rm w0 (.ref o :: As) ov w1) (hok : okV C y b n ret As.length) (hgf : GF D s) (hP : va_P D.1 vwCl ws H) (hD : va_D A ws) (hS : va_S A s.heap H locs) (hA : ∀ q, s.heap.size ≤ q → A q)
    (isC isR : List Nat) (hnd : va_nd isC = true) (hC : isC.map (fun i => ws[i]?) = w0.map some) (hRr : isR.map (fun i => ws[i]?) = wr.map some) (hn : va_nd isR = true) (hdis : ∀ i ∈ isR, i ∉ isC)
    (hrc : ∃ cell : Cell, H[o]? = some cell ∧ cell.vm.isStatics = false ∧ s.vm.findClass C = some cell.cls) (hl : Cond.methodLink own index y ∈ aw) (hR : rm.frames + 1 ≤ R.frames ∧ 8 + (n + 11) + rm.locals ≤ R.locals) (hcs : cells + rm.cells ≤ R.cells ∧ slots + rm.slots ≤ R.slots) (hls : ls.size = nL) (hrest : (rest.map fun v => v.category).sum ≤ 8)
    (hst : st = As.reverse ++ .ref o :: rest) (hdg : decode cc pc = .ok (.invokevirtual index, 3))
    (kk : ∀ (u : S) (H1 : Heap) (locs1 : List Loc), va_P D.1 vwCl (wr ++ w1 u) H1 → va_D A (wr ++ w1 u) → va_S A s.heap H1 locs1 → W p l e R s m args below meth c H1 locs1 (cells + rm.cells) (slots + rm.slots) Q (F0 m (pc + 3) ls ((ov u).toList ++ rest))) : W p l e R s m args below meth c H locs cells slots Q (F0 m pc ls st) := by
  obtain ⟨h1, h2, h3, h4, hd⟩ := hok
  refine mw_callE (va_runV (As := As) (rest := rest) G (hM H.size) (cwV As.length G.2.2.2.2 (aw_gl (fun w h => ?_)) rfl rfl rfl hd hR) ⟨mPq.blind, hrc, fun U hU hW => mw_preQ hgf hP hD isC hnd hC U hU hW⟩ rfl rfl hls hst (lv_room hrest) hdg hcs) hP hD hS hA isC isR hC hRr hn hdis kk
  simp only [wsV, List.mem_append, List.mem_cons, List.not_mem_nil, or_false] at h
  rcases h with (rfl | rfl | rfl | rfl) | rfl | h
  · exact hl
  · exact h1
  · exact h2
  · exact h3
  · exact h4
  · exact h
theorem mw_putF {ci N : Nat} {fs : List Value} {T : u_T} {ty : FieldType} (G : CallFix p m c cc nL s args aw own) (hnm0 : meth.name = "<init>") (hgf : GF D s) (hP : va_P D.1 vwCl ws H) (hD : va_D A ws) (hS : va_S A s.heap H locs) (q0 : Nat) (he : ws[q0]? = some (o, .inr (ci, fs))) (hc : vwCl[ci]? = some (C, T, N)) (hin : ∀ w ∈ u_ws C T N, w ∈ aw) {ty0 : Nat → FieldType} (hty : ∀ k, k < N → parseFieldDescriptor (T k).2.2.1 = some (ty0 k)) (hnm : ∀ a, a < N → ∀ b, b < N → a ≠ b → (T a).2.1 ≠ (T b).2.1) (k : Nat) (hk : k < N) (hl : Cond.fieldLink own index (T k).1 (T k).2.1 (T k).2.2.1 ∈ aw) (hfin : (T k).2.2.2 = true) (hdecl : (T k).1 = own) (hd : ty0 k = ty) (hn : narrow ty v = v) (hfit : fits ty v = true) (hlen : k < fs.length) (hw : ws.set q0 (o, .inr (ci, fs.set k v)) = w1') (hdg : decode cc pc = .ok (.putfield index, 3))
    (kk : ∀ (H1 : Heap) (locs1 : List Loc), va_P D.1 vwCl w1' H1 → va_D A w1' → va_S A s.heap H1 locs1 → W p l e R s m args below meth c H1 locs1 cells slots Q (F0 m (pc + 3) ls rest)) : W p l e R s m args below meth c H locs cells slots Q (F0 m pc ls (v :: .ref o :: rest)) := by
  subst hw
  exact va_putF G.1 G.2.1 G.2.2.2.2 hin ty0 hty hnm G.2.2.2.1 hgf.K hP hD hS q0 he hc k hk (G.2.2.2.2 _ hl) (fun _ h => h) hfin hnm0 hdecl (by rw [← hd]; exact hty k hk) hn hfit hlen hdg kk
theorem mw_oneI {D : mG} {cA : ClassId} (h : va_K D.1 vwCl (mTys D ++ [(cA, .int)]) s) : cA = D.2.1 := by
  have h1 : s.vm.findClass ("[" ++ FieldType.int.toString) = some cA := (h.2 3 (cA, .int) rfl).2
  have h2 : s.vm.findClass ("[" ++ FieldType.int.toString) = some D.2.1 := (h.2 0 (D.2.1, .int) rfl).2
  exact Option.some.inj (h1.symm.trans h2)
theorem mw_oneJ {D : mG} {cA : ClassId} (h : va_K D.1 vwCl (mTys D ++ [(cA, .long)]) s) : cA = D.2.2.1 := by
  have h1 : s.vm.findClass ("[" ++ FieldType.long.toString) = some cA := (h.2 3 (cA, .long) rfl).2
  have h2 : s.vm.findClass ("[" ++ FieldType.long.toString) = some D.2.2.1 := (h.2 1 (D.2.2.1, .long) rfl).2
  exact Option.some.inj (h1.symm.trans h2)
theorem mw_oneQ {D : mG} {cA : ClassId} (h : va_K D.1 vwCl (mTys D ++ [(cA, .object RX1)]) s) : cA = D.2.2.2 := by
  obtain ⟨-, -, -, -, -, h1⟩ := (h.2 3 (cA, .object RX1) rfl).2
  obtain ⟨-, -, -, -, -, h2⟩ := (h.2 2 (D.2.2.2, .object RX1) rfl).2
  exact Option.some.inj (h1.symm.trans h2)
theorem mw_newI {N : Nat} {i : Int32} (G : CallFix p m c cc nL s args aw own) (hgf : GF D s) (hP : va_P D.1 vwCl ws H) (hD : va_D A ws) (hS : va_S A s.heap H locs) (hA : ∀ q, s.heap.size ≤ q → A q) (hi : i = nI N) (hN : N < 1000) (hcells : cells + 1 ≤ R.cells) (hslots : slots + N ≤ R.slots) (hdg : decode cc pc = .ok (.newarray .int, 2))
    (kk : ∀ (q : Nat) (H1 : Heap), va_P D.1 vwCl (ws ++ [(q, .inl (D.2.1, N, .inl (fun _ => 0)))]) H1 → va_D A (ws ++ [(q, .inl (D.2.1, N, .inl (fun _ => 0)))]) → va_S A s.heap H1 locs → W p l e R s m args below meth c H1 locs (cells + 1) (slots + N) Q (F0 m (pc + 2) ls (.ref q :: rest))) : W p l e R s m args below meth c H locs cells slots Q (F0 m pc ls (.int i :: rest)) := by
  subst hi
  refine va_newa (atype := .int) (ty := .int) (a0 := (N, .inl (fun _ => 0))) G.1 G.2.1 (G.2.2.2.2 _ qw2_32) rfl hgf.K hP hD hS hA (fun cA => rfl) (nI_pos (by omega)) (nI_clamp (by omega)) (by simp only [componentBytes]; omega) hcells hslots hdg (fun q cA H1 hK hP hD hS => ?_)
  have := mw_oneI hK
  subst this
  exact kk q H1 hP hD hS
theorem mw_newJ {N : Nat} {i : Int32} (G : CallFix p m c cc nL s args aw own) (hgf : GF D s) (hP : va_P D.1 vwCl ws H) (hD : va_D A ws) (hS : va_S A s.heap H locs) (hA : ∀ q, s.heap.size ≤ q → A q) (hi : i = nI N) (hN : N < 1000) (hcells : cells + 1 ≤ R.cells) (hslots : slots + N ≤ R.slots) (hdg : decode cc pc = .ok (.newarray .long, 2))
    (kk : ∀ (q : Nat) (H1 : Heap), va_P D.1 vwCl (ws ++ [(q, .inl (D.2.2.1, N, .inr (.inl (fun _ => 0))))]) H1 → va_D A (ws ++ [(q, .inl (D.2.2.1, N, .inr (.inl (fun _ => 0))))]) → va_S A s.heap H1 locs → W p l e R s m args below meth c H1 locs (cells + 1) (slots + N) Q (F0 m (pc + 2) ls (.ref q :: rest))) : W p l e R s m args below meth c H locs cells slots Q (F0 m pc ls (.int i :: rest)) := by
  subst hi
  refine va_newa (atype := .long) (ty := .long) (a0 := (N, .inr (.inl (fun _ => 0)))) G.1 G.2.1 (G.2.2.2.2 _ qw2_33) rfl hgf.K hP hD hS hA (fun cA => rfl) (nI_pos (by omega)) (nI_clamp (by omega)) (by simp only [componentBytes]; omega) hcells hslots hdg (fun q cA H1 hK hP hD hS => ?_)
  have := mw_oneJ hK
  subst this
  exact kk q H1 hP hD hS
theorem mw_newQ {N : Nat} {i : Int32} (G : CallFix p m c cc nL s args aw own) (hgf : GF D s) (hP : va_P D.1 vwCl ws H) (hD : va_D A ws) (hS : va_S A s.heap H locs) (hA : ∀ q, s.heap.size ≤ q → A q) (hcl : Cond.classLink own index RX1 ∈ aw) (hi : i = nI N) (hN : N < 1000) (hcells : cells + 1 ≤ R.cells) (hslots : slots + N ≤ R.slots) (hdg : decode cc pc = .ok (.anewarray index, 3))
    (kk : ∀ (q : Nat) (H1 : Heap), va_P D.1 vwCl (ws ++ [(q, .inl (D.2.2.2, N, .inr (.inr (.inr (.inr (fun _ => none))))))]) H1 → va_D A (ws ++ [(q, .inl (D.2.2.2, N, .inr (.inr (.inr (.inr (fun _ => none))))))]) → va_S A s.heap H1 locs → W p l e R s m args below meth c H1 locs (cells + 1) (slots + N) Q (F0 m (pc + 3) ls (.ref q :: rest))) : W p l e R s m args below meth c H locs cells slots Q (F0 m pc ls (.int i :: rest)) := by
  subst hi
  refine va_newq G.1 G.2.1 G.2.2.2.1 (G.2.2.2.2 _ hcl) hgf.2.1 hgf.K hP hD hS hA (nI_pos (by omega)) (nI_clamp (by omega)) (by omega) hcells hslots hdg (fun q cA H1 hK hP hD hS => ?_)
  have := mw_oneQ hK
  subst this
  exact kk q H1 hP hD hS
theorem mw_obj (G : CallFix p m c cc nL s args aw own) (hl : Cond.methodLink own index Lib.objectInit ∈ aw) (hls : ls.size = nL) (hf : 1 ≤ R.frames) (hlo : 2 * (F0 m pc ls (.ref o :: rest)).monitorRoom + (rest.map fun v => v.category).sum + 12 ≤ R.locals) (hdg : decode cc pc = .ok (.invokespecial index, 3)) (kk : W p l e R s m args below meth c H locs cells slots Q (F0 m (pc + 3) ls rest)) : W p l e R s m args below meth c H locs cells slots Q (F0 m pc ls (.ref o :: rest)) := by
  refine W.objInit G.1 G.2.1 G.2.2.2.1 (G.2.2.2.2 _ hl) (G.2.2.2.2 _ qw1_25) (G.2.2.2.2 _ qw1_26) rfl (by rw [G.2.2.1]; exact hls) rfl hdg hf hlo ?_
  exact kk
end MWE
