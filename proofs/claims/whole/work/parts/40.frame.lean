/-! FRAMES OF CONTRACTS: what is promised of some cells, said of a list that holds them -/
theorem va_idx {W w0 : va_W} {isC : List Nat} (hC : isC.map (fun i => W[i]?) = w0.map some) {k : Nat} {q : Nat × va_E} (hk : w0[k]? = some q) : ∃ i ∈ isC, W[i]? = some q := by
  have h1 : (w0.map some)[k]? = some (some q) := by rw [List.getElem?_map, hk]; rfl
  rw [← hC, List.getElem?_map] at h1
  obtain ⟨i, h0, h2⟩ := Option.map_eq_some_iff.mp h1
  exact ⟨i, List.mem_of_getElem? h0, h2⟩
theorem va_A.wide {W w0 : va_W} {isC : List Nat} (hC : isC.map (fun i => W[i]?) = w0.map some) {sz q : Nat} (h : va_A w0 sz q) : va_A W sz q := by
  rcases h with ⟨k, e, h⟩ | h
  · obtain ⟨i, -, hi⟩ := va_idx hC h
    exact Or.inl ⟨i, e, hi⟩
  · exact Or.inr h
/-- a cell of the list that isn't among the callee's is as it was -/
theorem va_out {D : mG} {W w0 : va_W} {isC : List Nat} {A : Nat → Prop} {H : Heap} (hP : va_P D.1 vwCl W H) (hD : va_D A W) (hC : isC.map (fun i => W[i]?) = w0.map some) {k : Nat} {q : Nat × va_E} (hk : W[k]? = some q) (hn : k ∉ isC) : ¬ va_A w0 H.size q.1 := by
  rintro (⟨k', e, h⟩ | h)
  · obtain ⟨i, hi, h2⟩ := va_idx hC h
    exact hn (hD.1 i k _ _ h2 hk rfl ▸ hi)
  · exact absurd ((hP k q hk).lt) (Nat.not_lt.mpr h)
theorem cZ.frame {l : Launch} {D : mG} {y : MethodName} {b : ByteArray} {n : Nat} {ret : Option FieldType} {rm : Room} {w0 W : va_W} {Pic Pic' : Heap → Prop} {As : List Value} {S : Type} {v : S → Option Value} {w1 W' : S → va_W} (h : cZ l D y b n ret rm w0 Pic As v w1) (isC : List Nat) (hnd : va_nd isC = true) (hC : isC.map (fun i => W[i]?) = w0.map some) (hpic : ∀ H, va_P D.1 vwCl W H → Pic' H → Pic H)
    (hfst : ∀ u, (W' u).map Prod.fst = W.map Prod.fst) (hcell : ∀ u k q, (W' u)[k]? = some q → q ∈ w1 u ∨ (k ∉ isC ∧ W[k]? = some q)) : cZ l D y b n ret rm W Pic' As v W' := by
  intro sz p e ha hc hk s m args below hf happ hP hK
  obtain ⟨rfl, ⟨hsz, hg, hPW, hDW⟩, hp⟩ := hP
  have hP0 : va_P D.1 vwCl w0 s.heap := fun k q hk => by obtain ⟨i, -, hi⟩ := va_idx hC hk; exact hPW i q hi
  obtain ⟨k, o, h1, h2, h3, ⟨⟨u, e1, e2, e3⟩, hF⟩, L, h6, h7⟩ := h sz p e ha hc hk s m _ below hf happ ⟨rfl, ⟨hsz, hg, hP0, hDW.sub isC hnd hC⟩, hpic _ hPW hp⟩ hK
  refine ⟨k, o, h1, h2, h3, ⟨⟨u, e1, ?_, ?_⟩, hF.1, fun q q1 q2 => hF.2 q q1 (fun z => q2 (va_A.wide hC z))⟩, L, h6, fun q hq => va_A.wide hC (h7 q hq)⟩
  · intro k q hk
    rcases hcell u k q hk with h | ⟨hn, hk2⟩
    · obtain ⟨i, hi⟩ := List.mem_iff_getElem?.mp h
      exact e2 i q hi
    · exact (hPW k q hk2).kept (hF.2 q.1 (hPW k q hk2).lt (by rw [← hsz]; exact va_out hPW hDW hC hk2 hn))
  · have hi : ∀ (k : Nat) (q : Nat × va_E), (W' u)[k]? = some q → ∃ q', W[k]? = some q' ∧ q'.1 = q.1 := fun k q hk => by
      have h9 : ((W' u).map Prod.fst)[k]? = some q.1 := by rw [List.getElem?_map, hk]; rfl
      rw [hfst u, List.getElem?_map] at h9
      exact Option.map_eq_some_iff.mp h9
    refine ⟨fun i j a c ha hc hac => ?_, fun k q hk => ?_⟩
    · obtain ⟨a', ha', ea⟩ := hi i a ha
      obtain ⟨c', hc', ec⟩ := hi j c hc
      exact hDW.1 i j a' c' ha' hc' (by rw [ea, ec, hac])
    · obtain ⟨q', hq', eq⟩ := hi k q hk
      rw [← eq]; exact va_A.in hq'
theorem cV.toZ {l : Launch} {D : mG} {y : MethodName} {b : ByteArray} {n : Nat} {ret : FieldType} {k : Nat} {W : va_W} {Pic Pic' : Heap → Prop} {As : List Value} {v : Value} (h : cV l D y b n ret k Pic As v) (hpic : ∀ H, va_P D.1 vwCl W H → Pic' H → Pic H) : cZ l D y b n (some ret) (rmP k) W Pic' As (fun _ : Unit => some v) (fun _ => W) := by
  intro sz p e ha hc hk s m args below hf happ hP hK
  obtain ⟨rfl, ⟨hsz, hg, hPW, hDW⟩, hp⟩ := hP
  obtain ⟨k, o, h1, h2, h3, ⟨e1, e2⟩, L, h6, h7⟩ := h p e ha hc hk s m _ below hf happ ⟨rfl, hg, hpic _ hPW hp⟩ hK
  exact ⟨k, o, h1, h2, h3, ⟨⟨(), e1, by rw [e2]; exact hPW, hDW.self⟩, by rw [e2]; exact Nat.le_refl _, fun q _ _ => by rw [e2]⟩, L, h6, fun q hq => (h7 q hq).elim⟩
theorem cT.mono {l : Launch} {D : mG} {y : MethodName} {b : ByteArray} {n : Nat} {ret : FieldType} {k : Nat} {Pic Pic' : Heap → Prop} {As : List Value} {E : String} (h : cT l D y b n ret k Pic As E) (hpic : ∀ H, Pic' H → Pic H) : cT l D y b n ret k Pic' As E := by
  intro p e ha hc hk s m args below hf happ hP hK
  obtain ⟨rfl, hg, hz, hp⟩ := hP
  exact h p e ha hc hk s m _ below hf happ ⟨rfl, hg, hz, hpic _ hp⟩ hK
theorem mw_widen {p : Program} {l : Launch} {e : Env} {R : Room} {s : State} {m : MethodId} {args : Array Value} {below : List Frame} {meth : Method} {c : Code} {H : Heap} {locs : List Loc} {cells slots k n : Nat} {Q : State → Prop} {g : JFrame} (h1 : cells ≤ k) (h2 : slots ≤ n) (kk : W p l e R s m args below meth c H locs k n Q g) : W p l e R s m args below meth c H locs cells slots Q g := fun T hT X => kk T hT (stand_widen X h1 h2)
theorem va_at.plain {D : va_G} {cl : List vw_C} {q : Nat × va_E} {H : Heap} (h : va_at D cl q H) : ∃ cell : Cell, H[q.1]? = some cell ∧ cell.vm.isStatics = false := by
  obtain ⟨a, e⟩ := q
  cases e with
  | inl w => exact ⟨_, h, by obtain ⟨w1, w2, w3⟩ := w; rcases w3 with f | f | f | f | f <;> rfl⟩
  | inr w => obtain ⟨r, hr, cellV, g1, g2, g3, -⟩ := h; exact ⟨cellV, g1, by first | exact g3 | (rw [g3]; rfl)⟩
/-- ZF, wherever the heap comes to: the cells of A aside -/
def ZA (A : Nat → Prop) (s : State) : Prop := vx_Zq Bundle.tN "UNASSIGNED_STACK" Bundle.steD A s s.heap ∧ vx_Zq Bundle.tN "SUPPRESSED_SENTINEL" Bundle.listD A s s.heap
theorem ZA.at {A : Nat → Prop} {s : State} {H : Heap} {locs : List Loc} (h : ZA A s) (hS : va_S A s.heap H locs) {U : State} (hU : U.heap = H) (hW : s.WarmedH U.vm) : ZF U := by
  have f : ∀ {C n d : String}, vx_Zq C n d A s s.heap → vx_Zq C n d (fun _ => False) U U.heap := fun q => by
    rw [hU]
    exact vx_Zq.narrow (vx_Zq.moved hW.alike (q.kept hS.2.1)) (fun _ h => h.elim)
  exact ⟨f h.1, f h.2⟩
theorem ZA.of {D : mG} {s : State} (h : ZF s) {w0 : va_W} (hP : va_P D.1 vwCl w0 s.heap) : ZA (va_A w0 s.heap.size) s := by
  have key : ∀ (a : Nat) (cell : Cell), s.heap[a]? = some cell → cell.vm.isStatics = true → ¬ va_A w0 s.heap.size a := by
    rintro a cell h1 h2 (⟨k, e, hk⟩ | h3)
    · obtain ⟨cell', h5, h6⟩ := (hP k _ hk).plain
      cases Option.some.inj (h1.symm.trans h5)
      rw [h6] at h2; cases h2
    · exact absurd (Array.getElem?_eq_some_iff.mp h1).1 (Nat.not_lt.mpr h3)
  have fz : ∀ {C n d : String} {v : Value}, va_Z C n d v (fun _ => False) s s.heap → va_Z C n d v (va_A w0 s.heap.size) s s.heap := by
    rintro C n d v ⟨cf, kf, fi, f, a, cell, h1, h2, h3, h4, h5, h6, h7, -⟩
    exact ⟨cf, kf, fi, f, a, cell, h1, h2, h3, h4, h5, h6, h7, key a cell h5 h6⟩
  have f : ∀ {C n d : String}, vx_Zq C n d (fun _ => False) s s.heap → vx_Zq C n d (va_A w0 s.heap.size) s s.heap := by
    rintro C n d ⟨q1, c1, k1, i1, f1, a1, cell1, g1, g2, g3, g4, g5, g6, g7, g8, g9, -⟩
    refine ⟨?_, c1, k1, i1, f1, a1, cell1, g1, g2, g3, g4, g5, g6, g7, g8, g9, key a1 cell1 g5 g6⟩
    rcases q1 with q | ⟨t, q⟩
    · exact Or.inl (fz q)
    · exact Or.inr ⟨t, fz q⟩
  exact ⟨f h.1, f h.2⟩
/-! THE LAW'S HELPERS: bodies with handlers -/
def mPh (D : mG) (w0 : va_W) (sz : Nat) : State → Prop := fun U => mPq D w0 sz U ∧ ZF U
def cH (l : Launch) (D : mG) (y : MethodName) (b : ByteArray) (n : Nat) (hh : List (Nat × Nat × Nat × Nat)) (rm : Room) (w0 : va_W) (As : List Value) {S : Type} (v : S → Option Value) (w1 : S → va_W) : Prop :=
  ∀ sz : Nat, Met l y (.codeWith y b n (some .int) hh :: aw) rm (va_Pc As (mPh D w0 sz)) (mQE D v w1 (va_A w0 sz)) rm.cells rm.slots (va_A w0 sz)
theorem mPh.blind {D : mG} {w0 : va_W} {sz : Nat} {As : List Value} : FrameBlind (va_Pc As (mPh D w0 sz)) := fun a U g mk q => ⟨q.1, ⟨q.2.1.1, GF.calling g mk a q.2.1.2.1, q.2.1.2.2⟩, ZF.calling g mk a q.2.2⟩
theorem cH_of {l : Launch} {D : mG} {y : MethodName} {b : ByteArray} {n : Nat} {hh : List (Nat × Nat × Nat × Nat)} {rm : Room} {w0 : va_W} {As : List Value} {S : Type} {v : S → Option Value} {w1 : S → va_W} (hy : plainName y.cls = true) (hn : (lg_sl As).length ≤ n)
    (body : ∀ (p : Program) (e : Env) (s : State) (m : MethodId) (below : List Frame) (meth : Method) (c : Code) (ls : Array Slot) (A : Nat → Prop), p.tables.exec = Jvm.exec → c.code = b → meth.sig.returnType = some .int → meth.locks = false → c.exceptionTable.toList = tableOf hh → CallFix p m c b n s As.toArray aw y.cls → GF D s → ZA A s → (∀ q : Nat, s.heap.size ≤ q → A q) → va_P D.1 vwCl w0 s.heap → va_D A w0 → va_S A s.heap s.heap [] → lv_has ls n (lv_args 0 As) →
      W p l e rm s m As.toArray below meth c s.heap [] 0 0 (MQ below (mQE D v w1 A) As.toArray s rm.cells rm.slots A) (F0 m 0 ls [])) : cH l D y b n hh rm w0 As v w1 := by
  intro sz
  refine MetFree.of_bodyS (code := b) (maxLocals := n) (ret := some .int) hy ?_ ?_
  · intro args s m h hn
    obtain ⟨m9, meth, c, hn9, h1, h2, h3, h4, -, h5, h6, -⟩ := Cond.codeWith_spec (atoms_spec (ws := .codeWith y b n (some .int) hh :: aw) h _ List.mem_cons_self)
    cases hn.symm.trans hn9
    exact ⟨meth, c, h1, h2, h3, h4, h5, h6⟩
  · intro p e s m args below meth c s₁ B hml hv _
    obtain ⟨rfl, ⟨hsz, hg, hP, hD⟩, hz⟩ := hv
    have hts := atoms_spec (ws := .codeWith y b n (some .int) hh :: aw) B.pre
    have hh0 : s₁.heap = s.heap := by rw [B.state]; rfl
    have K := body p e s m below meth c _ (va_A w0 s.heap.size) B.exec B.bytes B.returns B.notSynchronized (vx_table (x := y) B (hts _ List.mem_cons_self)) ⟨B.exec, B.bytes, hml, findClass_of_methodNamed B.named, fun w h => hts w (List.mem_cons_of_mem _ h)⟩ hg (ZA.of hz hP) (fun q h => Or.inr h) hP hD.self va_S.rf (lv_entry As hn)
    rw [hsz] at K
    rw [← lg_entry_eq] at K
    obtain ⟨t, a1, o, b1, b2, b3⟩ := K s₁ hh0 (Stand.of_body B)
    exact ⟨t, o, a1, b1, b2, b3⟩
