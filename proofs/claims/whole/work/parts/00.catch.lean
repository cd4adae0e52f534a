/-! A callee's throw that a later row of the method's own table takes (my own rows: the printed names call two laws that the rounds' library lacks). -/
/-- the search ends with h whatever is asked behind it, and leaves the tables vm' -/
def mw_FT (e : Env) (s : State) (f : JFrame) (a : Addr) (rows : List ExceptionTableEntry) (h : Handler) (vm' : Vm) : Prop :=
  ∀ (Q : Handler → Pre) (E : CtlPost) (d : Bool) (acts : List Action), wp (findHandler.go f a rows) Q E e d acts s ↔ Q h d acts (s.setVm vm')
/-- a row that covers the place, whose class is linked: what the search does with it -/
theorem mw_row {e : Env} {s : State} {f : JFrame} {a : Addr} {x : ExceptionTableEntry} {k : ClassId} {cell : Cell} (hx : covers x f.pc = true) (h0 : x.catchType ≠ 0)
    (hl : s.vm.ClassLinks e.platform f.method.cls x.catchType k) (hcell : s.heap[a]? = some cell) (hobj : ∀ j, cell.vm ≠ .statics j)
    (hk : ∃ j, s.vm.classes[cell.cls]? = some j) (hc : ∃ j, s.vm.classes[k]? = some j) (t : List ExceptionTableEntry) (Q : Handler → Pre) (E : CtlPost) (d : Bool) (acts : List Action) :
    wp (findHandler.go f a (x :: t)) Q E e d acts s ↔
      if s.vm.assignable cell.cls k = true then Q (.found x.handlerPc) d acts (s.setVm (s.vm.noted f.method.cls x.catchType (.cls k)))
      else wp (findHandler.go f a t) Q E e d acts (s.setVm (s.vm.noted f.method.cls x.catchType (.cls k))) := by
  simp only [covers] at hx
  obtain ⟨ha, ht⟩ := (resolveClass_links e.toSetting hl).op (op := VmOp.resolveClass f.method.cls x.catchType) rfl
  have al : s.vm.Alike (s.vm.noted f.method.cls x.catchType (.cls k)) := (Vm.Alike.refl s.vm).noted _ _ _
  obtain ⟨j1, hj1⟩ := hk
  obtain ⟨j2, hj2⟩ := hc
  obtain ⟨i1, hi1, -⟩ := al.2.2 _ _ hj1
  obtain ⟨i2, hi2, -⟩ := al.2.2 _ _ hj2
  cases hfit : s.vm.assignable cell.cls k with
  | true =>
    have hf : (s.vm.noted f.method.cls x.catchType (.cls k)).assignable cell.cls k = true := by rw [al.assignable]; exact hfit
    simp [findHandler.go, hx, h0, ha, ht, hcell, hobj, hi1, hi2, hf, VmOp.dirties, VmOp.acts]
  | false =>
    have hf : (s.vm.noted f.method.cls x.catchType (.cls k)).assignable cell.cls k = false := by rw [al.assignable]; exact hfit
    simp [findHandler.go, hx, h0, ha, ht, hcell, hobj, hi1, hi2, hf, VmOp.dirties, VmOp.acts]
/-- rows ahead that don't take it, then one that does -/
theorem mw_go {e : Env} {s : State} {f : JFrame} {a : Addr} {cell : Cell} (hobj : ∀ j, cell.vm ≠ .statics j) (hk0 : ∃ j, s.vm.classes[cell.cls]? = some j)
    (x : ExceptionTableEntry) (suf : List ExceptionTableEntry) (hx : covers x f.pc = true) (h0 : x.catchType ≠ 0) {kx : ClassId} (hlx : s.vm.ClassLinks e.platform f.method.cls x.catchType kx) (hfit : s.vm.assignable cell.cls kx = true) :
    ∀ (pre : List ExceptionTableEntry) (S : State), s.WarmedH S.vm → S.heap[a]? = some cell →
      (∀ z ∈ pre, covers z f.pc = false ∨ (z.catchType ≠ 0 ∧ ∃ k, s.vm.ClassLinks e.platform f.method.cls z.catchType k ∧ s.vm.assignable cell.cls k = false)) →
      ∃ vm', s.WarmedH vm' ∧ mw_FT e S f a (pre ++ x :: suf) (.found x.handlerPc) vm' := by
  obtain ⟨j0, hj0⟩ := hk0
  intro pre
  induction pre with
  | nil =>
    intro S hW hcell _
    obtain ⟨i0, hi0, -⟩ := hW.alike.2.2 _ _ hj0
    obtain ⟨dk, _, _, kt, hd, _, _, _, _, hkt, _, hopen⟩ := hlx.here
    obtain ⟨it, hit, -⟩ := hW.alike.2.2 _ _ hkt
    refine ⟨_, hW.noted hd hopen (State.rightAt_cls hlx), fun Q E d acts => ?_⟩
    have q := mw_row (e := e) (s := S) (f := f) (a := a) hx h0 (hW.classLinks hlx) hcell hobj ⟨i0, hi0⟩ ⟨it, hit⟩ suf Q E d acts
    rw [if_pos (by rw [hW.alike.assignable]; exact hfit)] at q
    rw [List.nil_append]
    exact q
  | cons y ys ih =>
    intro S hW hcell hpass
    have hrest := fun z hz => hpass z (List.mem_cons_of_mem _ hz)
    by_cases hcov : covers y f.pc = true
    · rcases hpass y (List.mem_cons_self ..) with h | ⟨hy0, k, hl, hno⟩
      · rw [h] at hcov; cases hcov
      · obtain ⟨i0, hi0, -⟩ := hW.alike.2.2 _ _ hj0
        obtain ⟨dk, _, _, kt, hd, _, _, _, _, hkt, _, hopen⟩ := hl.here
        obtain ⟨it, hit, -⟩ := hW.alike.2.2 _ _ hkt
        obtain ⟨vm', hW', hq⟩ := ih (S.setVm (S.vm.noted f.method.cls y.catchType (.cls k))) (hW.noted hd hopen (State.rightAt_cls hl)) hcell hrest
        refine ⟨vm', hW', fun Q E d acts => ?_⟩
        have q := mw_row (e := e) (s := S) (f := f) (a := a) hcov hy0 (hW.classLinks hl) hcell hobj ⟨i0, hi0⟩ ⟨it, hit⟩ (ys ++ x :: suf) Q E d acts
        rw [if_neg (by rw [hW.alike.assignable, hno]; decide)] at q
        rw [List.cons_append]
        exact q.trans (hq Q E d acts)
    · obtain ⟨vm', hW', hq⟩ := ih S hW hcell hrest
      refine ⟨vm', hW', fun Q E d acts => ?_⟩
      rw [List.cons_append, W.findHandler_go_skip (by simpa using hcov)]
      exact hq Q E d acts
theorem mw_setF (u : State) (vm' : Vm) (F G : List Frame) : ((u.setFrames F).setVm vm').setFrames G = (u.setVm vm').setFrames G := by
  have h1 : (u.setFrames F).setVm vm' = (u.setVm vm').setFrames F := rfl
  rw [h1, State.setFrames_setFrames]
theorem mw_stepCatch {e : Env} {s : State} {a : Addr} {f : JFrame} {r : List Frame} {pc : Nat} {vm' : Vm} (hfind : ∀ (Q : Handler → Pre) (E : CtlPost) (d : Bool) (acts : List Action), wp (findHandler f a) Q E e d acts s ↔ Q (.found pc) d acts (s.setVm vm')) :
    (stepThrowing e s a (.java f :: r)).1 = (s.setVm vm').setFrames (.java { f with pc := pc, stack := [.ref a] } :: r) := by
  simp only [stepThrowing, searchFrame, vmDo]
  generalize hr : Sem.go _ e false [] s = res
  obtain ⟨as, rfl, ha⟩ := Sem.eq_ok_of hr (a := Handler.found pc) (s' := s.setVm vm') (acts' := []) (by simp [hfind _ _ _ _])
  rfl
/-- the step from 'thrown' to the handler -/
theorem mw_caught {p : Program} {l : Launch} {e : Env} {R : Room} {s : State} {m₀ : MethodId} {args : Array Value} {below : List Frame} {meth : Method} {c : Code} {T : State} {locs : List Loc} {cells slots : Nat}
    (X : Stand p l e R s m₀ args below meth c T locs cells slots) (a : Addr) {g : JFrame} (hg : g.method = m₀)
    {cell : Cell} (hcell : T.heap[a]? = some cell) (hobj : cell.vm.isStatics = false) (hk0 : ∃ k, s.vm.classes[cell.cls]? = some k)
    (pre : List ExceptionTableEntry) (x : ExceptionTableEntry) (suf : List ExceptionTableEntry) (hsplit : c.exceptionTable.toList = pre ++ x :: suf)
    (hpass : ∀ z ∈ pre, covers z g.pc = false ∨ (z.catchType ≠ 0 ∧ ∃ k, s.vm.ClassLinks e.platform m₀.cls z.catchType k ∧ s.vm.assignable cell.cls k = false))
    (hx : covers x g.pc = true) (h0 : x.catchType ≠ 0) {kx : ClassId} (hlx : s.vm.ClassLinks e.platform m₀.cls x.catchType kx) (hfit : s.vm.assignable cell.cls kx = true) :
    ∃ vm', Stand p l e R s m₀ args below meth c (T.setVm vm') locs cells slots ∧ Steps p.tables e below ((T.setTop g).pushFrame (.throwing a)) ((T.setVm vm').setTop { g with pc := x.handlerPc, stack := [.ref a] }) := by
  subst hg
  obtain ⟨vm', hW', hq⟩ := mw_go (e := e) (s := s) (f := g) (a := a) (cell := cell) (VmData.ne_statics_of hobj) hk0 x suf hx h0 hlx hfit pre ((T.setTop g).pushFrame (.throwing a)) X.warmed hcell hpass
  refine ⟨vm', X.noted hW', ?_⟩
  have hfind : ∀ (Q : Handler → Pre) (E : CtlPost) (d : Bool) (acts : List Action), wp (findHandler g a) Q E e d acts ((T.setTop g).pushFrame (.throwing a)) ↔ Q (.found x.handlerPc) d acts (((T.setTop g).pushFrame (.throwing a)).setVm vm') := by
    intro Q E d acts
    rw [W.findHandler_eq (s := (T.setTop g).pushFrame (.throwing a)) (meth := meth) (code := c) X.method' X.code, hsplit]
    exact hq Q E d acts
  obtain ⟨hgo, hw⟩ := X.here.throwing a
  refine Steps.head hgo hw ?_
  rw [stepThread_throwing (frames_entered X.here.top _), mw_stepCatch hfind]
  obtain ⟨g₀, hg0⟩ := Option.isSome_iff_exists.mp X.here.top
  obtain ⟨r, hr⟩ := State.topJava?_eq_some.mp hg0
  have hr' : (T.setVm vm').frames = .java g₀ :: r := hr
  rw [hr, List.tail_cons, State.pushFrame, mw_setF, State.setTop_of_frames _ hr, mw_setF, State.setTop_of_frames _ hr']
  exact Steps.refl _
