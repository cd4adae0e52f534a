section
/-! A callee's throw that a later row of the method's own table takes (my own rows: the printed names call two laws that the rounds' library lacks). -/
/-- the search ends with h whatever is asked behind it, and leaves the tables vm' -/
def mw_FT (e : Env) (s : State) (f : JFrame) (a : Addr) (rows : List ExceptionTableEntry) (h : Handler) (vm' : Vm) : Prop :=
  ∀ (Q : Handler → Pre) (E : CtlPost) (d : Bool) (acts : List Action), wp (findHandler.go f a rows) Q E e d acts s ↔ Q h d acts (s.setVm vm')
/-- a row that covers the place, whose class is linked: what the search does with it -/
theorem mw_row {e : Env} {s : State} {f : JFrame} {a : Addr} {x : ExceptionTableEntry} {k : ClassId} {cell : Cell} (hx : covers x f.pc = true) (h0 : x.catchType ≠ 0)
    (hl : s.vm.ClassLinks e.platform f.method.cls x.catchType k) (hcell : s.heap[a]? = some cell) (hobj : ∀ j, cell.vm ≠ .statics j)
    (hk : ∃ j, s.vm.classes[cell.cls]? = some j) (hc : ∃ j, s.vm.classes[k]? = some j) (t : List ExceptionTableEntry) (Q : Handler → Pre) (E : CtlPost) (d : Bool) (acts : List Action) :
    wp (findHandler.go f a (x :: t)) Q E e d acts s ↔
      if s.vm.assignable cell.cls k = true then Q (.found x.handlerPc) d acts (s.setVm (s.vm.noted f.method.cls x.catchType (.cls k)))
      else wp (findHandler.go f a t) Q E e d acts (s.setVm (s.vm.noted f.method.cls x.catchType (.cls k))) := by
  simp only [covers] at hx
  obtain ⟨ha, ht⟩ := (resolveClass_links e.toSetting hl).op (op := VmOp.resolveClass f.method.cls x.catchType) rfl
  have al : s.vm.Alike (s.vm.noted f.method.cls x.catchType (.cls k)) := (Vm.Alike.refl s.vm).noted _ _ _
  obtain ⟨j1, hj1⟩ := hk
  obtain ⟨j2, hj2⟩ := hc
  obtain ⟨i1, hi1, -⟩ := al.2.2 _ _ hj1
  obtain ⟨i2, hi2, -⟩ := al.2.2 _ _ hj2
  cases hfit : s.vm.assignable cell.cls k with
  | true =>
    have hf : (s.vm.noted f.method.cls x.catchType (.cls k)).assignable cell.cls k = true := by rw [al.assignable]; exact hfit
    simp [findHandler.go, hx, h0, ha, ht, hcell, hobj, hi1, hi2, hf, VmOp.dirties, VmOp.acts]
  | false =>
    have hf : (s.vm.noted f.method.cls x.catchType (.cls k)).assignable cell.cls k = false := by rw [al.assignable]; exact hfit
    simp [findHandler.go, hx, h0, ha, ht, hcell, hobj, hi1, hi2, hf, VmOp.dirties, VmOp.acts]
/-- rows ahead that don't take it, then one that does -/
theorem mw_go {e : Env} {s : State} {f : JFrame} {a : Addr} {cell : Cell} (hobj : ∀ j, cell.vm ≠ .statics j) (hk0 : ∃ j, s.vm.classes[cell.cls]? = some j)
    (x : ExceptionTableEntry) (suf : List ExceptionTableEntry) (hx : covers x f.pc = true) (h0 : x.catchType ≠ 0) {kx : ClassId} (hlx : s.vm.ClassLinks e.platform f.method.cls x.catchType kx) (hfit : s.vm.assignable cell.cls kx = true) :
    ∀ (pre : List ExceptionTableEntry) (S : State), s.WarmedH S.vm → S.heap[a]? = some cell →
      (∀ z ∈ pre, covers z f.pc = false ∨ (z.catchType ≠ 0 ∧ ∃ k, s.vm.ClassLinks e.platform f.method.cls z.catchType k ∧ s.vm.assignable cell.cls k = false)) →
      ∃ vm', s.WarmedH vm' ∧ mw_FT e S f a (pre ++ x :: suf) (.found x.handlerPc) vm' := by
  obtain ⟨j0, hj0⟩ := hk0
  intro pre
  induction pre with
  | nil =>
    intro S hW hcell _
    obtain ⟨i0, hi0, -⟩ := hW.alike.2.2 _ _ hj0
    obtain ⟨dk, _, _, kt, hd, _, _, _, _, hkt, _, hopen⟩ := hlx.here
    obtain ⟨it, hit, -⟩ := hW.alike.2.2 _ _ hkt
    refine ⟨_, hW.noted hd hopen (State.rightAt_cls hlx), fun Q E d acts => ?_⟩
    have q := mw_row (e := e) (s := S) (f := f) (a := a) hx h0 (hW.classLinks hlx) hcell hobj ⟨i0, hi0⟩ ⟨it, hit⟩ suf Q E d acts
    rw [if_pos (by rw [hW.alike.assignable]; exact hfit)] at q
    rw [List.nil_append]
    exact q
  | cons y ys ih =>
    intro S hW hcell hpass
    have hrest := fun z hz => hpass z (List.mem_cons_of_mem _ hz)
    by_cases hcov : covers y f.pc = true
    · rcases hpass y (List.mem_cons_self ..) with h | ⟨hy0, k, hl, hno⟩
      · rw [h] at hcov; cases hcov
      · obtain ⟨i0, hi0, -⟩ := hW.alike.2.2 _ _ hj0
        obtain ⟨dk, _, _, kt, hd, _, _, _, _, hkt, _, hopen⟩ := hl.here
        obtain ⟨it, hit, -⟩ := hW.alike.2.2 _ _ hkt
        obtain ⟨vm', hW', hq⟩ := ih (S.setVm (S.vm.noted f.method.cls y.catchType (.cls k))) (hW.noted hd hopen (State.rightAt_cls hl)) hcell hrest
        refine ⟨vm', hW', fun Q E d acts => ?_⟩
        have q := mw_row (e := e) (s := S) (f := f) (a := a) hcov hy0 (hW.classLinks hl) hcell hobj ⟨i0, hi0⟩ ⟨it, hit⟩ (ys ++ x :: suf) Q E d acts
        rw [if_neg (by rw [hW.alike.assignable, hno]; decide)] at q
        rw [List.cons_append]
        exact q.trans (hq Q E d acts)
    · obtain ⟨vm', hW', hq⟩ := ih S hW hcell hrest
      refine ⟨vm', hW', fun Q E d acts => ?_⟩
      rw [List.cons_append, W.findHandler_go_skip (by simpa using hcov)]
      exact hq Q E d acts
theorem mw_setF (u : State) (vm' : Vm) (F G : List Frame) : ((u.setFrames F).setVm vm').setFrames G = (u.setVm vm').setFrames G := by
  have h1 : (u.setFrames F).setVm vm' = (u.setVm vm').setFrames F := rfl
  rw [h1, State.setFrames_setFrames]
theorem mw_stepCatch {e : Env} {s : State} {a : Addr} {f : JFrame} {r : List Frame} {pc : Nat} {vm' : Vm} (hfind : ∀ (Q : Handler → Pre) (E : CtlPost) (d : Bool) (acts : List Action), wp (findHandler f a) Q E e d acts s ↔ Q (.found pc) d acts (s.setVm vm')) :
    (stepThrowing e s a (.java f :: r)).1 = (s.setVm vm').setFrames (.java { f with pc := pc, stack := [.ref a] } :: r) := by
  simp only [stepThrowing, searchFrame, vmDo]
  generalize hr : Sem.go _ e false [] s = res
  obtain ⟨as, rfl, ha⟩ := Sem.eq_ok_of hr (a := Handler.found pc) (s' := s.setVm vm') (acts' := []) (by simp [hfind _ _ _ _])
  rfl
/-- the step from 'thrown' to the handler -/
theorem mw_caught {p : Program} {l : Launch} {e : Env} {R : Room} {s : State} {m₀ : MethodId} {args : Array Value} {below : List Frame} {meth : Method} {c : Code} {T : State} {locs : List Loc} {cells slots : Nat}
    (X : Stand p l e R s m₀ args below meth c T locs cells slots) (a : Addr) {g : JFrame} (hg : g.method = m₀)
    {cell : Cell} (hcell : T.heap[a]? = some cell) (hobj : cell.vm.isStatics = false) (hk0 : ∃ k, s.vm.classes[cell.cls]? = some k)
    (pre : List ExceptionTableEntry) (x : ExceptionTableEntry) (suf : List ExceptionTableEntry) (hsplit : c.exceptionTable.toList = pre ++ x :: suf)
    (hpass : ∀ z ∈ pre, covers z g.pc = false ∨ (z.catchType ≠ 0 ∧ ∃ k, s.vm.ClassLinks e.platform m₀.cls z.catchType k ∧ s.vm.assignable cell.cls k = false))
    (hx : covers x g.pc = true) (h0 : x.catchType ≠ 0) {kx : ClassId} (hlx : s.vm.ClassLinks e.platform m₀.cls x.catchType kx) (hfit : s.vm.assignable cell.cls kx = true) :
    ∃ vm', Stand p l e R s m₀ args below meth c (T.setVm vm') locs cells slots ∧ Steps p.tables e below ((T.setTop g).pushFrame (.throwing a)) ((T.setVm vm').setTop { g with pc := x.handlerPc, stack := [.ref a] }) := by
  subst hg
  obtain ⟨vm', hW', hq⟩ := mw_go (e := e) (s := s) (f := g) (a := a) (cell := cell) (VmData.ne_statics_of hobj) hk0 x suf hx h0 hlx hfit pre ((T.setTop g).pushFrame (.throwing a)) X.warmed hcell hpass
  refine ⟨vm', X.noted hW', ?_⟩
  have hfind : ∀ (Q : Handler → Pre) (E : CtlPost) (d : Bool) (acts : List Action), wp (findHandler g a) Q E e d acts ((T.setTop g).pushFrame (.throwing a)) ↔ Q (.found x.handlerPc) d acts (((T.setTop g).pushFrame (.throwing a)).setVm vm') := by
    intro Q E d acts
    rw [W.findHandler_eq (s := (T.setTop g).pushFrame (.throwing a)) (meth := meth) (code := c) X.method' X.code, hsplit]
    exact hq Q E d acts
  obtain ⟨hgo, hw⟩ := X.here.throwing a
  refine Steps.head hgo hw ?_
  rw [stepThread_throwing (frames_entered X.here.top _), mw_stepCatch hfind]
  obtain ⟨g₀, hg0⟩ := Option.isSome_iff_exists.mp X.here.top
  obtain ⟨r, hr⟩ := State.topJava?_eq_some.mp hg0
  have hr' : (T.setVm vm').frames = .java g₀ :: r := hr
  rw [hr, List.tail_cons, State.pushFrame, mw_setF, State.setTop_of_frames _ hr, mw_setF, State.setTop_of_frames _ hr']
  exact Steps.refl _
end
section
-- ===== PART A: goes FIRST, ahead of the names: the tables' words, and 'selects' of the private methods out of them =====
/-- a private method of a class that the tables say can be made, by its rows of tables_1 -/
def lw_okq (q : MethodName × Nat) : Prop := (q.1.cls ≠ "java/lang/invoke/MethodHandle" ∧ q.1.cls ≠ "java/lang/invoke/VarHandle") ∧ Cond.instantiable q.1.cls q.2 ∈ tables_1 ∧ Cond.privateMethod q.1 ∈ tables_1 ∧ Cond.instanceMethod q.1 ∈ tables_1
theorem lw_p0 : lw_okq (⟨"java/lang/Throwable", "fillInStackTrace", "(I)Ljava/lang/Throwable;"⟩, 6) := ⟨⟨by decide +kernel, by decide +kernel⟩, List.mem_of_getElem? (i := 102) (by decide +kernel), List.mem_of_getElem? (i := 100) (by decide +kernel), List.mem_of_getElem? (i := 101) (by decide +kernel)⟩
theorem lw_p1 : lw_okq (⟨"WeatherMast", "instrumentAt", "(I)LWeatherMast$Instrument;"⟩, 5) := ⟨⟨by decide +kernel, by decide +kernel⟩, List.mem_of_getElem? (i := 20) (by decide +kernel), List.mem_of_getElem? (i := 284) (by decide +kernel), List.mem_of_getElem? (i := 285) (by decide +kernel)⟩
theorem lw_p2 : lw_okq (⟨"WeatherMast$Floating", "raised", "(J)J"⟩, 11) := ⟨⟨by decide +kernel, by decide +kernel⟩, List.mem_of_getElem? (i := 177) (by decide +kernel), List.mem_of_getElem? (i := 435) (by decide +kernel), List.mem_of_getElem? (i := 436) (by decide +kernel)⟩
theorem lw_p3 : lw_okq (⟨"WeatherMast$Floating", "cut", "(J)J"⟩, 11) := ⟨⟨by decide +kernel, by decide +kernel⟩, List.mem_of_getElem? (i := 177) (by decide +kernel), List.mem_of_getElem? (i := 439) (by decide +kernel), List.mem_of_getElem? (i := 440) (by decide +kernel)⟩
theorem lw_p4 : lw_okq (⟨"WeatherMast$Floating", "bitsBehindPoint", "(J)I"⟩, 11) := ⟨⟨by decide +kernel, by decide +kernel⟩, List.mem_of_getElem? (i := 177) (by decide +kernel), List.mem_of_getElem? (i := 443) (by decide +kernel), List.mem_of_getElem? (i := 444) (by decide +kernel)⟩
theorem lw_p5 : lw_okq (⟨"WeatherMast$Floating", "exponentOf", "(J)I"⟩, 11) := ⟨⟨by decide +kernel, by decide +kernel⟩, List.mem_of_getElem? (i := 177) (by decide +kernel), List.mem_of_getElem? (i := 447) (by decide +kernel), List.mem_of_getElem? (i := 448) (by decide +kernel)⟩
theorem lw_p6 : lw_okq (⟨"WeatherMast$Floating", "nextWhole", "(JJ)J"⟩, 11) := ⟨⟨by decide +kernel, by decide +kernel⟩, List.mem_of_getElem? (i := 177) (by decide +kernel), List.mem_of_getElem? (i := 454) (by decide +kernel), List.mem_of_getElem? (i := 455) (by decide +kernel)⟩
theorem lw_p7 : lw_okq (⟨"WeatherMast$Floating", "withSignOf", "(JJ)J"⟩, 11) := ⟨⟨by decide +kernel, by decide +kernel⟩, List.mem_of_getElem? (i := 177) (by decide +kernel), List.mem_of_getElem? (i := 458) (by decide +kernel), List.mem_of_getElem? (i := 459) (by decide +kernel)⟩
theorem lw_p8 : lw_okq (⟨"WeatherMast$Floating", "nearest", "(J)J"⟩, 11) := ⟨⟨by decide +kernel, by decide +kernel⟩, List.mem_of_getElem? (i := 177) (by decide +kernel), List.mem_of_getElem? (i := 462) (by decide +kernel), List.mem_of_getElem? (i := 463) (by decide +kernel)⟩
theorem lw_p9 : lw_okq (⟨"WeatherMast$Floating", "significandOf", "(J)J"⟩, 11) := ⟨⟨by decide +kernel, by decide +kernel⟩, List.mem_of_getElem? (i := 177) (by decide +kernel), List.mem_of_getElem? (i := 488) (by decide +kernel), List.mem_of_getElem? (i := 489) (by decide +kernel)⟩
theorem lw_p10 : lw_okq (⟨"WeatherMast$Floating", "rounded", "(JI)J"⟩, 11) := ⟨⟨by decide +kernel, by decide +kernel⟩, List.mem_of_getElem? (i := 177) (by decide +kernel), List.mem_of_getElem? (i := 498) (by decide +kernel), List.mem_of_getElem? (i := 499) (by decide +kernel)⟩
theorem lw_p11 : lw_okq (⟨"WeatherMast$Floating", "minus", "(JJ)J"⟩, 11) := ⟨⟨by decide +kernel, by decide +kernel⟩, List.mem_of_getElem? (i := 177) (by decide +kernel), List.mem_of_getElem? (i := 504) (by decide +kernel), List.mem_of_getElem? (i := 505) (by decide +kernel)⟩
theorem lw_p12 : lw_okq (⟨"WeatherMastModel", "fail", "(I)I"⟩, 19) := ⟨⟨by decide +kernel, by decide +kernel⟩, List.mem_of_getElem? (i := 636) (by decide +kernel), List.mem_of_getElem? (i := 708) (by decide +kernel), List.mem_of_getElem? (i := 709) (by decide +kernel)⟩
theorem lw_p13 : lw_okq (⟨"WeatherMastModel", "isInstrument", "(I)Z"⟩, 19) := ⟨⟨by decide +kernel, by decide +kernel⟩, List.mem_of_getElem? (i := 636) (by decide +kernel), List.mem_of_getElem? (i := 735) (by decide +kernel), List.mem_of_getElem? (i := 736) (by decide +kernel)⟩
theorem lw_p14 : lw_okq (⟨"WeatherMastModel", "link", "(IIJI)I"⟩, 19) := ⟨⟨by decide +kernel, by decide +kernel⟩, List.mem_of_getElem? (i := 636) (by decide +kernel), List.mem_of_getElem? (i := 759) (by decide +kernel), List.mem_of_getElem? (i := 760) (by decide +kernel)⟩
theorem lw_p15 : lw_okq (⟨"WeatherMastModel", "through", "(IJ)J"⟩, 19) := ⟨⟨by decide +kernel, by decide +kernel⟩, List.mem_of_getElem? (i := 636) (by decide +kernel), List.mem_of_getElem? (i := 787) (by decide +kernel), List.mem_of_getElem? (i := 788) (by decide +kernel)⟩
def lw_privs_1 : List (MethodName × Nat) := [(⟨"java/lang/Throwable", "fillInStackTrace", "(I)Ljava/lang/Throwable;"⟩, 6), (⟨"WeatherMast", "instrumentAt", "(I)LWeatherMast$Instrument;"⟩, 5), (⟨"WeatherMast$Floating", "raised", "(J)J"⟩, 11), (⟨"WeatherMast$Floating", "cut", "(J)J"⟩, 11), (⟨"WeatherMast$Floating", "bitsBehindPoint", "(J)I"⟩, 11), (⟨"WeatherMast$Floating", "exponentOf", "(J)I"⟩, 11), (⟨"WeatherMast$Floating", "nextWhole", "(JJ)J"⟩, 11), (⟨"WeatherMast$Floating", "withSignOf", "(JJ)J"⟩, 11), (⟨"WeatherMast$Floating", "nearest", "(J)J"⟩, 11), (⟨"WeatherMast$Floating", "significandOf", "(J)J"⟩, 11), (⟨"WeatherMast$Floating", "rounded", "(JI)J"⟩, 11), (⟨"WeatherMast$Floating", "minus", "(JJ)J"⟩, 11), (⟨"WeatherMastModel", "fail", "(I)I"⟩, 19), (⟨"WeatherMastModel", "isInstrument", "(I)Z"⟩, 19), (⟨"WeatherMastModel", "link", "(IIJI)I"⟩, 19), (⟨"WeatherMastModel", "through", "(IJ)J"⟩, 19)]
theorem lw_r1 : ∀ q ∈ lw_privs_1, lw_okq q := List.forall_mem_cons.mpr ⟨lw_p0, List.forall_mem_cons.mpr ⟨lw_p1, List.forall_mem_cons.mpr ⟨lw_p2, List.forall_mem_cons.mpr ⟨lw_p3, List.forall_mem_cons.mpr ⟨lw_p4, List.forall_mem_cons.mpr ⟨lw_p5, List.forall_mem_cons.mpr ⟨lw_p6, List.forall_mem_cons.mpr ⟨lw_p7, List.forall_mem_cons.mpr ⟨lw_p8, List.forall_mem_cons.mpr ⟨lw_p9, List.forall_mem_cons.mpr ⟨lw_p10, List.forall_mem_cons.mpr ⟨lw_p11, List.forall_mem_cons.mpr ⟨lw_p12, List.forall_mem_cons.mpr ⟨lw_p13, List.forall_mem_cons.mpr ⟨lw_p14, List.forall_mem_cons.mpr ⟨lw_p15, fun _ h => absurd h List.not_mem_nil⟩⟩⟩⟩⟩⟩⟩⟩⟩⟩⟩⟩⟩⟩⟩⟩
theorem lw_p16 : lw_okq (⟨"WeatherMastModel", "latest", "(I)J"⟩, 19) := ⟨⟨by decide +kernel, by decide +kernel⟩, List.mem_of_getElem? (i := 636) (by decide +kernel), List.mem_of_getElem? (i := 791) (by decide +kernel), List.mem_of_getElem? (i := 792) (by decide +kernel)⟩
def lw_privs_2 : List (MethodName × Nat) := [(⟨"WeatherMastModel", "latest", "(I)J"⟩, 19)]
theorem lw_r2 : ∀ q ∈ lw_privs_2, lw_okq q := List.forall_mem_cons.mpr ⟨lw_p16, fun _ h => absurd h List.not_mem_nil⟩
def lw_privs : List (MethodName × Nat) := lw_privs_1 ++ (lw_privs_2)
def lw_tbl : List Cond := k2_sels lw_privs ++ tables_1
theorem lw_privs_ok : ∀ q ∈ lw_privs, lw_okq q := by
  show ∀ q ∈ lw_privs_1 ++ (lw_privs_2), lw_okq q
  exact List.forall_mem_append.mpr ⟨lw_r1, lw_r2⟩
/-- the streams that the claim lets the run draw from -/
abbrev lw_cs : List Choice := [Jvm.Choice.named "NaN.bits", Jvm.Choice.named "NaN.copy"]
theorem lw_bits : nanBits ∈ lw_cs := by first | decide | exact List.mem_cons_self | simp [lw_cs, nanBits]
-- ===== end of PART A; then your names; then what follows =====
/-! ===== BEGIN words of one list among another's, by their places ===== -/
theorem goodIn_r {big : List Cond} (ws : List Cond) (ps : List Nat) (hp : ws = ps.filterMap (fun i => big[i]?)) (h : ws.all goodWord = true) : GoodIn big ws := by
  intro w hw
  have h1 := List.all_eq_true.mp h w hw
  rw [hp] at hw
  obtain ⟨i, -, hi⟩ := List.mem_filterMap.mp hw
  have hm : w ∈ big := by first | exact List.mem_of_getElem? hi | exact List.getElem?_mem hi
  exact ⟨hm, good_of_word h1⟩
theorem goodIn_app {big a b : List Cond} (ha : GoodIn big a) (hb : GoodIn big b) : GoodIn big (a ++ b) := fun w h => (List.mem_append.mp h).elim (ha w) (hb w)
theorem goodIn_ca {big a b : List Cond} {c : Cond} (ha : GoodIn big (c :: a)) (hb : GoodIn big b) : GoodIn big (c :: (a ++ b)) := fun w h => (List.mem_cons.mp h).elim (fun e => ha w (List.mem_cons.mpr (Or.inl e))) (fun h => (List.mem_append.mp h).elim (fun h => ha w (List.mem_cons.mpr (Or.inr h))) (hb w))
theorem goodIn_sub {big ws : List Cond} (hm : ∀ w ∈ ws, w ∈ big) (h : ws.all goodWord = true) : GoodIn big ws := fun w hw => ⟨hm w hw, good_of_word (List.all_eq_true.mp h w hw)⟩
/-! ===== END ===== -/

/-! ===== BEGIN exceptions that leave a method, and their catching by the caller (launches without stack traces) ===== -/
section VXA
/-! The laws vx_back, vx_callV, vx_callS, vx_callSW, vx_throw0, vx_throwS follow proofs of the library, with one case more: JvmDerived/Free/Laws.lean (Back.of_free), Shelf42/LK1.lean (callV, callS), Shelf/KitTraced.lean (throwNew0V, throwNewS). -/
/-- where a method has thrown q: the class by its name, the cell, what was written, the world -/
def vx_T (XC : String → State → State → Prop) (st : State) (q : Addr) (t : State) (mc ms : Nat) (free : Addr → Prop) : Prop :=
  ∃ (E : String) (ce : Cell) (L : List Loc), XC E st t ∧ t.heap[q]? = some ce ∧ ce.vm = .none ∧ st.vm.findClass E = some ce.cls ∧ st.WarmedH t.vm ∧ st.sameButNew ({ t with vm := st.vm } : State) L mc ms ∧ ∀ z ∈ L, free z.base
def vx_Q (Qc : Array Value → State → Outcome → State → Prop) (XC : String → State → State → Prop) (mc ms : Nat) (free : Addr → Prop) : Array Value → State → Outcome → State → Prop := fun a st o t =>
  (Qc a st o t ∧ ∃ L, FrameEnd st o t L mc ms ∧ ∀ q ∈ L, free q.base) ∨ ∃ q, o = .threw q ∧ vx_T XC st q t mc ms free
/-- a callee that returns or throws -/
def vx_Met (l : Launch) (y : MethodName) (ws : List Cond) (rm : Room) (Pc : Array Value → State → Prop) (Qc : Array Value → State → Outcome → State → Prop) (XC : String → State → State → Prop) (mc ms : Nat) (free : Addr → Prop) : Prop :=
  MetFree l y (headSpec ws rm) Pc (fun _ _ _ _ _ => True) (vx_Q Qc XC mc ms free)
def vx_Post (XC : String → State → State → Prop) (mc ms : Nat) (free : Addr → Prop) : Pt → Array Value → Addr → Pt → Prop := fun A a q B =>
  ∃ (g : JFrame) (mk : MethodId) (t : State) (L : List Loc) (E : String) (ce : Cell), B.U.heap = t.heap ∧ B.U.vm = t.vm ∧ XC E (A.U.calling g mk a) t ∧ t.heap[q]? = some ce ∧ ce.vm = .none ∧ A.U.vm.findClass E = some ce.cls ∧ B.locs = A.locs ++ L ∧ (∀ z ∈ L, free z.base) ∧ B.cells = A.cells + mc ∧ B.slots = A.slots + ms
def vx_Back (l : Launch) (R : Room) (p : Program) (e : Env) (below : List Frame) (s : State) (sargs : Array Value) (y : MethodName) (len W9 : Nat)
    (Pre : Pt → Array Value → Prop) (Post : Pt → Array Value → Option Value → Pt → Prop) (PostX : Pt → Array Value → Addr → Pt → Prop) : Prop :=
  ∀ (m : MethodId) (meth : Method) (c : Code) (A : Pt) (g : JFrame) (ig : Instr) (mk : MethodId) (a : Array Value),
    Stand p l e R s m sargs below meth c A.U A.locs A.cells A.slots → g.method = m → g.locals.size = c.maxLocals → decode c.code g.pc = .ok (ig, len) →
    2 * g.monitorRoom + (g.stack.map fun v => v.category).sum ≤ W9 → A.U.methodNamed? y = some mk → Pre A a →
    (∃ (v : Option Value) (B : Pt), Stand p l e R s m sargs below meth c B.U B.locs B.cells B.slots ∧ Post A a v B ∧
      Steps p.tables e below (doInvoke e (A.U.setTop g) [] mk a).1 (B.U.setTop { g with pc := g.pc + len, stack := v.toList ++ g.stack })) ∨
    (∃ (q : Addr) (B : Pt), Stand p l e R s m sargs below meth c B.U B.locs B.cells B.slots ∧ PostX A a q B ∧
      Steps p.tables e below (doInvoke e (A.U.setTop g) [] mk a).1 ((B.U.setTop g).pushFrame (.throwing q)))
section Payer
variable {l : Launch} {R : Room} {p : Program} {e : Env} {below : List Frame} {s : State} {sargs : Array Value} {y : MethodName} {len W9 : Nat}
theorem vx_back {ws : List Cond} {rm : Room} {Pc : Array Value → State → Prop} {Qc : Array Value → State → Outcome → State → Prop} {XC : String → State → State → Prop} {mc ms : Nat} {free : Addr → Prop} {bytes : ByteArray} {maxL : Nat} {ret : Option FieldType}
    (hM : vx_Met l y ws rm Pc Qc XC mc ms free) (hblind : FrameBlind Pc) (hrc : rm.cells = mc) (hrs : rm.slots = ms)
    (hframes : rm.frames + 1 ≤ R.frames) (hlocals : W9 + (maxL + 11) + rm.locals ≤ R.locals)
    (hws : ∀ w ∈ ws, ∀ a' U, s.WarmedH U.vm → w.before a' U = true) (hcode : Cond.code y bytes maxL ret ∈ ws) (hinit : ∀ a' U, s.WarmedH U.vm → (Cond.initialized y.cls).before a' U = true) :
    vx_Back l R p e below s sargs y len W9 (PreOf R mc ms Pc) (PostOf Qc mc ms free) (vx_Post XC mc ms free) := by
  intro m meth c A g ig mk a X hg hsize hdg hW hn hp
  have h1 : (headSpec ws rm).pre.before a A.U = true := atoms_intro fun w hw => hws w hw _ _ X.warmed
  have h2 : (Cond.code y bytes maxL ret).before a A.U = true := hws _ hcode _ _ X.warmed
  have h3 : (Cond.initialized y.cls).before a A.U = true := hinit _ _ X.warmed
  have h4 : A.cells + (headSpec ws rm).room.cells ≤ R.cells := by rw [show (headSpec ws rm).room.cells = mc from hrc]; exact hp.1
  have h5 : A.slots + (headSpec ws rm).room.slots ≤ R.slots := by rw [show (headSpec ws rm).room.slots = ms from hrs]; exact hp.2.1
  have hPc : Pc a (A.U.calling g mk a) := hblind _ _ _ _ hp.2.2
  obtain ⟨U, Ls, c0, s0⟩ := A
  dsimp only [Pt.U, Pt.locs, Pt.cells, Pt.slots] at h1 h2 h3 h4 h5 X hn hPc ⊢
  obtain ⟨methY, cY, hmY, hcY, -, hlY, -, -, -, -⟩ := Cond.code_spec hn h2
  obtain ⟨kY, hkY, -⟩ := className_of_methodNamed hn
  have hinitY : kY.init = .initialized := Cond.initialized_spec (findClass_of_methodNamed hn) hkY h3
  have h : At U g.method c below := by rw [hg]; exact X.here
  have hlocals9 : W9 + (maxL + 11) + (headSpec ws rm).room.locals ≤ R.locals := hlocals
  have happ : (headSpec ws rm).appliesLoose y e.platform (U.calling g mk a) = true :=
    Spec.appliesLoose_calling (g := g) h hdg hn hkY hinitY
      (X.room_calling (g := g) (R' := (headSpec ws rm).room) hsize hmY hcY hframes (by rw [hlY]; omega) h4 h5) h1
  obtain ⟨mid, hmid⟩ := h.above
  have hfr : (U.setTop g).frames = (.java g :: mid) ++ below := by rw [State.frames_setTop' g h.top, hmid]; rfl
  obtain ⟨o, s₂, hsteps, -, hend, hq⟩ := Steps.callFree hM p X.admits X.cas X.clock (acts := []) hfr happ hPc trivial
  have hq' : vx_Q Qc XC mc ms free a (U.calling g mk a) o s₂ := hq
  rw [State.frames_setTop' g h.top] at hend
  obtain ⟨g₀, hg0⟩ := Option.isSome_iff_exists.mp h.top
  obtain ⟨r, hr⟩ := State.topJava?_eq_some.mp hg0
  have hr' : (({ U with heap := s₂.heap, slotsUsed := s₂.slotsUsed } : State).setVm s₂.vm).frames = .java g₀ :: r := hr
  rcases hq' with ⟨hqc, L, hfe, hL⟩ | ⟨q, rfl, E, ce, L, hx, hce, hcv, hcl, hW₂, hsm, hL⟩
  · obtain ⟨⟨v, rfl⟩, hW₂, e2, q2, q3, q4, q5, q6⟩ := id hfe
    have e3 : s₂ = ({ (U.calling g mk a).setFrames s₂.frames with heap := s₂.heap, slotsUsed := s₂.slotsUsed } : State).setVm s₂.vm := by
      have : s₂ = ({ s₂ with vm := (U.calling g mk a).vm } : State).setVm s₂.vm := rfl
      rw [e2] at this
      exact this
    obtain ⟨c₂, i₂, len₂, hc₂, hd₂, hf₂⟩ := hend
    have hW' : U.WarmedH s₂.vm := hW₂
    have hcc : c₂ = c := by
      have h1 : s₂.code? g.method = U.code? g.method := by
        rw [State.code?_eq, State.code?_eq, hW'.alike.method?]
      exact Option.some.inj (hc₂.symm.trans (h1.trans h.code))
    subst hcc
    have hlen : len₂ = len := by rw [hdg] at hd₂; cases hd₂; rfl
    subst hlen
    have hs₂ : s₂ = (({ U with heap := s₂.heap, slotsUsed := s₂.slotsUsed } : State).setVm s₂.vm).setTop { g with pc := g.pc + len₂, stack := v.toList ++ g.stack } := by
      refine e3.trans ?_
      rw [hf₂, State.calling_eq h.top, State.setFrames_setFrames, State.setTop_of_frames _ hr', hr]
      rfl
    have hsame : U.sameButNew ({ U with heap := s₂.heap, slotsUsed := s₂.slotsUsed } : State) L mc ms := by
      refine ⟨?_, q2, q3, q4, q5, q6⟩
      obtain ⟨t, ht, -⟩ := State.frames_cons hr
      show ({ U with heap := s₂.heap, slotsUsed := s₂.slotsUsed } : State) = { U.setFrames U.frames with heap := s₂.heap, slotsUsed := s₂.slotsUsed }
      rw [State.setFrames_self ht]
    subst hg
    refine Or.inl ⟨v, ⟨(({ U with heap := s₂.heap, slotsUsed := s₂.slotsUsed } : State).setVm s₂.vm), Ls ++ L, c0 + mc, s0 + ms⟩,
      ⟨X.admits, X.cas, X.clock, X.frames, X.room, X.hears, X.method, X.code, (X.here.setHeapUsed s₂.heap s₂.slotsUsed).setVm hW'.alike, X.tail, State.WarmedH.trans X.warmed hW', X.limits, X.bytes, X.same.trans (hsame.setVm s.vm)⟩,
      ⟨g, mk, s₂, L, rfl, rfl, hqc, rfl, hL, rfl, rfl⟩, ?_⟩
    show Steps p.tables e below _ ((({ U with heap := s₂.heap, slotsUsed := s₂.slotsUsed } : State).setVm s₂.vm).setTop { g with pc := g.pc + len₂, stack := v.toList ++ g.stack })
    rw [← hs₂]
    exact hsteps
  · obtain ⟨e2, q2, q3, q4, q5, q6⟩ := id hsm
    have e3 : s₂ = ({ (U.calling g mk a).setFrames s₂.frames with heap := s₂.heap, slotsUsed := s₂.slotsUsed } : State).setVm s₂.vm := by
      have : s₂ = ({ s₂ with vm := (U.calling g mk a).vm } : State).setVm s₂.vm := rfl
      rw [e2] at this
      exact this
    have hf₂ : s₂.frames = .throwing q :: .java g :: U.frames.tail := hend
    have hW' : U.WarmedH s₂.vm := hW₂
    have hs₂ : s₂ = ((({ U with heap := s₂.heap, slotsUsed := s₂.slotsUsed } : State).setVm s₂.vm).setTop g).pushFrame (.throwing q) := by
      refine e3.trans ?_
      rw [hf₂, State.calling_eq h.top, State.setFrames_setFrames, State.pushFrame, State.frames_setTop _ hr', State.setTop_of_frames _ hr', State.setFrames_setFrames, hr]
      rfl
    have hsame : U.sameButNew ({ U with heap := s₂.heap, slotsUsed := s₂.slotsUsed } : State) L mc ms := by
      refine ⟨?_, q2, q3, q4, q5, q6⟩
      obtain ⟨t, ht, -⟩ := State.frames_cons hr
      show ({ U with heap := s₂.heap, slotsUsed := s₂.slotsUsed } : State) = { U.setFrames U.frames with heap := s₂.heap, slotsUsed := s₂.slotsUsed }
      rw [State.setFrames_self ht]
    subst hg
    refine Or.inr ⟨q, ⟨(({ U with heap := s₂.heap, slotsUsed := s₂.slotsUsed } : State).setVm s₂.vm), Ls ++ L, c0 + mc, s0 + ms⟩,
      ⟨X.admits, X.cas, X.clock, X.frames, X.room, X.hears, X.method, X.code, (X.here.setHeapUsed s₂.heap s₂.slotsUsed).setVm hW'.alike, X.tail, State.WarmedH.trans X.warmed hW', X.limits, X.bytes, X.same.trans (hsame.setVm s.vm)⟩,
      ⟨g, mk, s₂, L, E, ce, rfl, rfl, hx, hce, hcv, hcl, rfl, hL, rfl, rfl⟩, ?_⟩
    show Steps p.tables e below _ (((({ U with heap := s₂.heap, slotsUsed := s₂.slotsUsed } : State).setVm s₂.vm).setTop g).pushFrame (.throwing q))
    rw [← hs₂]
    exact hsteps
end Payer
section Calls
variable {p : Program} {l : Launch} {e : Env} {R : Room} {s : State} {m : MethodId} {args : Array Value} {below : List Frame} {meth : Method} {c : Code} {T : State} {locs : List Loc} {cells slots : Nat}
theorem vx_callV (X : Stand p l e R s m args below meth c T locs cells slots) (hexec : p.tables.exec = Jvm.exec) {own C : String} {index : Nat} {y : MethodName} {bytes : ByteArray} {maxL : Nat} {ret : Option FieldType}
    (hown : s.vm.findClass own = some m.cls) (hlink : (Cond.methodLink own index y).before args s = true) (hinst : (Cond.instanceMethod y).before args s = true) (hsel : (Cond.selects C y y).before args s = true)
    (hcode : (Cond.code y bytes maxL ret).before args s = true) (hy : y.cls ≠ "java/lang/invoke/MethodHandle" ∧ y.cls ≠ "java/lang/invoke/VarHandle")
    {W9 : Nat} {Pre : Pt → Array Value → Prop} {Post : Pt → Array Value → Option Value → Pt → Prop} {PostX : Pt → Array Value → Addr → Pt → Prop} (hK : vx_Back l R p e below s args y 3 W9 Pre Post PostX)
    {b : Addr} {cellB : Cell} (hcell : T.heap[b]? = some cellB) (hobj : cellB.vm.isStatics = false) (hcls : s.vm.findClass C = some cellB.cls)
    {g : JFrame} (hg : g.method = m) (hsize : g.locals.size = c.maxLocals) {argsL rest : List Value} (hlen : ∀ sig, parseMethodDescriptor y.desc = some sig → argsL.length = sig.parameters.length)
    (hstack : g.stack = argsL.reverse ++ .ref b :: rest) (hW : 2 * g.monitorRoom + (rest.map fun v => v.category).sum ≤ W9) (hdg : decode c.code g.pc = .ok (.invokevirtual index, 3))
    (hpre : ∀ vm₁, s.WarmedH vm₁ → Pre ⟨T.setVm vm₁, locs, cells, slots⟩ (Value.ref b :: argsL).toArray) :
    (∃ (v : Option Value) (vm₁ : Vm) (B : Pt), s.WarmedH vm₁ ∧ Stand p l e R s m args below meth c B.U B.locs B.cells B.slots ∧ Post ⟨T.setVm vm₁, locs, cells, slots⟩ (Value.ref b :: argsL).toArray v B ∧
      ∀ target, Steps p.tables e below (B.U.setTop { g with pc := g.pc + 3, stack := v.toList ++ rest }) target → Steps p.tables e below (T.setTop g) target) ∨
    (∃ (q : Addr) (vm₁ : Vm) (B : Pt), s.WarmedH vm₁ ∧ Stand p l e R s m args below meth c B.U B.locs B.cells B.slots ∧ PostX ⟨T.setVm vm₁, locs, cells, slots⟩ (Value.ref b :: argsL).toArray q B ∧
      Steps p.tables e below (T.setTop g) ((B.U.setTop { g with stack := rest }).pushFrame (.throwing q))) := by
  obtain ⟨mk, methM, hnamed, hmethM, hstM, habM⟩ := Cond.instanceMethod_spec hinst
  obtain ⟨methM', cM, hmethM', -, -, -, -, -, -, hsigM⟩ := Cond.code_spec hnamed hcode
  cases hmethM.symm.trans hmethM'
  obtain ⟨c2, r2, m2, q1, q2, q3, q4, kP, hkP, hkPi⟩ := Cond.selects_spec hsel
  cases hcls.symm.trans q1
  cases (State.methodFound?_of_named hnamed hy).symm.trans q2
  cases hnamed.symm.trans q3
  have hselP : selectMethod e.platform s.vm cellB.cls mk = .method mk := by rw [Launch.admits_selectMethod X.admits]; exact q4
  obtain ⟨vm₁, X₁, hstep₁⟩ := X.invokevirtual hexec hown hlink hnamed hmethM hstM hkP hkPi hy (a := b) (cell := cellB) hcell
    (fun z h => by rw [h] at hobj; cases hobj) hselP hmethM habM hkP hkPi (g := g) hg (argsL := argsL) (rest := rest) (hlen _ hsigM) hstack hdg
  rcases hK m meth c ⟨T.setVm vm₁, locs, cells, slots⟩ { g with stack := rest } (.invokevirtual index) mk (Value.ref b :: argsL).toArray X₁ hg hsize hdg hW (X₁.named hnamed) (hpre vm₁ X₁.warmed) with ⟨v, B, X', hpost, hsteps⟩ | ⟨q, B, X', hpost, hsteps⟩
  · exact Or.inl ⟨v, vm₁, B, X₁.warmed, X', hpost, fun target h => hstep₁ _ fun acts => by rw [doInvoke_state]; exact hsteps.trans h⟩
  · exact Or.inr ⟨q, vm₁, B, X₁.warmed, X', hpost, hstep₁ _ fun acts => by rw [doInvoke_state]; exact hsteps⟩
theorem vx_callS (X : Stand p l e R s m args below meth c T locs cells slots) (hexec : p.tables.exec = Jvm.exec) {own : String} {index : Nat} {y : MethodName} {bytes : ByteArray} {maxL : Nat} {ret : Option FieldType}
    (hown : s.vm.findClass own = some m.cls) (hlink : (Cond.methodLink own index y).before args s = true) (hstat : (Cond.static y).before args s = true) (hinit : (Cond.initialized y.cls).before args s = true)
    (hcode : (Cond.code y bytes maxL ret).before args s = true) (hy : y.cls ≠ "java/lang/invoke/MethodHandle" ∧ y.cls ≠ "java/lang/invoke/VarHandle")
    {W9 : Nat} {Pre : Pt → Array Value → Prop} {Post : Pt → Array Value → Option Value → Pt → Prop} {PostX : Pt → Array Value → Addr → Pt → Prop} (hK : vx_Back l R p e below s args y 3 W9 Pre Post PostX)
    {g : JFrame} (hg : g.method = m) (hsize : g.locals.size = c.maxLocals) {argsL rest : List Value} (hlen : ∀ sig, parseMethodDescriptor y.desc = some sig → argsL.length = sig.parameters.length)
    (hstack : g.stack = argsL.reverse ++ rest) (hW : 2 * g.monitorRoom + (rest.map fun v => v.category).sum ≤ W9) (hdg : decode c.code g.pc = .ok (.invokestatic index, 3))
    (hpre : ∀ vm₁, s.WarmedH vm₁ → Pre ⟨T.setVm vm₁, locs, cells, slots⟩ argsL.toArray) :
    (∃ (v : Option Value) (vm₁ : Vm) (B : Pt), s.WarmedH vm₁ ∧ Stand p l e R s m args below meth c B.U B.locs B.cells B.slots ∧ Post ⟨T.setVm vm₁, locs, cells, slots⟩ argsL.toArray v B ∧
      ∀ target, Steps p.tables e below (B.U.setTop { g with pc := g.pc + 3, stack := v.toList ++ rest }) target → Steps p.tables e below (T.setTop g) target) ∨
    (∃ (q : Addr) (vm₁ : Vm) (B : Pt), s.WarmedH vm₁ ∧ Stand p l e R s m args below meth c B.U B.locs B.cells B.slots ∧ PostX ⟨T.setVm vm₁, locs, cells, slots⟩ argsL.toArray q B ∧
      Steps p.tables e below (T.setTop g) ((B.U.setTop { g with stack := rest }).pushFrame (.throwing q))) := by
  obtain ⟨mk, hnamed⟩ := Cond.code_named hcode
  obtain ⟨methM, cM, hmethM, -, -, -, -, -, -, hsigM⟩ := Cond.code_spec hnamed hcode
  have hstatic : methM.isStatic = true := Cond.static_spec hnamed hmethM hstat
  obtain ⟨kP, hkP, -⟩ := className_of_methodNamed hnamed
  have hinitP : kP.init = .initialized := Cond.initialized_spec (findClass_of_methodNamed hnamed) hkP hinit
  obtain ⟨vm₁, X₁, hstep₁⟩ := X.invokestatic hexec hown hlink hnamed hmethM hstatic hkP hinitP hy (g := g) hg (argsL := argsL) (rest := rest) (hlen _ hsigM) hstack hdg
  rcases hK m meth c ⟨T.setVm vm₁, locs, cells, slots⟩ { g with stack := rest } (.invokestatic index) mk argsL.toArray X₁ hg hsize hdg hW (X₁.named hnamed) (hpre vm₁ X₁.warmed) with ⟨v, B, X', hpost, hsteps⟩ | ⟨q, B, X', hpost, hsteps⟩
  · exact Or.inl ⟨v, vm₁, B, X₁.warmed, X', hpost, fun target h => hstep₁ _ fun acts => by rw [doInvoke_state]; exact hsteps.trans h⟩
  · exact Or.inr ⟨q, vm₁, B, X₁.warmed, X', hpost, hstep₁ _ fun acts => by rw [doInvoke_state]; exact hsteps⟩
end Calls
theorem vx_cls {s : State} {T : State} {vm₁ : Vm} {E : String} {k : ClassId} (hW : s.WarmedH vm₁) (h : (T.setVm vm₁).vm.findClass E = some k) : s.vm.findClass E = some k := by
  have h1 : vm₁.findClass E = some k := h
  rw [hW.alike.findClass] at h1
  exact h1
/-- the method's frame g, with q thrown over it -/
def vx_W (p : Program) (l : Launch) (e : Env) (R : Room) (s : State) (m : MethodId) (args : Array Value) (below : List Frame) (meth : Method) (c : Code) (H : Heap) (locs : List Loc) (cells slots : Nat) (Q : State → Prop) (g : JFrame) (q : Addr) : Prop :=
  ∀ T : State, T.heap = H → Stand p l e R s m args below meth c T locs cells slots → ∃ t, Steps p.tables e below ((T.setTop g).pushFrame (.throwing q)) t ∧ Q t
def vx_Run (p : Program) (l : Launch) (e : Env) (R : Room) (s : State) (m : MethodId) (args : Array Value) (below : List Frame) (meth : Method) (c : Code) (H : Heap) (locs : List Loc) (cells slots mc ms : Nat) (g : JFrame) (rest : List Value) (Qa : State → Outcome → State → Prop) (XC : String → State → State → Prop) (free : Addr → Prop) : Prop :=
  ∀ T : State, T.heap = H → Stand p l e R s m args below meth c T locs cells slots →
    (∃ (v : Option Value) (st₀ t T' : State) (L : List Loc), st₀.heap = H ∧ Stand p l e R s m args below meth c T' (locs ++ L) (cells + mc) (slots + ms) ∧ (∀ q ∈ L, free q.base) ∧ T'.heap = t.heap ∧ T'.vm = t.vm ∧ Qa st₀ (.returned v) t ∧
      Goes p e below T g T' { g with pc := g.pc + 3, stack := v.toList ++ rest }) ∨
    (∃ (q : Addr) (st₀ t T' : State) (L : List Loc) (E : String) (ce : Cell), st₀.heap = H ∧ Stand p l e R s m args below meth c T' (locs ++ L) (cells + mc) (slots + ms) ∧ (∀ z ∈ L, free z.base) ∧ T'.heap = t.heap ∧ T'.vm = t.vm ∧ XC E st₀ t ∧ t.heap[q]? = some ce ∧ ce.vm = .none ∧ s.vm.findClass E = some ce.cls ∧
      Steps p.tables e below (T.setTop g) ((T'.setTop { g with stack := rest }).pushFrame (.throwing q)))
def vx_X {S : Type} (px : S → Prop) (B : String → S → State → Prop) (A : Nat → Prop) : String → State → State → Prop := fun E st t => ∃ u : S, px u ∧ B E u t ∧ va_F A st t
section Runs
variable {p : Program} {l : Launch} {e : Env} {R : Room} {s : State} {m : MethodId} {args : Array Value} {below : List Frame} {meth : Method} {c : Code} {H : Heap} {locs : List Loc} {cells slots : Nat}
variable {y : MethodName} {bytes cc : ByteArray} {maxL nL mc ms n index : Nat} {ret : Option FieldType} {ws : List Cond} {rm : Room} {Pc : Array Value → State → Prop} {Qc : Array Value → State → Outcome → State → Prop} {XC : String → State → State → Prop} {free : Addr → Prop} {Ts : List Cond} {own C : String} {b : Addr} {As rest : List Value} {g : JFrame}
theorem vx_callBack (cb : CallB R s args own index y bytes maxL ret ws rm mc ms n) (hM : vx_Met l y ws rm Pc Qc XC mc ms free) (hbl : FrameBlind Pc) : vx_Back l R p e below s args y 3 8 (PreOf R mc ms Pc) (PostOf Qc mc ms free) (vx_Post XC mc ms free) := by
  obtain ⟨hrc, hrs, hfr, hlo, hws, hcw, -, hini, -⟩ := cb
  exact vx_back (bytes := bytes) (maxL := maxL) (ret := ret) hM hbl hrc hrs hfr hlo hws hcw (fun a' U hW => word_at hW (Or.inl (by first | rfl | simp [Cond.onTables, Cond.keeps, Cond.steady])) hini)
theorem vx_runV (S : CallFix p m c cc nL s args Ts own) (hM : vx_Met l y ws rm Pc Qc XC mc ms free) (cw : CallW R s args own C index y bytes maxL ret ws rm mc ms n) (hp : PreV s H C b Pc As)
    (hg : g.method = m) (hn : As.length = n) (hsize : g.locals.size = nL) (hstack : g.stack = As.reverse ++ .ref b :: rest) (hW : 2 * g.monitorRoom + (rest.map fun v => v.category).sum ≤ 8) (hdg : decode cc g.pc = .ok (.invokevirtual index, 3)) (hf : cells + mc ≤ R.cells ∧ slots + ms ≤ R.slots) :
    vx_Run p l e R s m args below meth c H locs cells slots mc ms g rest (Qc (Value.ref b :: As).toArray) XC free := by
  have hK : vx_Back l R p e below s args y 3 8 (PreOf R mc ms Pc) (PostOf Qc mc ms free) (vx_Post XC mc ms free) := vx_callBack cw.1 hM hp.1
  obtain ⟨⟨-, -, -, -, -, -, hcode, -, hy, hlen, hl⟩, hin, hse⟩ := cw
  obtain ⟨hx, hb, hml, ho, -⟩ := S
  obtain ⟨-, ⟨cellB, hcB, hoB, hclB⟩, hPc⟩ := hp
  intro T hT X
  rcases vx_callV X hx (C := C) (bytes := bytes) (maxL := maxL) (ret := ret) ho hl hin hse hcode hy hK (by rw [hT]; exact hcB) hoB hclB hg (hsize.trans hml.symm) (argsL := As) (rest := rest) (fun sig h => hn.trans (hlen sig h)) hstack hW (by rw [hb]; exact hdg)
    (fun vm₁ hW₁ => ⟨hf.1, hf.2, hPc (T.setVm vm₁) hT hW₁⟩) with ⟨v, vm₁, ⟨U', l2, c2, s2⟩, hW₁, X', ⟨g', mk, t, L, e1, e2, hq, h1, hL, h2, h3⟩, st⟩ | ⟨q, vm₁, ⟨U', l2, c2, s2⟩, hW₁, X', ⟨g', mk, t, L, E, ce, e1, e2, hq, hce, hcv, hcl, h1, hL, h2, h3⟩, st⟩
  · dsimp only [Pt.U, Pt.locs, Pt.cells, Pt.slots] at X' e1 e2 h1 h2 h3 st
    subst h1; subst h2; subst h3
    exact Or.inl ⟨v, (T.setVm vm₁).calling g' mk (Value.ref b :: As).toArray, t, U', L, hT, X', hL, e1, e2, hq, st⟩
  · dsimp only [Pt.U, Pt.locs, Pt.cells, Pt.slots] at X' e1 e2 h1 h2 h3 st hcl
    subst h1; subst h2; subst h3
    exact Or.inr ⟨q, (T.setVm vm₁).calling g' mk (Value.ref b :: As).toArray, t, U', L, E, ce, hT, X', hL, e1, e2, hq, hce, hcv, vx_cls hW₁ hcl, st⟩
theorem vx_runS (S : CallFix p m c cc nL s args Ts own) (hM : vx_Met l y ws rm Pc Qc XC mc ms free) (cw : CallB R s args own index y bytes maxL ret ws rm mc ms n ∧ (Cond.static y).before args s = true) (hp : PreS s H Pc As)
    (hg : g.method = m) (hn : As.length = n) (hsize : g.locals.size = nL) (hstack : g.stack = As.reverse ++ rest) (hW : 2 * g.monitorRoom + (rest.map fun v => v.category).sum ≤ 8) (hdg : decode cc g.pc = .ok (.invokestatic index, 3)) (hf : cells + mc ≤ R.cells ∧ slots + ms ≤ R.slots) :
    vx_Run p l e R s m args below meth c H locs cells slots mc ms g rest (Qc As.toArray) XC free := by
  have hK : vx_Back l R p e below s args y 3 8 (PreOf R mc ms Pc) (PostOf Qc mc ms free) (vx_Post XC mc ms free) := vx_callBack cw.1 hM hp.1
  obtain ⟨⟨-, -, -, -, -, -, hcode, hini, hy, hlen, hl⟩, hstt⟩ := cw
  obtain ⟨hx, hb, hml, ho, -⟩ := S
  intro T hT X
  rcases vx_callS X hx (bytes := bytes) (maxL := maxL) (ret := ret) ho hl hstt hini hcode hy hK hg (hsize.trans hml.symm) (argsL := As) (rest := rest) (fun sig h => hn.trans (hlen sig h)) hstack hW (by rw [hb]; exact hdg)
    (fun vm₁ hW₁ => ⟨hf.1, hf.2, hp.2 (T.setVm vm₁) hT hW₁⟩) with ⟨v, vm₁, ⟨U', l2, c2, s2⟩, hW₁, X', ⟨g', mk, t, L, e1, e2, hq, h1, hL, h2, h3⟩, st⟩ | ⟨q, vm₁, ⟨U', l2, c2, s2⟩, hW₁, X', ⟨g', mk, t, L, E, ce, e1, e2, hq, hce, hcv, hcl, h1, hL, h2, h3⟩, st⟩
  · dsimp only [Pt.U, Pt.locs, Pt.cells, Pt.slots] at X' e1 e2 h1 h2 h3 st
    subst h1; subst h2; subst h3
    exact Or.inl ⟨v, (T.setVm vm₁).calling g' mk As.toArray, t, U', L, hT, X', hL, e1, e2, hq, st⟩
  · dsimp only [Pt.U, Pt.locs, Pt.cells, Pt.slots] at X' e1 e2 h1 h2 h3 st hcl
    subst h1; subst h2; subst h3
    exact Or.inr ⟨q, (T.setVm vm₁).calling g' mk As.toArray, t, U', L, E, ce, hT, X', hL, e1, e2, hq, hce, hcv, vx_cls hW₁ hcl, st⟩
end Runs
section Rows
variable {p : Program} {l : Launch} {e : Env} {R : Room} {s : State} {m : MethodId} {args : Array Value} {below : List Frame} {meth : Method} {c : Code} {H : Heap} {locs : List Loc} {cells slots : Nat} {Q : State → Prop}
variable {mc ms : Nat} {free : Addr → Prop} {A0 A1 : Nat → Prop} {H0 : Heap} {a : Array Value} {pc : Nat} {ls : Array Slot} {st0 rest : List Value}
theorem vx_keep {st₀ t T' : State} {L : List Loc} (h0 : st₀.heap = H) (e1 : T'.heap = t.heap) (hS : va_S A0 H0 H locs) (hA : ∀ q, q < H.size → A1 q → A0 q) (hf : ∀ q, free q → A0 q) (hL : ∀ q ∈ L, free q.base) (hF : va_F A1 st₀ t) :
    H.size ≤ T'.heap.size ∧ (∀ q : Nat, q < H.size → ¬ A1 q → T'.heap[q]? = H[q]?) ∧ va_S A0 H0 T'.heap (locs ++ L) := by
  obtain ⟨hz, hk⟩ := hF
  rw [h0] at hz hk
  exact ⟨by rw [e1]; exact hz, fun q h1 h2 => by rw [e1]; exact hk q h1 h2,
    ⟨Nat.le_trans hS.1 (by rw [e1]; exact hz), fun q h1 h2 => by rw [e1, hk q (Nat.lt_of_lt_of_le h1 hS.1) (fun z => h2 (hA q (Nat.lt_of_lt_of_le h1 hS.1) z))]; exact hS.2.1 q h1 h2, fun q hq => by
      rcases List.mem_append.mp hq with h | h
      · exact hS.2.2 q h
      · exact hf _ (hL q h)⟩⟩
theorem vx_calli {S SX : Type} {post : Int32 → S → Prop} {px : SX → Prop} {B : S → State → Prop} {BX : String → SX → State → Prop} {AX : Nat → Prop} (hr : vx_Run p l e R s m args below meth c H locs cells slots mc ms (F0 m pc ls st0) rest (va_Qi post B A1 a) (vx_X px BX AX) free) (hS : va_S A0 H0 H locs) (hA : ∀ q, q < H.size → A1 q → A0 q) (hf : ∀ q, free q → A0 q) (hAX : ∀ q, q < H.size → AX q → A0 q)
    (kx : ∀ (E : String) (ce : Cell) (q9 : Addr) (u : SX) (t : State) (H1 : Heap) (locs1 : List Loc), t.heap = H1 → s.vm.Alike t.vm → px u → BX E u t → H.size ≤ H1.size → (∀ q : Nat, q < H.size → ¬ AX q → H1[q]? = H[q]?) → va_S A0 H0 H1 locs1 → H1[q9]? = some ce → ce.vm = .none → s.vm.findClass E = some ce.cls → vx_W p l e R s m args below meth c H1 locs1 (cells + mc) (slots + ms) Q (F0 m pc ls rest) q9)
    (kk : ∀ (r : Int32) (u : S) (t : State) (H1 : Heap) (locs1 : List Loc), t.heap = H1 → s.vm.Alike t.vm → post r u → B u t → H.size ≤ H1.size → (∀ q : Nat, q < H.size → ¬ A1 q → H1[q]? = H[q]?) → va_S A0 H0 H1 locs1 → W p l e R s m args below meth c H1 locs1 (cells + mc) (slots + ms) Q (F0 m (pc + 3) ls (.int r :: rest))) : W p l e R s m args below meth c H locs cells slots Q (F0 m pc ls st0) := by
  intro T hT X
  rcases hr T hT X with ⟨v, st₀, t, T', L, h0, X', hL, e1, e2, ⟨⟨r, u, hv, hp, hb⟩, hF⟩, st⟩ | ⟨q, st₀, t, T', L, E, ce, h0, X', hL, e1, e2, ⟨u, hp, hb, hF⟩, hce, hcv, hcl, st⟩
  · cases hv
    obtain ⟨k1, k2, k3⟩ := vx_keep h0 e1 hS hA hf hL hF
    obtain ⟨t2, a1, b1⟩ := kk r u t T'.heap (locs ++ L) e1.symm (by rw [← e2]; exact X'.warmed.alike) hp hb k1 k2 k3 T' rfl X'
    exact ⟨t2, st t2 a1, b1⟩
  · obtain ⟨k1, k2, k3⟩ := vx_keep h0 e1 hS hAX hf hL hF
    obtain ⟨t2, a1, b1⟩ := kx E ce q u t T'.heap (locs ++ L) e1.symm (by rw [← e2]; exact X'.warmed.alike) hp hb k1 k2 k3 (by rw [e1]; exact hce) hcv hcl T' rfl X'
    exact ⟨t2, st.trans a1, b1⟩
theorem vx_calll {S SX : Type} {post : Int64 → S → Prop} {px : SX → Prop} {B : S → State → Prop} {BX : String → SX → State → Prop} {AX : Nat → Prop} (hr : vx_Run p l e R s m args below meth c H locs cells slots mc ms (F0 m pc ls st0) rest (va_Ql post B A1 a) (vx_X px BX AX) free) (hS : va_S A0 H0 H locs) (hA : ∀ q, q < H.size → A1 q → A0 q) (hf : ∀ q, free q → A0 q) (hAX : ∀ q, q < H.size → AX q → A0 q)
    (kx : ∀ (E : String) (ce : Cell) (q9 : Addr) (u : SX) (t : State) (H1 : Heap) (locs1 : List Loc), t.heap = H1 → s.vm.Alike t.vm → px u → BX E u t → H.size ≤ H1.size → (∀ q : Nat, q < H.size → ¬ AX q → H1[q]? = H[q]?) → va_S A0 H0 H1 locs1 → H1[q9]? = some ce → ce.vm = .none → s.vm.findClass E = some ce.cls → vx_W p l e R s m args below meth c H1 locs1 (cells + mc) (slots + ms) Q (F0 m pc ls rest) q9)
    (kk : ∀ (r : Int64) (u : S) (t : State) (H1 : Heap) (locs1 : List Loc), t.heap = H1 → s.vm.Alike t.vm → post r u → B u t → H.size ≤ H1.size → (∀ q : Nat, q < H.size → ¬ A1 q → H1[q]? = H[q]?) → va_S A0 H0 H1 locs1 → W p l e R s m args below meth c H1 locs1 (cells + mc) (slots + ms) Q (F0 m (pc + 3) ls (.long r :: rest))) : W p l e R s m args below meth c H locs cells slots Q (F0 m pc ls st0) := by
  intro T hT X
  rcases hr T hT X with ⟨v, st₀, t, T', L, h0, X', hL, e1, e2, ⟨⟨r, u, hv, hp, hb⟩, hF⟩, st⟩ | ⟨q, st₀, t, T', L, E, ce, h0, X', hL, e1, e2, ⟨u, hp, hb, hF⟩, hce, hcv, hcl, st⟩
  · cases hv
    obtain ⟨k1, k2, k3⟩ := vx_keep h0 e1 hS hA hf hL hF
    obtain ⟨t2, a1, b1⟩ := kk r u t T'.heap (locs ++ L) e1.symm (by rw [← e2]; exact X'.warmed.alike) hp hb k1 k2 k3 T' rfl X'
    exact ⟨t2, st t2 a1, b1⟩
  · obtain ⟨k1, k2, k3⟩ := vx_keep h0 e1 hS hAX hf hL hF
    obtain ⟨t2, a1, b1⟩ := kx E ce q u t T'.heap (locs ++ L) e1.symm (by rw [← e2]; exact X'.warmed.alike) hp hb k1 k2 k3 (by rw [e1]; exact hce) hcv hcl T' rfl X'
    exact ⟨t2, st.trans a1, b1⟩
theorem vx_callf {S SX : Type} {post : UInt32 → S → Prop} {px : SX → Prop} {B : S → State → Prop} {BX : String → SX → State → Prop} {AX : Nat → Prop} (hr : vx_Run p l e R s m args below meth c H locs cells slots mc ms (F0 m pc ls st0) rest (va_Qf post B A1 a) (vx_X px BX AX) free) (hS : va_S A0 H0 H locs) (hA : ∀ q, q < H.size → A1 q → A0 q) (hf : ∀ q, free q → A0 q) (hAX : ∀ q, q < H.size → AX q → A0 q)
    (kx : ∀ (E : String) (ce : Cell) (q9 : Addr) (u : SX) (t : State) (H1 : Heap) (locs1 : List Loc), t.heap = H1 → s.vm.Alike t.vm → px u → BX E u t → H.size ≤ H1.size → (∀ q : Nat, q < H.size → ¬ AX q → H1[q]? = H[q]?) → va_S A0 H0 H1 locs1 → H1[q9]? = some ce → ce.vm = .none → s.vm.findClass E = some ce.cls → vx_W p l e R s m args below meth c H1 locs1 (cells + mc) (slots + ms) Q (F0 m pc ls rest) q9)
    (kk : ∀ (r : UInt32) (u : S) (t : State) (H1 : Heap) (locs1 : List Loc), t.heap = H1 → s.vm.Alike t.vm → post r u → B u t → H.size ≤ H1.size → (∀ q : Nat, q < H.size → ¬ A1 q → H1[q]? = H[q]?) → va_S A0 H0 H1 locs1 → W p l e R s m args below meth c H1 locs1 (cells + mc) (slots + ms) Q (F0 m (pc + 3) ls (.float r :: rest))) : W p l e R s m args below meth c H locs cells slots Q (F0 m pc ls st0) := by
  intro T hT X
  rcases hr T hT X with ⟨v, st₀, t, T', L, h0, X', hL, e1, e2, ⟨⟨r, u, hv, hp, hb⟩, hF⟩, st⟩ | ⟨q, st₀, t, T', L, E, ce, h0, X', hL, e1, e2, ⟨u, hp, hb, hF⟩, hce, hcv, hcl, st⟩
  · cases hv
    obtain ⟨k1, k2, k3⟩ := vx_keep h0 e1 hS hA hf hL hF
    obtain ⟨t2, a1, b1⟩ := kk r u t T'.heap (locs ++ L) e1.symm (by rw [← e2]; exact X'.warmed.alike) hp hb k1 k2 k3 T' rfl X'
    exact ⟨t2, st t2 a1, b1⟩
  · obtain ⟨k1, k2, k3⟩ := vx_keep h0 e1 hS hAX hf hL hF
    obtain ⟨t2, a1, b1⟩ := kx E ce q u t T'.heap (locs ++ L) e1.symm (by rw [← e2]; exact X'.warmed.alike) hp hb k1 k2 k3 (by rw [e1]; exact hce) hcv hcl T' rfl X'
    exact ⟨t2, st.trans a1, b1⟩
theorem vx_calld {S SX : Type} {post : UInt64 → S → Prop} {px : SX → Prop} {B : S → State → Prop} {BX : String → SX → State → Prop} {AX : Nat → Prop} (hr : vx_Run p l e R s m args below meth c H locs cells slots mc ms (F0 m pc ls st0) rest (va_Qd post B A1 a) (vx_X px BX AX) free) (hS : va_S A0 H0 H locs) (hA : ∀ q, q < H.size → A1 q → A0 q) (hf : ∀ q, free q → A0 q) (hAX : ∀ q, q < H.size → AX q → A0 q)
    (kx : ∀ (E : String) (ce : Cell) (q9 : Addr) (u : SX) (t : State) (H1 : Heap) (locs1 : List Loc), t.heap = H1 → s.vm.Alike t.vm → px u → BX E u t → H.size ≤ H1.size → (∀ q : Nat, q < H.size → ¬ AX q → H1[q]? = H[q]?) → va_S A0 H0 H1 locs1 → H1[q9]? = some ce → ce.vm = .none → s.vm.findClass E = some ce.cls → vx_W p l e R s m args below meth c H1 locs1 (cells + mc) (slots + ms) Q (F0 m pc ls rest) q9)
    (kk : ∀ (r : UInt64) (u : S) (t : State) (H1 : Heap) (locs1 : List Loc), t.heap = H1 → s.vm.Alike t.vm → post r u → B u t → H.size ≤ H1.size → (∀ q : Nat, q < H.size → ¬ A1 q → H1[q]? = H[q]?) → va_S A0 H0 H1 locs1 → W p l e R s m args below meth c H1 locs1 (cells + mc) (slots + ms) Q (F0 m (pc + 3) ls (.double r :: rest))) : W p l e R s m args below meth c H locs cells slots Q (F0 m pc ls st0) := by
  intro T hT X
  rcases hr T hT X with ⟨v, st₀, t, T', L, h0, X', hL, e1, e2, ⟨⟨r, u, hv, hp, hb⟩, hF⟩, st⟩ | ⟨q, st₀, t, T', L, E, ce, h0, X', hL, e1, e2, ⟨u, hp, hb, hF⟩, hce, hcv, hcl, st⟩
  · cases hv
    obtain ⟨k1, k2, k3⟩ := vx_keep h0 e1 hS hA hf hL hF
    obtain ⟨t2, a1, b1⟩ := kk r u t T'.heap (locs ++ L) e1.symm (by rw [← e2]; exact X'.warmed.alike) hp hb k1 k2 k3 T' rfl X'
    exact ⟨t2, st t2 a1, b1⟩
  · obtain ⟨k1, k2, k3⟩ := vx_keep h0 e1 hS hAX hf hL hF
    obtain ⟨t2, a1, b1⟩ := kx E ce q u t T'.heap (locs ++ L) e1.symm (by rw [← e2]; exact X'.warmed.alike) hp hb k1 k2 k3 (by rw [e1]; exact hce) hcv hcl T' rfl X'
    exact ⟨t2, st.trans a1, b1⟩
theorem vx_callv {S SX : Type} {post : S → Prop} {px : SX → Prop} {B : S → State → Prop} {BX : String → SX → State → Prop} {AX : Nat → Prop} (hr : vx_Run p l e R s m args below meth c H locs cells slots mc ms (F0 m pc ls st0) rest (va_Qv post B A1 a) (vx_X px BX AX) free) (hS : va_S A0 H0 H locs) (hA : ∀ q, q < H.size → A1 q → A0 q) (hf : ∀ q, free q → A0 q) (hAX : ∀ q, q < H.size → AX q → A0 q)
    (kx : ∀ (E : String) (ce : Cell) (q9 : Addr) (u : SX) (t : State) (H1 : Heap) (locs1 : List Loc), t.heap = H1 → s.vm.Alike t.vm → px u → BX E u t → H.size ≤ H1.size → (∀ q : Nat, q < H.size → ¬ AX q → H1[q]? = H[q]?) → va_S A0 H0 H1 locs1 → H1[q9]? = some ce → ce.vm = .none → s.vm.findClass E = some ce.cls → vx_W p l e R s m args below meth c H1 locs1 (cells + mc) (slots + ms) Q (F0 m pc ls rest) q9)
    (kk : ∀ (u : S) (t : State) (H1 : Heap) (locs1 : List Loc), t.heap = H1 → s.vm.Alike t.vm → post u → B u t → H.size ≤ H1.size → (∀ q : Nat, q < H.size → ¬ A1 q → H1[q]? = H[q]?) → va_S A0 H0 H1 locs1 → W p l e R s m args below meth c H1 locs1 (cells + mc) (slots + ms) Q (F0 m (pc + 3) ls (rest))) : W p l e R s m args below meth c H locs cells slots Q (F0 m pc ls st0) := by
  intro T hT X
  rcases hr T hT X with ⟨v, st₀, t, T', L, h0, X', hL, e1, e2, ⟨⟨u, hv, hp, hb⟩, hF⟩, st⟩ | ⟨q, st₀, t, T', L, E, ce, h0, X', hL, e1, e2, ⟨u, hp, hb, hF⟩, hce, hcv, hcl, st⟩
  · cases hv
    obtain ⟨k1, k2, k3⟩ := vx_keep h0 e1 hS hA hf hL hF
    obtain ⟨t2, a1, b1⟩ := kk u t T'.heap (locs ++ L) e1.symm (by rw [← e2]; exact X'.warmed.alike) hp hb k1 k2 k3 T' rfl X'
    exact ⟨t2, st t2 a1, b1⟩
  · obtain ⟨k1, k2, k3⟩ := vx_keep h0 e1 hS hAX hf hL hF
    obtain ⟨t2, a1, b1⟩ := kx E ce q u t T'.heap (locs ++ L) e1.symm (by rw [← e2]; exact X'.warmed.alike) hp hb k1 k2 k3 (by rw [e1]; exact hce) hcv hcl T' rfl X'
    exact ⟨t2, st.trans a1, b1⟩
/-- caught by the row x of this method's table; the rows ahead don't take it -/
theorem vx_catch {own name : String} {E : String} {ce : Cell} {q : Addr} (hown : s.vm.findClass own = some m.cls) (pre : List ExceptionTableEntry) (x : ExceptionTableEntry) (suf : List ExceptionTableEntry) (hsplit : c.exceptionTable.toList = pre ++ x :: suf)
    (hpass : ∀ z ∈ pre, covers z pc = false ∨ (z.catchType ≠ 0 ∧ ∃ nm : String, (Cond.classLink own z.catchType nm).before args s = true ∧ va_Nc E nm s)) (hx : covers x pc = true) (h0 : x.catchType ≠ 0)
    (hlink : (Cond.classLink own x.catchType name).before args s = true) (hcast : (Cond.castable E name).before args s = true) (hcell : H[q]? = some ce) (hv : ce.vm = .none) (hcl : s.vm.findClass E = some ce.cls)
    (kk : W p l e R s m args below meth c H locs cells slots Q (F0 m x.handlerPc ls [.ref q])) : vx_W p l e R s m args below meth c H locs cells slots Q (F0 m pc ls rest) q := by
  intro T hT X
  have hpl : e.platform.magicAccessors = ({} : Platform).magicAccessors := by rw [X.admits.platform]
  obtain ⟨c3, c4, hc3, hc4, hasg⟩ := Cond.castable_spec hcast
  cases Option.some.inj (hc3.symm.trans hcl)
  obtain ⟨c5, hc5, hcl5⟩ := Cond.classLink_spec hown hlink e.platform hpl
  cases Option.some.inj (hc4.symm.trans hc5)
  obtain ⟨vm', X', st⟩ := mw_caught X q (g := F0 m pc ls rest) rfl (by rw [hT]; exact hcell) (by rw [hv]; rfl) (by obtain ⟨k9, h9, -⟩ := Vm.findClass_spec hcl; exact ⟨k9, h9⟩) pre x suf hsplit
    (fun z hz => by
      rcases hpass z hz with h | ⟨hz0, nm, hl1, hn1⟩
      · exact Or.inl h
      · obtain ⟨c6, hc6, hcl6⟩ := Cond.classLink_spec hown hl1 e.platform hpl
        obtain ⟨a8, b8, h1, h2, h3⟩ := hn1
        cases Option.some.inj (h1.symm.trans hcl)
        cases Option.some.inj (h2.symm.trans hc6)
        exact Or.inr ⟨hz0, _, hcl6, h3⟩) hx h0 hcl5 hasg
  obtain ⟨t, a1, b1⟩ := kk (T.setVm vm') hT X'
  exact ⟨t, st.trans a1, b1⟩
end Rows
section Ends
variable {p : Program} {l : Launch} {e : Env} {R : Room} {s : State} {m : MethodId} {args : Array Value} {below : List Frame} {meth : Method} {c : Code} {H : Heap} {locs : List Loc} {cells slots : Nat} {Q : State → Prop}
variable {mc ms : Nat} {free : Addr → Prop} {A0 A1 : Nat → Prop} {H0 : Heap} {a : Array Value} {ls : Array Slot} {st0 rest : List Value}
variable {Qc : Array Value → State → Outcome → State → Prop} {XC : String → State → State → Prop}
/-- what a body that may throw owes at its end -/
def vx_MQ (below : List Frame) (Qc : Array Value → State → Outcome → State → Prop) (XC : String → State → State → Prop) (a : Array Value) (s : State) (mc ms : Nat) (free : Addr → Prop) : State → Prop := fun t =>
  ∃ o, t.status = .running ∧ Ended t below o ∧ vx_Q Qc XC mc ms free a s o t
theorem vx_ret {g : JFrame} {mc ms : Nat} (k : W p l e R s m args below meth c H locs cells slots (MQ below Qc args s mc ms free) g) : W p l e R s m args below meth c H locs cells slots (vx_MQ below Qc XC args s mc ms free) g := by
  intro T hT X
  obtain ⟨t, a1, o, b1, b2, b3, b4⟩ := k T hT X
  exact ⟨t, a1, o, b1, b2, Or.inl ⟨b3, b4⟩⟩
/-- not caught here: it goes on to the caller -/
theorem vx_widen {g : JFrame} {q : Addr} {k n : Nat} (h1 : cells ≤ k) (h2 : slots ≤ n) (kk : vx_W p l e R s m args below meth c H locs k n Q g q) : vx_W p l e R s m args below meth c H locs cells slots Q g q := fun T hT X => kk T hT (stand_widen X h1 h2)
theorem vx_out {pc : Nat} {E : String} {ce : Cell} {q : Addr} {mc ms : Nat} (hout : ∀ x ∈ c.exceptionTable.toList, covers x pc = false) (hlocks : meth.locks = false) (hcell : H[q]? = some ce) (hv : ce.vm = .none) (hcl : s.vm.findClass E = some ce.cls)
    (hx : ∀ t : State, t.heap = H → s.vm.Alike t.vm → XC E s t) (hf : ∀ z ∈ locs, free z.base) (hc : cells ≤ mc) (hs : slots ≤ ms) :
    vx_W p l e R s m args below meth c H locs cells slots (vx_MQ below Qc XC args s mc ms free) (F0 m pc ls rest) q := by
  intro T hT X
  obtain ⟨st1, hrun, hend, hW, hsm⟩ := X.leaveThrown q (g := F0 m pc ls rest) rfl rfl rfl hout hlocks
  have hcell9 : (T.setFrames (.throwing q :: below)).heap[q]? = some ce := by
    show T.heap[q]? = some ce
    rw [hT]; exact hcell
  exact ⟨_, st1, .threw q, hrun, hend, Or.inr ⟨q, rfl, E, ce, locs, hx _ hT hW.alike, hcell9, hv, hcl, hW, hsm.mono hc hs, hf⟩⟩
theorem vx_frame {U : State} {k n : Nat} (h : s.sameButNew ({ U with vm := s.vm } : State) locs k n) : s.heap.size ≤ U.heap.size ∧ ∀ q : Nat, q < s.heap.size → (∀ z ∈ locs, z.base ≠ q) → U.heap[q]? = s.heap[q]? := by
  obtain ⟨-, h2, -, -, -, h6⟩ := h
  refine ⟨h2, fun q hq hz => ?_⟩
  obtain ⟨c9, e1, e2, e3, e4⟩ := h6 q _ (Array.getElem?_eq_getElem hq)
  have hs : c9.slots = (s.heap[q]).slots := Array.ext_getElem? fun i => e4 i fun hm => hz _ hm rfl
  have h9 : c9 = s.heap[q] := by
    rw [hs] at e2
    exact e2
  have e5 : U.heap[q]? = some c9 := e1
  rw [e5, h9, Array.getElem?_eq_getElem hq]
/-- the words of a throw but the four that speak of the heap -/
def vx_no (w : Cond) : Bool := decide (w ≠ .isRef (.static Bundle.tN "UNASSIGNED_STACK" Bundle.steD)) && decide (w ≠ .isRef (.static Bundle.tN "SUPPRESSED_SENTINEL" Bundle.listD)) && decide (w ≠ .laysStatic Bundle.tN "UNASSIGNED_STACK" Bundle.steD) && decide (w ≠ .laysStatic Bundle.tN "SUPPRESSED_SENTINEL" Bundle.listD)
def vx_at0 (own : String) (ic : Nat) (X : String) (names : List String) : List Cond := (Bundle.ownAtoms0 own ic X names).filter vx_no
def vx_atS (own : String) (ic : Nat) (X : String) (names : List String) : List Cond := (Bundle.ownAtoms own ic X names).filter vx_no
/-- a word that the tables alone decide, or a good one -/
def vx_ot (w : Cond) : Bool := w.onTables || goodWord w
theorem vx_ot_at {args a' : Array Value} {s U : State} {w : Cond} (hW : s.WarmedH U.vm) (hvm : s.vm = U.vm) (hg : vx_ot w = true) (h : w.before args s = true) : w.before a' U = true := by
  simp only [vx_ot, Bool.or_eq_true] at hg
  rcases hg with hg | hg
  · exact va_tabs hg hvm h
  · exact word_at hW (good_of_word hg) h
/-- a list's words: the good ones out of the method's own list, the others by premises of their own -/
theorem vx_hat {args : Array Value} {s : State} {L B : List Cond} (h1 : ∀ w ∈ L.filter goodWord, w.before args s = true) (h2 : ∀ w ∈ L.filter (fun w => !goodWord w), w ∈ B) (h3 : ∀ w ∈ B, w.before args s = true) : ∀ w ∈ L, w.before args s = true := by
  intro w hw
  by_cases g : goodWord w = true
  · exact h1 w (List.mem_filter.mpr ⟨hw, g⟩)
  · refine h3 w (h2 w (List.mem_filter.mpr ⟨hw, ?_⟩))
    show (!goodWord w) = true
    cases hgw : goodWord w
    · rfl
    · exact absurd hgw g
theorem vx_c {args : Array Value} {s : State} {w : Cond} {B : List Cond} (h : w.before args s = true) (t : ∀ w ∈ B, w.before args s = true) : ∀ w' ∈ w :: B, w'.before args s = true := fun w' h' => (List.mem_cons.mp h').elim (fun e => by rw [e]; exact h) (t w')
theorem vx_n {args : Array Value} {s : State} : ∀ w ∈ ([] : List Cond), w.before args s = true := fun _ h => nomatch h
theorem vx_own {args : Array Value} {s : State} {L : List Cond} (h1 : ∀ w ∈ L.filter vx_no, w.before args s = true)
    (hU : (Cond.isRef (.static Bundle.tN "UNASSIGNED_STACK" Bundle.steD)).before args s = true) (hN : (Cond.isRef (.static Bundle.tN "SUPPRESSED_SENTINEL" Bundle.listD)).before args s = true)
    (lU : (Cond.laysStatic Bundle.tN "UNASSIGNED_STACK" Bundle.steD).before args s = true) (lN : (Cond.laysStatic Bundle.tN "SUPPRESSED_SENTINEL" Bundle.listD).before args s = true) : ∀ w ∈ L, w.before args s = true := by
  intro w hw
  by_cases e1 : w = .isRef (.static Bundle.tN "UNASSIGNED_STACK" Bundle.steD)
  · rw [e1]; exact hU
  · by_cases e2 : w = .isRef (.static Bundle.tN "SUPPRESSED_SENTINEL" Bundle.listD)
    · rw [e2]; exact hN
    · by_cases e3 : w = .laysStatic Bundle.tN "UNASSIGNED_STACK" Bundle.steD
      · rw [e3]; exact lU
      · by_cases e4 : w = .laysStatic Bundle.tN "SUPPRESSED_SENTINEL" Bundle.listD
        · rw [e4]; exact lN
        · exact h1 w (List.mem_filter.mpr ⟨hw, by unfold vx_no; rw [decide_eq_true e1, decide_eq_true e2, decide_eq_true e3, decide_eq_true e4]; rfl⟩)
/-- where a static field lies, its class's statics cell in H -/
def vx_L (C n d : String) (A : Nat → Prop) (U : State) (H : Heap) : Prop := ∃ (c : ClassId) (k : Class) (i : Nat) (f : Field) (a : Nat) (cell : Cell), U.vm.findClass C = some c ∧ U.fieldFound? C n d = some (c, k, i, f) ∧ f.isStatic = true ∧ k.statics = some a ∧ H[a]? = some cell ∧ cell.vm.isStatics = true ∧ cell.cls = c ∧ f.slot < cell.slots.size ∧ k.staticTypes[f.slot]? = some f.type ∧ ¬ A a
theorem vx_L.moved {C n d : String} {A : Nat → Prop} {u U : State} {H : Heap} (hvm : u.vm.Alike U.vm) (h : vx_L C n d A u H) : vx_L C n d A U H := by
  obtain ⟨c, k, i, f, a, cell, h1, h2, h3, h4, h5, h6, h7, h8, h9, h10⟩ := h
  obtain ⟨k', hi', he⟩ := State.fieldFound?_setVm hvm h2
  exact ⟨c, k', i, f, a, cell, by rw [hvm.findClass]; exact h1, hi', h3, by rw [he]; exact h4, h5, h6, h7, h8, by rw [he]; exact h9, h10⟩
theorem vx_L.kept {C n d : String} {A : Nat → Prop} {U : State} {H H1 : Heap} (h : vx_L C n d A U H) (hq : ∀ a : Nat, a < H.size → ¬ A a → H1[a]? = H[a]?) : vx_L C n d A U H1 := by
  obtain ⟨c, k, i, f, a, cell, h1, h2, h3, h4, h5, h6, h7, h8, h9, h10⟩ := h
  exact ⟨c, k, i, f, a, cell, h1, h2, h3, h4, by rw [hq a (Array.getElem?_eq_some_iff.mp h5).1 h10]; exact h5, h6, h7, h8, h9, h10⟩
theorem vx_L.narrow {C n d : String} {A B : Nat → Prop} {U : State} {H : Heap} (h : vx_L C n d A U H) (hAB : ∀ q, B q → A q) : vx_L C n d B U H := by
  obtain ⟨c, k, i, f, a, cell, h1, h2, h3, h4, h5, h6, h7, h8, h9, h10⟩ := h
  exact ⟨c, k, i, f, a, cell, h1, h2, h3, h4, h5, h6, h7, h8, h9, fun z => h10 (hAB _ z)⟩
theorem vx_L.word {C n d : String} {A : Nat → Prop} {s : State} {args : Array Value} (h : vx_L C n d A s s.heap) : (Cond.laysStatic C n d).before args s = true := by
  obtain ⟨c, k, i, f, a, cell, h1, h2, h3, h4, h5, h6, h7, h8, h9, -⟩ := h
  show (Cond.laysStatic C n d).holds args s none s [] = true
  exact Cond.laysStatic_of h1 h2 h3 h4 h5 h6 h7 h8 h9
/-- .. and what it holds: null or some reference -/
def vx_Zq (C n d : String) (A : Nat → Prop) (U : State) (H : Heap) : Prop := va_Zq C n d A U H ∧ vx_L C n d A U H
theorem vx_Zq.moved {C n d : String} {A : Nat → Prop} {u U : State} {H : Heap} (hvm : u.vm.Alike U.vm) (h : vx_Zq C n d A u H) : vx_Zq C n d A U H := ⟨va_Zq.moved hvm h.1, vx_L.moved hvm h.2⟩
theorem vx_Zq.kept {C n d : String} {A : Nat → Prop} {U : State} {H H1 : Heap} (h : vx_Zq C n d A U H) (hq : ∀ a : Nat, a < H.size → ¬ A a → H1[a]? = H[a]?) : vx_Zq C n d A U H1 := ⟨va_Zq.kept h.1 hq, vx_L.kept h.2 hq⟩
theorem vx_Zq.narrow {C n d : String} {A B : Nat → Prop} {U : State} {H : Heap} (h : vx_Zq C n d A U H) (hAB : ∀ q, B q → A q) : vx_Zq C n d B U H := ⟨va_Zq.narrow h.1 hAB, vx_L.narrow h.2 hAB⟩
theorem vx_Zqof {args : Array Value} {s : State} {C n d : String} {A : Nat → Prop} (hl : (Cond.laysStatic C n d).before args s = true) (hini : (Cond.initialized C).before args s = true) (h : (Cond.isRef (.static C n d)).before args s = true) (hA : ∀ a : Nat, a < s.heap.size → ¬ A a) : vx_Zq C n d A s s.heap := by
  refine ⟨va_Zqof hl hini h hA, ?_⟩
  obtain ⟨c, k, i, f, a, cell, h1, h2, h3, h4, h5, h6, h7, h8, h9⟩ := Cond.laysStatic_spec hl
  exact ⟨c, k, i, f, a, cell, h1, h2, h3, h4, h5, h6, h7, h8, h9, hA a (Array.getElem?_eq_some_iff.mp h5).1⟩
theorem vx_isRef {C n d : String} {v : Value} {A : Nat → Prop} {s : State} {args : Array Value} (h : va_Z C n d v A s s.heap) (hv : v.isRef = true) : (Cond.isRef (.static C n d)).before args s = true := by
  obtain ⟨cf, kf, fi, f, a, cell, h1, h2, h3, h4, h5, h6, h7, -⟩ := h
  have he : (Term.static C n d).eval args s none [] s = some v := by
    simp [Term.eval, State.fieldNamed?, h1, h2, h4, h5, h6, h7]
  simp only [Cond.before, Cond.holds, Cond.value, he]
  cases v <;> simp_all [Value.isRef]
theorem vx_isRefq {C n d : String} {A : Nat → Prop} {s : State} {args : Array Value} (h : va_Zq C n d A s s.heap) : (Cond.isRef (.static C n d)).before args s = true := by
  rcases h with h | ⟨t, h⟩
  · exact vx_isRef h rfl
  · exact vx_isRef h rfl
/-- the same frame, seen from here: as if the method were called anew in this heap -/
theorem vx_rebase {T : State} (X : Stand p l e R s m args below meth c T locs cells slots) {R' : Room} (hf : R'.frames ≤ R.frames) (hl : R'.locals ≤ R.locals) (hc : cells + R'.cells ≤ R.cells) (hs : slots + R'.slots ≤ R.slots) :
    Stand p l e R' ((T.setVm s.vm).setFrames (.invoking m args :: below)) m args below meth c T [] 0 0 := by
  have htop : (T.setVm s.vm).topJava?.isSome := X.here.top
  have hF : ((T.setVm s.vm).setFrames (.invoking m args :: below)).frames = .invoking m args :: below := State.frames_setFrames _ (State.cur_lt_of_top htop)
  obtain ⟨g₀, hg0⟩ := Option.isSome_iff_exists.mp htop
  obtain ⟨r, hr⟩ := State.topJava?_eq_some.mp hg0
  have hl9 : e.platform.stackLimits (T.setVm s.vm).me = e.platform.stackLimits s.me := X.limits
  have hb9 : (T.setVm s.vm).me.stackBytes = s.me.stackBytes := X.bytes
  refine ⟨X.admits, X.cas, X.clock, hF, ?_, X.hears, X.method, X.code, X.here, X.tail, X.warmed, ?_, ?_, ?_⟩
  · have h := X.room
    have hU : ((T.setVm s.vm).setFrames (.invoking m args :: below)).localsInUse = s.localsInUse := by
      rw [State.localsInUse_invoking hF (meth := meth) (c := c) X.method X.code, State.localsInUse_invoking X.frames X.method X.code]
    simp only [State.hasRoom, Bool.and_eq_true, decide_eq_true_eq] at h ⊢
    obtain ⟨⟨⟨⟨h1, h2, h3, h4, h5, h6⟩, h7⟩, h8⟩, h9⟩ := h
    rw [X.frames, List.length_cons] at h2 h3
    have q1 := X.heapSize
    have q2 := X.used
    simp only [hF, hU, List.length_cons, State.stackLimits_setFrames, State.stackBytes_setFrames, hl9, hb9]
    refine ⟨⟨⟨⟨by omega, by omega, by omega, by omega, by omega, h6⟩, ?_⟩, ?_⟩, X.book⟩
    · show T.heap.size + R'.cells ≤ e.platform.maxCells
      omega
    · show T.slotsUsed + R'.slots ≤ e.platform.maxSlots
      omega
  · rw [State.stackLimits_setFrames]; rfl
  · rw [State.stackBytes_setFrames]; rfl
  · refine ⟨?_, Nat.le_refl _, Nat.le_refl _, ?_, ?_, fun a c9 h9 => ⟨c9, h9, rfl, rfl, fun _ _ => rfl⟩⟩
    · obtain ⟨t, ht, -⟩ := State.frames_cons hr
      show T.setVm s.vm = { ((T.setVm s.vm).setFrames (.invoking m args :: below)).setFrames (T.setVm s.vm).frames with heap := T.heap, slotsUsed := T.slotsUsed }
      rw [State.setFrames_setFrames, State.setFrames_self ht]
      rfl
    · show T.slotsUsed = T.slotsUsed + ((T.heap.toList.drop T.heap.size).map (·.slots.size)).sum
      rw [List.drop_eq_nil_of_le (Nat.le_of_eq Array.length_toList)]
      rfl
    · show ((T.heap.toList.drop T.heap.size).map (·.slots.size)).sum ≤ 0
      rw [List.drop_eq_nil_of_le (Nat.le_of_eq Array.length_toList)]
      exact Nat.le_refl _
/-- 'throw new E()': new; dup; invokespecial; athrow -/
theorem vx_throw0 {cc : ByteArray} {pc : Nat} (hexec : p.tables.exec = Jvm.exec) (hb : c.code = cc) (hl : l.stackTraces = false) {own cls : String} {names : List String} {ik ic mc ms : Nat} {A : Nat → Prop}
    (hown : s.vm.findClass own = some m.cls) (hcls : Bundle.fit cls = true) (hnames : ∀ n ∈ names, Bundle.fit n = true)
    (hk : (Cond.classLink own ik cls).before args s = true) (hini : (Cond.initialized cls).before args s = true) (hat : ∀ w ∈ vx_at0 own ic cls names, w.before args s = true)
    (hgood : ∀ w ∈ Cond.classLink own ik cls :: Cond.initialized cls :: vx_at0 own ic cls names, vx_ot w = true)
    (hU : vx_Zq Bundle.tN "UNASSIGNED_STACK" Bundle.steD A s s.heap) (hN : vx_Zq Bundle.tN "SUPPRESSED_SENTINEL" Bundle.listD A s s.heap) (hS : va_S A s.heap H locs) (hsize : ls.size = c.maxLocals)
    (d0 : decode cc pc = .ok (.new ik, 3)) (d3 : decode cc (pc + 3) = .ok (.dup, 1)) (d4 : decode cc (pc + 4) = .ok (.invokespecial ic, 3)) (d7 : decode cc (pc + 7) = .ok (.athrow, 1))
    (hout : ∀ x ∈ c.exceptionTable.toList, covers x (pc + 7) = false)
    (hRframes : names.length + 3 < R.frames) (hRlocals : (rest.map fun v => v.category).sum + (13 * (names.length + 1) + 42) ≤ R.locals) (hRcells : cells + 1 ≤ R.cells) (hRslots : slots + 6 ≤ R.slots) (hlocks : meth.locks = false)
    (hx : ∀ t : State, s.vm.Alike t.vm → H.size ≤ t.heap.size → (∀ q : Nat, q < H.size → t.heap[q]? = H[q]?) → XC cls s t)
    (hf : ∀ z ∈ locs, free z.base) (hc : cells + 1 ≤ mc) (hs : slots + 6 ≤ ms) :
    W p l e R s m args below meth c H locs cells slots (vx_MQ below Qc XC args s mc ms free) (F0 m pc ls rest) := by
  intro T hT X
  have htr : e.platform.stackTraces = false := (show e.platform.stackTraces = l.stackTraces by rw [X.admits.platform]).trans hl
  have Y := vx_rebase X (R' := { frames := R.frames, locals := R.locals, cells := 1, slots := 6 }) (Nat.le_refl _) (Nat.le_refl _) hRcells hRslots
  obtain ⟨s', hA⟩ : ∃ z, z = (T.setVm s.vm).setFrames (.invoking m args :: below) := ⟨_, rfl⟩
  rw [← hA] at Y
  have hvm : s'.vm = s.vm := by rw [hA]; rfl
  have hhp : s'.heap = H := by rw [hA]; exact hT
  have hW0 : s.WarmedH s'.vm := by rw [hvm]; exact State.WarmedH.refl s
  have hat' : ∀ w ∈ vx_at0 own ic cls names, w.before args s' = true := fun w hw => vx_ot_at hW0 hvm.symm (hgood w (List.mem_cons_of_mem _ (List.mem_cons_of_mem _ hw))) (hat w hw)
  have hk' : (Cond.classLink own ik cls).before args s' = true := vx_ot_at hW0 hvm.symm (hgood _ List.mem_cons_self) hk
  have hini' : (Cond.initialized cls).before args s' = true := vx_ot_at hW0 hvm.symm (hgood _ (List.mem_cons_of_mem _ List.mem_cons_self)) hini
  have hU' : vx_Zq Bundle.tN "UNASSIGNED_STACK" Bundle.steD A s' s'.heap := by rw [hhp]; exact vx_Zq.moved hW0.alike (hU.kept hS.2.1)
  have hN' : vx_Zq Bundle.tN "SUPPRESSED_SENTINEL" Bundle.listD A s' s'.heap := by rw [hhp]; exact vx_Zq.moved hW0.alike (hN.kept hS.2.1)
  have h : ∀ w ∈ Bundle.ownAtoms0 own ic cls names, w.before args s' = true := vx_own hat' (vx_isRefq hU'.1) (vx_isRefq hN'.1) hU'.2.word hN'.2.word
  have hown' : s'.vm.findClass own = some m.cls := by rw [hvm]; exact hown
  have hins : (Cond.instantiable cls 6).before args s' = true := h _ (by simp [Bundle.ownAtoms0])
  obtain ⟨vm₁, cX, kX, hfX, hkX, -, -, X₁, st1⟩ := Y.newCold hexec (own := own) (C := cls) (index := ik) (n := 6) hown' hk' hins hini'
    (g := F0 m pc ls rest) rfl (by rw [hb]; exact d0) (Nat.le_refl _) (Nat.le_refl _)
  generalize hT1 : (T.setVm vm₁).pushCell { cls := cX, slots := kX.instanceTypes.map defaultValue, vm := .none } = T1 at X₁ st1
  have hcat : (Value.ref T.heap.size).category = 1 := rfl
  have hcellA : T1.heap[T.heap.size]? = some (freshCell cX kX) := by rw [← hT1]; exact State.heap_pushCell_size _ _
  have d3' : decode c.code (pc + 3) = .ok (.dup, 1) := by rw [hb]; exact d3
  obtain ⟨U, hsteps, hrun, hend, hW, hsame, ce, hce, hO⟩ := X₁.ctorThrow0 hexec htr (own := own) (cls := cls) (names := names) (ic := ic) hown' hcls hnames h (fun x hx => nomatch hx) hfX hkX hcellA (by rw [hhp, hT]; exact Nat.le_refl _)
    (g := { method := m, pc := pc + 4, locals := ls, stack := .ref T.heap.size :: .ref T.heap.size :: rest, locked := none }) rfl hsize rfl rfl (rest := rest) rfl
    (by rw [hb]; exact d4) (by rw [hb]; exact d7) hout hRframes (by simp only [List.map_cons, List.sum_cons, hcat]; omega) hlocks
  obtain ⟨f1, f2⟩ := vx_frame hsame
  rw [hhp] at f1 f2
  have hWs : s.WarmedH U.vm := State.WarmedH.trans hW0 hW
  have hcl : s.vm.findClass cls = some ce.cls := by
    have h9 := hO.cls
    rw [hvm] at h9
    exact h9
  have hall : s.sameButNew ({ U with vm := s.vm } : State) locs mc ms := by
    subst hA
    obtain ⟨e1, e2⟩ := hsame
    rw [State.setFrames_setFrames] at e1
    have h2 : (T.setVm s.vm).sameButNew ({ U with vm := s.vm } : State) [] (0 + 1) (0 + 6) := ⟨e1, e2⟩
    have h3 := X.same.trans h2
    rw [List.append_nil] at h3
    exact h3.mono hc hs
  refine ⟨U, ?_, .threw T.heap.size, hrun, hend, Or.inr ⟨T.heap.size, rfl, cls, ce, locs, hx U hWs.alike f1 (fun q hq => f2 q hq (fun z hz => nomatch hz)), hce, hO.vm, hcl, hWs, hall, hf⟩⟩
  refine st1 _ ?_
  show Steps p.tables e below (T1.setTop { method := m, pc := pc + 3, locals := ls, stack := .ref T.heap.size :: rest, locked := none }) _
  jvm_step X₁.here [X₁.here.top, hexec, d3', Value.category]
  exact hsteps
/-- 'throw new E("text")': new; dup; ldc; invokespecial; athrow -/
theorem vx_throwS {cc : ByteArray} {pc : Nat} (hexec : p.tables.exec = Jvm.exec) (hb : c.code = cc) (hl : l.stackTraces = false) {own cls text : String} {names : List String} {ik is ic mc ms sa : Nat} {A : Nat → Prop}
    (hown : s.vm.findClass own = some m.cls) (hcls : Bundle.fit cls = true) (hnames : ∀ n ∈ names, Bundle.fit n = true)
    (hk : (Cond.classLink own ik cls).before args s = true) (hini : (Cond.initialized cls).before args s = true) (hstr : vk_R own is text sa s) (hat : ∀ w ∈ vx_atS own ic cls names, w.before args s = true)
    (hgood : ∀ w ∈ Cond.classLink own ik cls :: Cond.initialized cls :: vx_atS own ic cls names, vx_ot w = true)
    (hU : vx_Zq Bundle.tN "UNASSIGNED_STACK" Bundle.steD A s s.heap) (hN : vx_Zq Bundle.tN "SUPPRESSED_SENTINEL" Bundle.listD A s s.heap) (hS : va_S A s.heap H locs) (hsize : ls.size = c.maxLocals)
    (d0 : decode cc pc = .ok (.new ik, 3)) (d3 : decode cc (pc + 3) = .ok (.dup, 1)) (d4 : decode cc (pc + 4) = .ok (.ldc is, 2)) (d6 : decode cc (pc + 6) = .ok (.invokespecial ic, 3)) (d9 : decode cc (pc + 9) = .ok (.athrow, 1))
    (hout : ∀ x ∈ c.exceptionTable.toList, covers x (pc + 9) = false)
    (hRframes : names.length + 3 < R.frames) (hRlocals : (rest.map fun v => v.category).sum + (13 * (names.length + 1) + 43) ≤ R.locals) (hRcells : cells + 1 ≤ R.cells) (hRslots : slots + 6 ≤ R.slots) (hlocks : meth.locks = false)
    (hx : ∀ t : State, s.vm.Alike t.vm → H.size ≤ t.heap.size → (∀ q : Nat, q < H.size → t.heap[q]? = H[q]?) → XC cls s t)
    (hf : ∀ z ∈ locs, free z.base) (hc : cells + 1 ≤ mc) (hs : slots + 6 ≤ ms) :
    W p l e R s m args below meth c H locs cells slots (vx_MQ below Qc XC args s mc ms free) (F0 m pc ls rest) := by
  intro T hT X
  have htr : e.platform.stackTraces = false := (show e.platform.stackTraces = l.stackTraces by rw [X.admits.platform]).trans hl
  have Y := vx_rebase X (R' := { frames := R.frames, locals := R.locals, cells := 1, slots := 6 }) (Nat.le_refl _) (Nat.le_refl _) hRcells hRslots
  obtain ⟨s', hA⟩ : ∃ z, z = (T.setVm s.vm).setFrames (.invoking m args :: below) := ⟨_, rfl⟩
  rw [← hA] at Y
  have hvm : s'.vm = s.vm := by rw [hA]; rfl
  have hhp : s'.heap = H := by rw [hA]; exact hT
  have hW0 : s.WarmedH s'.vm := by rw [hvm]; exact State.WarmedH.refl s
  have hat' : ∀ w ∈ vx_atS own ic cls names, w.before args s' = true := fun w hw => vx_ot_at hW0 hvm.symm (hgood w (List.mem_cons_of_mem _ (List.mem_cons_of_mem _ hw))) (hat w hw)
  have hk' : (Cond.classLink own ik cls).before args s' = true := vx_ot_at hW0 hvm.symm (hgood _ List.mem_cons_self) hk
  have hini' : (Cond.initialized cls).before args s' = true := vx_ot_at hW0 hvm.symm (hgood _ (List.mem_cons_of_mem _ List.mem_cons_self)) hini
  have hU' : vx_Zq Bundle.tN "UNASSIGNED_STACK" Bundle.steD A s' s'.heap := by rw [hhp]; exact vx_Zq.moved hW0.alike (hU.kept hS.2.1)
  have hN' : vx_Zq Bundle.tN "SUPPRESSED_SENTINEL" Bundle.listD A s' s'.heap := by rw [hhp]; exact vx_Zq.moved hW0.alike (hN.kept hS.2.1)
  have h : ∀ w ∈ Bundle.ownAtoms own ic cls names, w.before args s' = true := vx_own hat' (vx_isRefq hU'.1) (vx_isRefq hN'.1) hU'.2.word hN'.2.word
  have hown' : s'.vm.findClass own = some m.cls := by rw [hvm]; exact hown
  have hins : (Cond.instantiable cls 6).before args s' = true := h _ (by simp [Bundle.ownAtoms])
  obtain ⟨vm₁, cX, kX, hfX, hkX, -, -, X₁, st1⟩ := Y.newCold hexec (own := own) (C := cls) (index := ik) (n := 6) hown' hk' hins hini'
    (g := F0 m pc ls rest) rfl (by rw [hb]; exact d0) (Nat.le_refl _) (Nat.le_refl _)
  generalize hT1 : (T.setVm vm₁).pushCell { cls := cX, slots := kX.instanceTypes.map defaultValue, vm := .none } = T1 at X₁ st1
  have hcat : (Value.ref T.heap.size).category = 1 := rfl
  have hcellA : T1.heap[T.heap.size]? = some (freshCell cX kX) := by rw [← hT1]; exact State.heap_pushCell_size _ _
  have d3' : decode c.code (pc + 3) = .ok (.dup, 1) := by rw [hb]; exact d3
  have d4' : decode c.code (pc + 4) = .ok (.ldc is, 2) := by rw [hb]; exact d4
  have hstr' : vk_R own is text sa s' := vk_R.warm hW0 hstr
  obtain ⟨U, hsteps, hrun, hend, hW, hsame, ce, hce, hO⟩ := X₁.ctorThrowS hexec htr (own := own) (cls := cls) (names := names) (ic := ic) hown' hcls hnames h (fun x hx => nomatch hx) hfX hkX hcellA (by rw [hhp, hT]; exact Nat.le_refl _) (msg := .ref sa) rfl
    (g := { method := m, pc := pc + 6, locals := ls, stack := .ref sa :: .ref T.heap.size :: .ref T.heap.size :: rest, locked := none }) rfl hsize rfl rfl (rest := rest) rfl
    (by rw [hb]; exact d6) (by rw [hb]; exact d9) hout hRframes (by simp only [List.map_cons, List.sum_cons, hcat]; omega) hlocks
  obtain ⟨f1, f2⟩ := vx_frame hsame
  rw [hhp] at f1 f2
  have hWs : s.WarmedH U.vm := State.WarmedH.trans hW0 hW
  have hcl : s.vm.findClass cls = some ce.cls := by
    have h9 := hO.cls
    rw [hvm] at h9
    exact h9
  have hall : s.sameButNew ({ U with vm := s.vm } : State) locs mc ms := by
    subst hA
    obtain ⟨e1, e2⟩ := hsame
    rw [State.setFrames_setFrames] at e1
    have h2 : (T.setVm s.vm).sameButNew ({ U with vm := s.vm } : State) [] (0 + 1) (0 + 6) := ⟨e1, e2⟩
    have h3 := X.same.trans h2
    rw [List.append_nil] at h3
    exact h3.mono hc hs
  refine ⟨U, ?_, .threw T.heap.size, hrun, hend, Or.inr ⟨T.heap.size, rfl, cls, ce, locs, hx U hWs.alike f1 (fun q hq => f2 q hq (fun z hz => nomatch hz)), hce, hO.vm, hcl, hWs, hall, hf⟩⟩
  refine st1 _ ?_
  show Steps p.tables e below (T1.setTop { method := m, pc := pc + 3, locals := ls, stack := .ref T.heap.size :: rest, locked := none }) _
  jvm_step X₁.here [X₁.here.top, hexec, d3', Value.category]
  exact X₁.ldcString hexec (own := own) (text := text) (index := is) (a := sa) hown' hstr'.1 hstr'.2
    (g := { method := m, pc := pc + 4, locals := ls, stack := .ref T.heap.size :: .ref T.heap.size :: rest, locked := none }) rfl d4' _ hsteps
/-- 'throw new E("text")', the text by a wide index -/
theorem vx_throwSW {cc : ByteArray} {pc : Nat} (hexec : p.tables.exec = Jvm.exec) (hb : c.code = cc) (hl : l.stackTraces = false) {own cls text : String} {names : List String} {ik is ic mc ms sa : Nat} {A : Nat → Prop}
    (hown : s.vm.findClass own = some m.cls) (hcls : Bundle.fit cls = true) (hnames : ∀ n ∈ names, Bundle.fit n = true)
    (hk : (Cond.classLink own ik cls).before args s = true) (hini : (Cond.initialized cls).before args s = true) (hstr : vk_R own is text sa s) (hat : ∀ w ∈ vx_atS own ic cls names, w.before args s = true)
    (hgood : ∀ w ∈ Cond.classLink own ik cls :: Cond.initialized cls :: vx_atS own ic cls names, vx_ot w = true)
    (hU : vx_Zq Bundle.tN "UNASSIGNED_STACK" Bundle.steD A s s.heap) (hN : vx_Zq Bundle.tN "SUPPRESSED_SENTINEL" Bundle.listD A s s.heap) (hS : va_S A s.heap H locs) (hsize : ls.size = c.maxLocals)
    (d0 : decode cc pc = .ok (.new ik, 3)) (d3 : decode cc (pc + 3) = .ok (.dup, 1)) (d4 : decode cc (pc + 4) = .ok (.ldc_w is, 3)) (d7 : decode cc (pc + 7) = .ok (.invokespecial ic, 3)) (d10 : decode cc (pc + 10) = .ok (.athrow, 1))
    (hout : ∀ x ∈ c.exceptionTable.toList, covers x (pc + 10) = false)
    (hRframes : names.length + 3 < R.frames) (hRlocals : (rest.map fun v => v.category).sum + (13 * (names.length + 1) + 43) ≤ R.locals) (hRcells : cells + 1 ≤ R.cells) (hRslots : slots + 6 ≤ R.slots) (hlocks : meth.locks = false)
    (hx : ∀ t : State, s.vm.Alike t.vm → H.size ≤ t.heap.size → (∀ q : Nat, q < H.size → t.heap[q]? = H[q]?) → XC cls s t)
    (hf : ∀ z ∈ locs, free z.base) (hc : cells + 1 ≤ mc) (hs : slots + 6 ≤ ms) :
    W p l e R s m args below meth c H locs cells slots (vx_MQ below Qc XC args s mc ms free) (F0 m pc ls rest) := by
  intro T hT X
  have htr : e.platform.stackTraces = false := (show e.platform.stackTraces = l.stackTraces by rw [X.admits.platform]).trans hl
  have Y := vx_rebase X (R' := { frames := R.frames, locals := R.locals, cells := 1, slots := 6 }) (Nat.le_refl _) (Nat.le_refl _) hRcells hRslots
  obtain ⟨s', hA⟩ : ∃ z, z = (T.setVm s.vm).setFrames (.invoking m args :: below) := ⟨_, rfl⟩
  rw [← hA] at Y
  have hvm : s'.vm = s.vm := by rw [hA]; rfl
  have hhp : s'.heap = H := by rw [hA]; exact hT
  have hW0 : s.WarmedH s'.vm := by rw [hvm]; exact State.WarmedH.refl s
  have hat' : ∀ w ∈ vx_atS own ic cls names, w.before args s' = true := fun w hw => vx_ot_at hW0 hvm.symm (hgood w (List.mem_cons_of_mem _ (List.mem_cons_of_mem _ hw))) (hat w hw)
  have hk' : (Cond.classLink own ik cls).before args s' = true := vx_ot_at hW0 hvm.symm (hgood _ List.mem_cons_self) hk
  have hini' : (Cond.initialized cls).before args s' = true := vx_ot_at hW0 hvm.symm (hgood _ (List.mem_cons_of_mem _ List.mem_cons_self)) hini
  have hU' : vx_Zq Bundle.tN "UNASSIGNED_STACK" Bundle.steD A s' s'.heap := by rw [hhp]; exact vx_Zq.moved hW0.alike (hU.kept hS.2.1)
  have hN' : vx_Zq Bundle.tN "SUPPRESSED_SENTINEL" Bundle.listD A s' s'.heap := by rw [hhp]; exact vx_Zq.moved hW0.alike (hN.kept hS.2.1)
  have h : ∀ w ∈ Bundle.ownAtoms own ic cls names, w.before args s' = true := vx_own hat' (vx_isRefq hU'.1) (vx_isRefq hN'.1) hU'.2.word hN'.2.word
  have hown' : s'.vm.findClass own = some m.cls := by rw [hvm]; exact hown
  have hins : (Cond.instantiable cls 6).before args s' = true := h _ (by simp [Bundle.ownAtoms])
  obtain ⟨vm₁, cX, kX, hfX, hkX, -, -, X₁, st1⟩ := Y.newCold hexec (own := own) (C := cls) (index := ik) (n := 6) hown' hk' hins hini'
    (g := F0 m pc ls rest) rfl (by rw [hb]; exact d0) (Nat.le_refl _) (Nat.le_refl _)
  generalize hT1 : (T.setVm vm₁).pushCell { cls := cX, slots := kX.instanceTypes.map defaultValue, vm := .none } = T1 at X₁ st1
  have hcat : (Value.ref T.heap.size).category = 1 := rfl
  have hcellA : T1.heap[T.heap.size]? = some (freshCell cX kX) := by rw [← hT1]; exact State.heap_pushCell_size _ _
  have d3' : decode c.code (pc + 3) = .ok (.dup, 1) := by rw [hb]; exact d3
  have d4' : decode c.code (pc + 4) = .ok (.ldc_w is, 3) := by rw [hb]; exact d4
  have hstr' : vk_R own is text sa s' := vk_R.warm hW0 hstr
  obtain ⟨U, hsteps, hrun, hend, hW, hsame, ce, hce, hO⟩ := X₁.ctorThrowS hexec htr (own := own) (cls := cls) (names := names) (ic := ic) hown' hcls hnames h (fun x hx => nomatch hx) hfX hkX hcellA (by rw [hhp, hT]; exact Nat.le_refl _) (msg := .ref sa) rfl
    (g := { method := m, pc := pc + 7, locals := ls, stack := .ref sa :: .ref T.heap.size :: .ref T.heap.size :: rest, locked := none }) rfl hsize rfl rfl (rest := rest) rfl
    (by rw [hb]; exact d7) (by rw [hb]; exact d10) hout hRframes (by simp only [List.map_cons, List.sum_cons, hcat]; omega) hlocks
  obtain ⟨f1, f2⟩ := vx_frame hsame
  rw [hhp] at f1 f2
  have hWs : s.WarmedH U.vm := State.WarmedH.trans hW0 hW
  have hcl : s.vm.findClass cls = some ce.cls := by
    have h9 := hO.cls
    rw [hvm] at h9
    exact h9
  have hall : s.sameButNew ({ U with vm := s.vm } : State) locs mc ms := by
    subst hA
    obtain ⟨e1, e2⟩ := hsame
    rw [State.setFrames_setFrames] at e1
    have h2 : (T.setVm s.vm).sameButNew ({ U with vm := s.vm } : State) [] (0 + 1) (0 + 6) := ⟨e1, e2⟩
    have h3 := X.same.trans h2
    rw [List.append_nil] at h3
    exact h3.mono hc hs
  refine ⟨U, ?_, .threw T.heap.size, hrun, hend, Or.inr ⟨T.heap.size, rfl, cls, ce, locs, hx U hWs.alike f1 (fun q hq => f2 q hq (fun z hz => nomatch hz)), hce, hO.vm, hcl, hWs, hall, hf⟩⟩
  refine st1 _ ?_
  show Steps p.tables e below (T1.setTop { method := m, pc := pc + 3, locals := ls, stack := .ref T.heap.size :: rest, locked := none }) _
  jvm_step X₁.here [X₁.here.top, hexec, d3', Value.category]
  exact X₁.ldcStringW hexec (own := own) (text := text) (index := is) (a := sa) hown' hstr'.1 hstr'.2
    (g := { method := m, pc := pc + 4, locals := ls, stack := .ref T.heap.size :: .ref T.heap.size :: rest, locked := none }) rfl d4' _ hsteps
end Ends
section Bodies
variable {l : Launch}
theorem vx_ofW {y : MethodName} {ws ws' : List Cond} {rm : Room} {Pc : Array Value → State → Prop} {Qc : Array Value → State → Outcome → State → Prop} {XC : String → State → State → Prop} {mc ms : Nat} {free : Addr → Prop} {cc : ByteArray} {maxL : Nat} {ret : Option FieldType}
    (hy : plainName y.cls = true) (hw : ws = Cond.code y cc maxL ret :: ws')
    (body : ∀ p e s m args below meth c s₁, BodyLoose p l y (headSpec ws rm) cc maxL ret e s m args below meth c s₁ → c.maxLocals = maxL → (∀ x ∈ c.exceptionTable.toList, False) → Pc args s →
      W p l e (headSpec ws rm).room s m args below meth c s.heap [] 0 0 (vx_MQ below Qc XC args s mc ms free) (entryFrame m args maxL)) : vx_Met l y ws rm Pc Qc XC mc ms free := by
  refine MetFree.of_bodyS (code := cc) (maxLocals := maxL) (ret := ret) hy ?_ ?_
  · intro args s m h hn
    obtain ⟨meth, c, h1, h2, h3, h4, h5, h6, -, -⟩ := Cond.code_spec hn (atoms_spec (ws := ws) h _ (by rw [hw]; exact List.mem_cons_self))
    exact ⟨meth, c, h1, h2, h3, h4, h5, h6⟩
  · intro p e s m args below meth c s₁ B hml hP _
    have hh0 : s₁.heap = s.heap := by rw [B.state]; rfl
    have ht : ∀ x ∈ c.exceptionTable.toList, False := by
      obtain ⟨meth9, c9, h1, h2, -, -, -, -, h7, -⟩ := Cond.code_spec B.named (atoms_spec (ws := ws) B.pre _ (by rw [hw]; exact List.mem_cons_self))
      cases Option.some.inj (h1.symm.trans B.method)
      cases Option.some.inj (h2.symm.trans (Stand.of_body B).code)
      intro x hx
      rw [Array.isEmpty_iff.mp h7] at hx
      cases hx
    obtain ⟨t, a1, o, b1, b2, b3⟩ := body p e s m args below meth c s₁ B hml ht hP s₁ hh0 (Stand.of_body B)
    exact ⟨t, o, a1, b1, b2, b3⟩
/-- the table of a body with handlers -/
theorem vx_table {p : Program} {x y : MethodName} {S : Spec} {cc bytes : ByteArray} {maxL maxL' : Nat} {ret ret' : Option FieldType} {e : Env} {s s₁ : State} {m : MethodId} {args : Array Value} {below : List Frame} {meth : Method} {c : Code} {hh : List (Nat × Nat × Nat × Nat)}
    (B : BodyLoose p l y S cc maxL ret e s m args below meth c s₁) (h : (Cond.codeWith y bytes maxL' ret' hh).before args s = true) : c.exceptionTable.toList = tableOf hh := by
  obtain ⟨m9, meth9, c9, hn9, h1, h2, -, -, h6, -⟩ := Cond.codeWith_spec h
  cases Option.some.inj (hn9.symm.trans B.named)
  cases Option.some.inj (h1.symm.trans B.method)
  cases Option.some.inj (h2.symm.trans (Stand.of_body B).code)
  rw [← h6, table_eq]
end Bodies
end VXA
/-! ===== END ===== -/
/-! ===== BEGIN a static call of a method with an exception table ===== -/
section VXS
variable {p : Program} {l : Launch} {e : Env} {R : Room} {s : State} {m : MethodId} {args : Array Value} {below : List Frame} {meth : Method} {c : Code} {T : State} {H : Heap} {locs : List Loc} {cells slots : Nat}
abbrev vx_CSW (R : Room) (s : State) (args : Array Value) (own : String) (index : Nat) (y : MethodName) (bytes : ByteArray) (maxL : Nat) (ret : Option FieldType) (hh : List (Nat × Nat × Nat × Nat)) (ws : List Cond) (rm : Room) (mc ms n : Nat) : Prop :=
  (rm.cells = mc ∧ rm.slots = ms ∧ rm.frames + 1 ≤ R.frames ∧ 8 + (maxL + 11) + rm.locals ≤ R.locals ∧ (∀ w ∈ ws, ∀ (a' : Array Value) (U : State), s.WarmedH U.vm → w.before a' U = true) ∧ Cond.codeWith y bytes maxL ret hh ∈ ws) ∧
  (Cond.codeWith y bytes maxL ret hh).before args s = true ∧ (Cond.initialized y.cls).before args s = true ∧ (y.cls ≠ "java/lang/invoke/MethodHandle" ∧ y.cls ≠ "java/lang/invoke/VarHandle") ∧
  (∀ sig, parseMethodDescriptor y.desc = some sig → n = sig.parameters.length) ∧ (Cond.methodLink own index y).before args s = true ∧ (Cond.static y).before args s = true
theorem vx_cwSW {own : String} {index maxL mc ms : Nat} {y : MethodName} {bytes : ByteArray} {ret : Option FieldType} {hh : List (Nat × Nat × Nat × Nat)} {Ts ws ws' : List Cond} {rm : Room} (n : Nat) (ht : ∀ w ∈ Ts, w.before args s = true) (hT : GoodIn Ts (va_wsS own index y ws)) (hw : ws = Cond.codeWith y bytes maxL ret hh :: ws') (hrc : rm.cells = mc) (hrs : rm.slots = ms)
    (hd : y.cls ≠ "java/lang/invoke/MethodHandle" ∧ y.cls ≠ "java/lang/invoke/VarHandle" ∧ (parseMethodDescriptor y.desc).map (fun d => d.parameters.length) = some n) (hR : rm.frames + 1 ≤ R.frames ∧ 8 + (maxL + 11) + rm.locals ≤ R.locals) :
    vx_CSW R s args own index y bytes maxL ret hh ws rm mc ms n := by
  have ok : ∀ w ∈ va_wsS own index y ws, w.before args s = true := fun w h => ht w (hT w h).1
  have hG : GoodIn Ts ws := fun w h => hT w (by unfold va_wsS; exact List.mem_append_right _ h)
  have hc : Cond.codeWith y bytes maxL ret hh ∈ ws := by rw [hw]; exact List.mem_cons_self
  refine ⟨⟨hrc, hrs, hR.1, hR.2, pay_in ht hG, hc⟩, ht _ (hG _ hc).1, ok _ (by simp [va_wsS]), ⟨hd.1, hd.2.1⟩, fun sig h => ?_, ok _ (by simp [va_wsS]), ok _ (by simp [va_wsS])⟩
  have h2 := hd.2.2
  rw [h] at h2
  exact (Option.some.inj h2).symm
theorem vx_callSW (X : Stand p l e R s m args below meth c T locs cells slots) (hexec : p.tables.exec = Jvm.exec) {own : String} {index : Nat} {y : MethodName} {bytes : ByteArray} {maxL : Nat} {ret : Option FieldType} {hh : List (Nat × Nat × Nat × Nat)}
    (hown : s.vm.findClass own = some m.cls) (hlink : (Cond.methodLink own index y).before args s = true) (hstat : (Cond.static y).before args s = true) (hinit : (Cond.initialized y.cls).before args s = true)
    (hcode : (Cond.codeWith y bytes maxL ret hh).before args s = true) (hy : y.cls ≠ "java/lang/invoke/MethodHandle" ∧ y.cls ≠ "java/lang/invoke/VarHandle")
    {W9 : Nat} {Pre : Pt → Array Value → Prop} {Post : Pt → Array Value → Option Value → Pt → Prop} (hK : Back l R p e below s args y 3 W9 Pre Post)
    {g : JFrame} (hg : g.method = m) (hsize : g.locals.size = c.maxLocals) {argsL rest : List Value} (hlen : ∀ sig, parseMethodDescriptor y.desc = some sig → argsL.length = sig.parameters.length)
    (hstack : g.stack = argsL.reverse ++ rest) (hW : 2 * g.monitorRoom + (rest.map fun v => v.category).sum ≤ W9) (hdg : decode c.code g.pc = .ok (.invokestatic index, 3))
    (hpre : ∀ vm₁, s.WarmedH vm₁ → Pre ⟨T.setVm vm₁, locs, cells, slots⟩ argsL.toArray) :
    ∃ (v : Option Value) (vm₁ : Vm) (B : Pt), s.WarmedH vm₁ ∧ Stand p l e R s m args below meth c B.U B.locs B.cells B.slots ∧ Post ⟨T.setVm vm₁, locs, cells, slots⟩ argsL.toArray v B ∧
      ∀ target, Steps p.tables e below (B.U.setTop { g with pc := g.pc + 3, stack := v.toList ++ rest }) target → Steps p.tables e below (T.setTop g) target := by
  obtain ⟨mk, methM, cM, hnamed, hmethM, -, -, -, -, -, -, hsigM⟩ := Cond.codeWith_spec hcode
  have hstatic : methM.isStatic = true := Cond.static_spec hnamed hmethM hstat
  obtain ⟨kP, hkP, -⟩ := className_of_methodNamed hnamed
  have hinitP : kP.init = .initialized := Cond.initialized_spec (findClass_of_methodNamed hnamed) hkP hinit
  obtain ⟨vm₁, X₁, hstep₁⟩ := X.invokestatic hexec hown hlink hnamed hmethM hstatic hkP hinitP hy (g := g) hg (argsL := argsL) (rest := rest) (hlen _ hsigM) hstack hdg
  obtain ⟨v, B, X', hpost, hsteps⟩ := hK m meth c ⟨T.setVm vm₁, locs, cells, slots⟩ { g with stack := rest } (.invokestatic index) mk argsL.toArray X₁ hg hsize hdg hW (X₁.named hnamed) (hpre vm₁ X₁.warmed)
  exact ⟨v, vm₁, B, X₁.warmed, X', hpost, fun target h => hstep₁ _ fun acts => by rw [doInvoke_state]; exact hsteps.trans h⟩
theorem vx_runSW {y : MethodName} {bytes cc : ByteArray} {maxL nL mc ms n index : Nat} {ret : Option FieldType} {hh : List (Nat × Nat × Nat × Nat)} {ws : List Cond} {rm : Room} {Pc : Array Value → State → Prop} {Qc : Array Value → State → Outcome → State → Prop} {free : Addr → Prop} {Ts : List Cond} {own : String} {As rest : List Value} {g : JFrame}
    (S : CallFix p m c cc nL s args Ts own) (hM : Met l y ws rm Pc Qc mc ms free) (cw : vx_CSW R s args own index y bytes maxL ret hh ws rm mc ms n) (hp : PreS s H Pc As)
    (hg : g.method = m) (hn : As.length = n) (hsize : g.locals.size = nL) (hstack : g.stack = As.reverse ++ rest) (hW : 2 * g.monitorRoom + (rest.map fun v => v.category).sum ≤ 8) (hdg : decode cc g.pc = .ok (.invokestatic index, 3)) (hf : cells + mc ≤ R.cells ∧ slots + ms ≤ R.slots) :
    va_Run p l e R s m args below meth c H locs cells slots mc ms g rest (Qc As.toArray) (free) := by
  obtain ⟨⟨hrc, hrs, hfr, hlo, hws, hcw⟩, hcode, hini, hy, hlen, hl, hstt⟩ := cw
  have hK : Back l R p e below s args y 3 8 (PreOf R mc ms Pc) (PostOf Qc mc ms free) := va_backW (hh := hh) (bytes := bytes) (maxL := maxL) (ret := ret) hM hp.1 hrc hrs hfr hlo hws hcw (fun a' U hW => word_at hW (Or.inl (by first | rfl | simp [Cond.onTables, Cond.keeps, Cond.steady])) hini)
  obtain ⟨hx, hb, hml, ho, -⟩ := S
  intro T hT X
  obtain ⟨v, vm₁, ⟨U', l2, c2, s2⟩, hW₁, X', ⟨g', mk, t, L, e1, e2, hq, h1, hL, h2, h3⟩, st⟩ := vx_callSW X hx (hh := hh) (bytes := bytes) (maxL := maxL) (ret := ret) ho hl hstt hini hcode hy hK hg (hsize.trans hml.symm) (argsL := As) (rest := rest) (fun sig h => hn.trans (hlen sig h)) hstack hW (by rw [hb]; exact hdg)
    (fun vm₁ hW₁ => ⟨hf.1, hf.2, hp.2 (T.setVm vm₁) hT hW₁⟩)
  dsimp only [Pt.U, Pt.locs, Pt.cells, Pt.slots] at X' e1 e2 h1 h2 h3 st
  subst h1; subst h2; subst h3
  exact ⟨v, (T.setVm vm₁).calling g' mk As.toArray, t, U', L, hT, X', hL, e1, e2, hq, st⟩
theorem vx_lt {D : va_G} {cl : List vw_C} {ws : va_W} {H1 : Heap} (h : va_P D cl ws H1) {k : Nat} {q : Nat × va_E} (hk : ws[k]? = some q) : q.1 < H1.size := (h k q hk).lt
end VXS
/-! ===== END ===== -/
/-! ===== BEGIN methods with a table of their own: called by a name, returning or throwing ===== -/
section VXH
/-! vx_backW, vx_callVX, vx_callSX, vx_callVW, vx_runVW, vx_runVX, vx_runSX, vx_ofWH follow the same proofs as their sisters above (Free/Laws.lean, Shelf42/LK1.lean); vx_outP calls Shelf42/NT130.lean (outThrough). -/
section
variable {l : Launch} {R : Room} {p : Program} {e : Env} {below : List Frame} {s : State} {sargs : Array Value} {y : MethodName} {len W9 : Nat}
theorem vx_backW {ws : List Cond} {rm : Room} {Pc : Array Value → State → Prop} {Qc : Array Value → State → Outcome → State → Prop} {XC : String → State → State → Prop} {mc ms : Nat} {free : Addr → Prop} {bytes : ByteArray} {maxL : Nat} {ret : Option FieldType} {hh : List (Nat × Nat × Nat × Nat)}
    (hM : vx_Met l y ws rm Pc Qc XC mc ms free) (hblind : FrameBlind Pc) (hrc : rm.cells = mc) (hrs : rm.slots = ms)
    (hframes : rm.frames + 1 ≤ R.frames) (hlocals : W9 + (maxL + 11) + rm.locals ≤ R.locals)
    (hws : ∀ w ∈ ws, ∀ a' U, s.WarmedH U.vm → w.before a' U = true) (hcode : Cond.codeWith y bytes maxL ret hh ∈ ws) (hinit : ∀ a' U, s.WarmedH U.vm → (Cond.initialized y.cls).before a' U = true) :
    vx_Back l R p e below s sargs y len W9 (PreOf R mc ms Pc) (PostOf Qc mc ms free) (vx_Post XC mc ms free) := by
  intro m meth c A g ig mk a X hg hsize hdg hW hn hp
  have h1 : (headSpec ws rm).pre.before a A.U = true := atoms_intro fun w hw => hws w hw _ _ X.warmed
  have h2 : (Cond.codeWith y bytes maxL ret hh).before a A.U = true := hws _ hcode _ _ X.warmed
  have h3 : (Cond.initialized y.cls).before a A.U = true := hinit _ _ X.warmed
  have h4 : A.cells + (headSpec ws rm).room.cells ≤ R.cells := by rw [show (headSpec ws rm).room.cells = mc from hrc]; exact hp.1
  have h5 : A.slots + (headSpec ws rm).room.slots ≤ R.slots := by rw [show (headSpec ws rm).room.slots = ms from hrs]; exact hp.2.1
  have hPc : Pc a (A.U.calling g mk a) := hblind _ _ _ _ hp.2.2
  obtain ⟨U, Ls, c0, s0⟩ := A
  dsimp only [Pt.U, Pt.locs, Pt.cells, Pt.slots] at h1 h2 h3 h4 h5 X hn hPc ⊢
  obtain ⟨m9, methY, cY, hn9, hmY, hcY, -, hlY, -⟩ := Cond.codeWith_spec h2
  cases Option.some.inj (hn9.symm.trans hn)
  obtain ⟨kY, hkY, -⟩ := className_of_methodNamed hn
  have hinitY : kY.init = .initialized := Cond.initialized_spec (findClass_of_methodNamed hn) hkY h3
  have h : At U g.method c below := by rw [hg]; exact X.here
  have hlocals9 : W9 + (maxL + 11) + (headSpec ws rm).room.locals ≤ R.locals := hlocals
  have happ : (headSpec ws rm).appliesLoose y e.platform (U.calling g mk a) = true :=
    Spec.appliesLoose_calling (g := g) h hdg hn hkY hinitY
      (X.room_calling (g := g) (R' := (headSpec ws rm).room) hsize hmY hcY hframes (by rw [hlY]; omega) h4 h5) h1
  obtain ⟨mid, hmid⟩ := h.above
  have hfr : (U.setTop g).frames = (.java g :: mid) ++ below := by rw [State.frames_setTop' g h.top, hmid]; rfl
  obtain ⟨o, s₂, hsteps, -, hend, hq⟩ := Steps.callFree hM p X.admits X.cas X.clock (acts := []) hfr happ hPc trivial
  have hq' : vx_Q Qc XC mc ms free a (U.calling g mk a) o s₂ := hq
  rw [State.frames_setTop' g h.top] at hend
  obtain ⟨g₀, hg0⟩ := Option.isSome_iff_exists.mp h.top
  obtain ⟨r, hr⟩ := State.topJava?_eq_some.mp hg0
  have hr' : (({ U with heap := s₂.heap, slotsUsed := s₂.slotsUsed } : State).setVm s₂.vm).frames = .java g₀ :: r := hr
  rcases hq' with ⟨hqc, L, hfe, hL⟩ | ⟨q, rfl, E, ce, L, hx, hce, hcv, hcl, hW₂, hsm, hL⟩
  · obtain ⟨⟨v, rfl⟩, hW₂, e2, q2, q3, q4, q5, q6⟩ := id hfe
    have e3 : s₂ = ({ (U.calling g mk a).setFrames s₂.frames with heap := s₂.heap, slotsUsed := s₂.slotsUsed } : State).setVm s₂.vm := by
      have : s₂ = ({ s₂ with vm := (U.calling g mk a).vm } : State).setVm s₂.vm := rfl
      rw [e2] at this
      exact this
    obtain ⟨c₂, i₂, len₂, hc₂, hd₂, hf₂⟩ := hend
    have hW' : U.WarmedH s₂.vm := hW₂
    have hcc : c₂ = c := by
      have h1 : s₂.code? g.method = U.code? g.method := by
        rw [State.code?_eq, State.code?_eq, hW'.alike.method?]
      exact Option.some.inj (hc₂.symm.trans (h1.trans h.code))
    subst hcc
    have hlen : len₂ = len := by rw [hdg] at hd₂; cases hd₂; rfl
    subst hlen
    have hs₂ : s₂ = (({ U with heap := s₂.heap, slotsUsed := s₂.slotsUsed } : State).setVm s₂.vm).setTop { g with pc := g.pc + len₂, stack := v.toList ++ g.stack } := by
      refine e3.trans ?_
      rw [hf₂, State.calling_eq h.top, State.setFrames_setFrames, State.setTop_of_frames _ hr', hr]
      rfl
    have hsame : U.sameButNew ({ U with heap := s₂.heap, slotsUsed := s₂.slotsUsed } : State) L mc ms := by
      refine ⟨?_, q2, q3, q4, q5, q6⟩
      obtain ⟨t, ht, -⟩ := State.frames_cons hr
      show ({ U with heap := s₂.heap, slotsUsed := s₂.slotsUsed } : State) = { U.setFrames U.frames with heap := s₂.heap, slotsUsed := s₂.slotsUsed }
      rw [State.setFrames_self ht]
    subst hg
    refine Or.inl ⟨v, ⟨(({ U with heap := s₂.heap, slotsUsed := s₂.slotsUsed } : State).setVm s₂.vm), Ls ++ L, c0 + mc, s0 + ms⟩,
      ⟨X.admits, X.cas, X.clock, X.frames, X.room, X.hears, X.method, X.code, (X.here.setHeapUsed s₂.heap s₂.slotsUsed).setVm hW'.alike, X.tail, State.WarmedH.trans X.warmed hW', X.limits, X.bytes, X.same.trans (hsame.setVm s.vm)⟩,
      ⟨g, mk, s₂, L, rfl, rfl, hqc, rfl, hL, rfl, rfl⟩, ?_⟩
    show Steps p.tables e below _ ((({ U with heap := s₂.heap, slotsUsed := s₂.slotsUsed } : State).setVm s₂.vm).setTop { g with pc := g.pc + len₂, stack := v.toList ++ g.stack })
    rw [← hs₂]
    exact hsteps
  · obtain ⟨e2, q2, q3, q4, q5, q6⟩ := id hsm
    have e3 : s₂ = ({ (U.calling g mk a).setFrames s₂.frames with heap := s₂.heap, slotsUsed := s₂.slotsUsed } : State).setVm s₂.vm := by
      have : s₂ = ({ s₂ with vm := (U.calling g mk a).vm } : State).setVm s₂.vm := rfl
      rw [e2] at this
      exact this
    have hf₂ : s₂.frames = .throwing q :: .java g :: U.frames.tail := hend
    have hW' : U.WarmedH s₂.vm := hW₂
    have hs₂ : s₂ = ((({ U with heap := s₂.heap, slotsUsed := s₂.slotsUsed } : State).setVm s₂.vm).setTop g).pushFrame (.throwing q) := by
      refine e3.trans ?_
      rw [hf₂, State.calling_eq h.top, State.setFrames_setFrames, State.pushFrame, State.frames_setTop _ hr', State.setTop_of_frames _ hr', State.setFrames_setFrames, hr]
      rfl
    have hsame : U.sameButNew ({ U with heap := s₂.heap, slotsUsed := s₂.slotsUsed } : State) L mc ms := by
      refine ⟨?_, q2, q3, q4, q5, q6⟩
      obtain ⟨t, ht, -⟩ := State.frames_cons hr
      show ({ U with heap := s₂.heap, slotsUsed := s₂.slotsUsed } : State) = { U.setFrames U.frames with heap := s₂.heap, slotsUsed := s₂.slotsUsed }
      rw [State.setFrames_self ht]
    subst hg
    refine Or.inr ⟨q, ⟨(({ U with heap := s₂.heap, slotsUsed := s₂.slotsUsed } : State).setVm s₂.vm), Ls ++ L, c0 + mc, s0 + ms⟩,
      ⟨X.admits, X.cas, X.clock, X.frames, X.room, X.hears, X.method, X.code, (X.here.setHeapUsed s₂.heap s₂.slotsUsed).setVm hW'.alike, X.tail, State.WarmedH.trans X.warmed hW', X.limits, X.bytes, X.same.trans (hsame.setVm s.vm)⟩,
      ⟨g, mk, s₂, L, E, ce, rfl, rfl, hx, hce, hcv, hcl, rfl, hL, rfl, rfl⟩, ?_⟩
    show Steps p.tables e below _ (((({ U with heap := s₂.heap, slotsUsed := s₂.slotsUsed } : State).setVm s₂.vm).setTop g).pushFrame (.throwing q))
    rw [← hs₂]
    exact hsteps
end
variable {p : Program} {l : Launch} {e : Env} {R : Room} {s : State} {m : MethodId} {args : Array Value} {below : List Frame} {meth : Method} {c : Code} {T : State} {H : Heap} {locs : List Loc} {cells slots : Nat}
theorem vx_callVX (X : Stand p l e R s m args below meth c T locs cells slots) (hexec : p.tables.exec = Jvm.exec) {own C : String} {index : Nat} {y : MethodName} {bytes : ByteArray} {maxL : Nat} {ret : Option FieldType} {hh : List (Nat × Nat × Nat × Nat)}
    (hown : s.vm.findClass own = some m.cls) (hlink : (Cond.methodLink own index y).before args s = true) (hinst : (Cond.instanceMethod y).before args s = true) (hsel : (Cond.selects C y y).before args s = true)
    (hcode : (Cond.codeWith y bytes maxL ret hh).before args s = true) (hy : y.cls ≠ "java/lang/invoke/MethodHandle" ∧ y.cls ≠ "java/lang/invoke/VarHandle")
    {W9 : Nat} {Pre : Pt → Array Value → Prop} {Post : Pt → Array Value → Option Value → Pt → Prop} {PostX : Pt → Array Value → Addr → Pt → Prop} (hK : vx_Back l R p e below s args y 3 W9 Pre Post PostX)
    {b : Addr} {cellB : Cell} (hcell : T.heap[b]? = some cellB) (hobj : cellB.vm.isStatics = false) (hcls : s.vm.findClass C = some cellB.cls)
    {g : JFrame} (hg : g.method = m) (hsize : g.locals.size = c.maxLocals) {argsL rest : List Value} (hlen : ∀ sig, parseMethodDescriptor y.desc = some sig → argsL.length = sig.parameters.length)
    (hstack : g.stack = argsL.reverse ++ .ref b :: rest) (hW : 2 * g.monitorRoom + (rest.map fun v => v.category).sum ≤ W9) (hdg : decode c.code g.pc = .ok (.invokevirtual index, 3))
    (hpre : ∀ vm₁, s.WarmedH vm₁ → Pre ⟨T.setVm vm₁, locs, cells, slots⟩ (Value.ref b :: argsL).toArray) :
    (∃ (v : Option Value) (vm₁ : Vm) (B : Pt), s.WarmedH vm₁ ∧ Stand p l e R s m args below meth c B.U B.locs B.cells B.slots ∧ Post ⟨T.setVm vm₁, locs, cells, slots⟩ (Value.ref b :: argsL).toArray v B ∧
      ∀ target, Steps p.tables e below (B.U.setTop { g with pc := g.pc + 3, stack := v.toList ++ rest }) target → Steps p.tables e below (T.setTop g) target) ∨
    (∃ (q : Addr) (vm₁ : Vm) (B : Pt), s.WarmedH vm₁ ∧ Stand p l e R s m args below meth c B.U B.locs B.cells B.slots ∧ PostX ⟨T.setVm vm₁, locs, cells, slots⟩ (Value.ref b :: argsL).toArray q B ∧
      Steps p.tables e below (T.setTop g) ((B.U.setTop { g with stack := rest }).pushFrame (.throwing q))) := by
  obtain ⟨mk, methM, hnamed, hmethM, hstM, habM⟩ := Cond.instanceMethod_spec hinst
  obtain ⟨m8, methM', cM, hn8, hmethM', -, -, -, -, -, -, hsigM⟩ := Cond.codeWith_spec hcode
  cases Option.some.inj (hn8.symm.trans hnamed)
  cases hmethM.symm.trans hmethM'
  obtain ⟨c2, r2, m2, q1, q2, q3, q4, kP, hkP, hkPi⟩ := Cond.selects_spec hsel
  cases hcls.symm.trans q1
  cases (State.methodFound?_of_named hnamed hy).symm.trans q2
  cases hnamed.symm.trans q3
  have hselP : selectMethod e.platform s.vm cellB.cls mk = .method mk := by rw [Launch.admits_selectMethod X.admits]; exact q4
  obtain ⟨vm₁, X₁, hstep₁⟩ := X.invokevirtual hexec hown hlink hnamed hmethM hstM hkP hkPi hy (a := b) (cell := cellB) hcell
    (fun z h => by rw [h] at hobj; cases hobj) hselP hmethM habM hkP hkPi (g := g) hg (argsL := argsL) (rest := rest) (hlen _ hsigM) hstack hdg
  rcases hK m meth c ⟨T.setVm vm₁, locs, cells, slots⟩ { g with stack := rest } (.invokevirtual index) mk (Value.ref b :: argsL).toArray X₁ hg hsize hdg hW (X₁.named hnamed) (hpre vm₁ X₁.warmed) with ⟨v, B, X', hpost, hsteps⟩ | ⟨q, B, X', hpost, hsteps⟩
  · exact Or.inl ⟨v, vm₁, B, X₁.warmed, X', hpost, fun target h => hstep₁ _ fun acts => by rw [doInvoke_state]; exact hsteps.trans h⟩
  · exact Or.inr ⟨q, vm₁, B, X₁.warmed, X', hpost, hstep₁ _ fun acts => by rw [doInvoke_state]; exact hsteps⟩
theorem vx_callSX (X : Stand p l e R s m args below meth c T locs cells slots) (hexec : p.tables.exec = Jvm.exec) {own : String} {index : Nat} {y : MethodName} {bytes : ByteArray} {maxL : Nat} {ret : Option FieldType} {hh : List (Nat × Nat × Nat × Nat)}
    (hown : s.vm.findClass own = some m.cls) (hlink : (Cond.methodLink own index y).before args s = true) (hstat : (Cond.static y).before args s = true) (hinit : (Cond.initialized y.cls).before args s = true)
    (hcode : (Cond.codeWith y bytes maxL ret hh).before args s = true) (hy : y.cls ≠ "java/lang/invoke/MethodHandle" ∧ y.cls ≠ "java/lang/invoke/VarHandle")
    {W9 : Nat} {Pre : Pt → Array Value → Prop} {Post : Pt → Array Value → Option Value → Pt → Prop} {PostX : Pt → Array Value → Addr → Pt → Prop} (hK : vx_Back l R p e below s args y 3 W9 Pre Post PostX)
    {g : JFrame} (hg : g.method = m) (hsize : g.locals.size = c.maxLocals) {argsL rest : List Value} (hlen : ∀ sig, parseMethodDescriptor y.desc = some sig → argsL.length = sig.parameters.length)
    (hstack : g.stack = argsL.reverse ++ rest) (hW : 2 * g.monitorRoom + (rest.map fun v => v.category).sum ≤ W9) (hdg : decode c.code g.pc = .ok (.invokestatic index, 3))
    (hpre : ∀ vm₁, s.WarmedH vm₁ → Pre ⟨T.setVm vm₁, locs, cells, slots⟩ argsL.toArray) :
    (∃ (v : Option Value) (vm₁ : Vm) (B : Pt), s.WarmedH vm₁ ∧ Stand p l e R s m args below meth c B.U B.locs B.cells B.slots ∧ Post ⟨T.setVm vm₁, locs, cells, slots⟩ argsL.toArray v B ∧
      ∀ target, Steps p.tables e below (B.U.setTop { g with pc := g.pc + 3, stack := v.toList ++ rest }) target → Steps p.tables e below (T.setTop g) target) ∨
    (∃ (q : Addr) (vm₁ : Vm) (B : Pt), s.WarmedH vm₁ ∧ Stand p l e R s m args below meth c B.U B.locs B.cells B.slots ∧ PostX ⟨T.setVm vm₁, locs, cells, slots⟩ argsL.toArray q B ∧
      Steps p.tables e below (T.setTop g) ((B.U.setTop { g with stack := rest }).pushFrame (.throwing q))) := by
  obtain ⟨mk, methM, cM, hnamed, hmethM, -, -, -, -, -, -, hsigM⟩ := Cond.codeWith_spec hcode
  have hstatic : methM.isStatic = true := Cond.static_spec hnamed hmethM hstat
  obtain ⟨kP, hkP, -⟩ := className_of_methodNamed hnamed
  have hinitP : kP.init = .initialized := Cond.initialized_spec (findClass_of_methodNamed hnamed) hkP hinit
  obtain ⟨vm₁, X₁, hstep₁⟩ := X.invokestatic hexec hown hlink hnamed hmethM hstatic hkP hinitP hy (g := g) hg (argsL := argsL) (rest := rest) (hlen _ hsigM) hstack hdg
  rcases hK m meth c ⟨T.setVm vm₁, locs, cells, slots⟩ { g with stack := rest } (.invokestatic index) mk argsL.toArray X₁ hg hsize hdg hW (X₁.named hnamed) (hpre vm₁ X₁.warmed) with ⟨v, B, X', hpost, hsteps⟩ | ⟨q, B, X', hpost, hsteps⟩
  · exact Or.inl ⟨v, vm₁, B, X₁.warmed, X', hpost, fun target h => hstep₁ _ fun acts => by rw [doInvoke_state]; exact hsteps.trans h⟩
  · exact Or.inr ⟨q, vm₁, B, X₁.warmed, X', hpost, hstep₁ _ fun acts => by rw [doInvoke_state]; exact hsteps⟩
theorem vx_callVW (X : Stand p l e R s m args below meth c T locs cells slots) (hexec : p.tables.exec = Jvm.exec) {own C : String} {index : Nat} {y : MethodName} {bytes : ByteArray} {maxL : Nat} {ret : Option FieldType} {hh : List (Nat × Nat × Nat × Nat)}
    (hown : s.vm.findClass own = some m.cls) (hlink : (Cond.methodLink own index y).before args s = true) (hinst : (Cond.instanceMethod y).before args s = true) (hsel : (Cond.selects C y y).before args s = true)
    (hcode : (Cond.codeWith y bytes maxL ret hh).before args s = true) (hy : y.cls ≠ "java/lang/invoke/MethodHandle" ∧ y.cls ≠ "java/lang/invoke/VarHandle")
    {W9 : Nat} {Pre : Pt → Array Value → Prop} {Post : Pt → Array Value → Option Value → Pt → Prop} (hK : Back l R p e below s args y 3 W9 Pre Post)
    {b : Addr} {cellB : Cell} (hcell : T.heap[b]? = some cellB) (hobj : cellB.vm.isStatics = false) (hcls : s.vm.findClass C = some cellB.cls)
    {g : JFrame} (hg : g.method = m) (hsize : g.locals.size = c.maxLocals) {argsL rest : List Value} (hlen : ∀ sig, parseMethodDescriptor y.desc = some sig → argsL.length = sig.parameters.length)
    (hstack : g.stack = argsL.reverse ++ .ref b :: rest) (hW : 2 * g.monitorRoom + (rest.map fun v => v.category).sum ≤ W9) (hdg : decode c.code g.pc = .ok (.invokevirtual index, 3))
    (hpre : ∀ vm₁, s.WarmedH vm₁ → Pre ⟨T.setVm vm₁, locs, cells, slots⟩ (Value.ref b :: argsL).toArray) :
    ∃ (v : Option Value) (vm₁ : Vm) (B : Pt), s.WarmedH vm₁ ∧ Stand p l e R s m args below meth c B.U B.locs B.cells B.slots ∧ Post ⟨T.setVm vm₁, locs, cells, slots⟩ (Value.ref b :: argsL).toArray v B ∧
      ∀ target, Steps p.tables e below (B.U.setTop { g with pc := g.pc + 3, stack := v.toList ++ rest }) target → Steps p.tables e below (T.setTop g) target := by
  obtain ⟨mk, methM, hnamed, hmethM, hstM, habM⟩ := Cond.instanceMethod_spec hinst
  obtain ⟨m8, methM', cM, hn8, hmethM', -, -, -, -, -, -, hsigM⟩ := Cond.codeWith_spec hcode
  cases Option.some.inj (hn8.symm.trans hnamed)
  cases hmethM.symm.trans hmethM'
  obtain ⟨c2, r2, m2, q1, q2, q3, q4, kP, hkP, hkPi⟩ := Cond.selects_spec hsel
  cases hcls.symm.trans q1
  cases (State.methodFound?_of_named hnamed hy).symm.trans q2
  cases hnamed.symm.trans q3
  have hselP : selectMethod e.platform s.vm cellB.cls mk = .method mk := by rw [Launch.admits_selectMethod X.admits]; exact q4
  obtain ⟨vm₁, X₁, hstep₁⟩ := X.invokevirtual hexec hown hlink hnamed hmethM hstM hkP hkPi hy (a := b) (cell := cellB) hcell
    (fun z h => by rw [h] at hobj; cases hobj) hselP hmethM habM hkP hkPi (g := g) hg (argsL := argsL) (rest := rest) (hlen _ hsigM) hstack hdg
  obtain ⟨v, B, X', hpost, hsteps⟩ := hK m meth c ⟨T.setVm vm₁, locs, cells, slots⟩ { g with stack := rest } (.invokevirtual index) mk (Value.ref b :: argsL).toArray X₁ hg hsize hdg hW (X₁.named hnamed) (hpre vm₁ X₁.warmed)
  exact ⟨v, vm₁, B, X₁.warmed, X', hpost, fun target h => hstep₁ _ fun acts => by rw [doInvoke_state]; exact hsteps.trans h⟩
abbrev vx_CVW (R : Room) (s : State) (args : Array Value) (own C : String) (index : Nat) (y : MethodName) (bytes : ByteArray) (maxL : Nat) (ret : Option FieldType) (hh : List (Nat × Nat × Nat × Nat)) (ws : List Cond) (rm : Room) (mc ms n : Nat) : Prop :=
  (rm.cells = mc ∧ rm.slots = ms ∧ rm.frames + 1 ≤ R.frames ∧ 8 + (maxL + 11) + rm.locals ≤ R.locals ∧ (∀ w ∈ ws, ∀ (a' : Array Value) (U : State), s.WarmedH U.vm → w.before a' U = true) ∧ Cond.codeWith y bytes maxL ret hh ∈ ws) ∧
  (Cond.codeWith y bytes maxL ret hh).before args s = true ∧ (Cond.initialized y.cls).before args s = true ∧ (y.cls ≠ "java/lang/invoke/MethodHandle" ∧ y.cls ≠ "java/lang/invoke/VarHandle") ∧
  (∀ sig, parseMethodDescriptor y.desc = some sig → n = sig.parameters.length) ∧ (Cond.methodLink own index y).before args s = true ∧ (Cond.instanceMethod y).before args s = true ∧ (Cond.selects C y y).before args s = true
theorem vx_cwVW {own C : String} {index maxL mc ms : Nat} {y : MethodName} {bytes : ByteArray} {ret : Option FieldType} {hh : List (Nat × Nat × Nat × Nat)} {Ts ws ws' : List Cond} {rm : Room} (n : Nat) (ht : ∀ w ∈ Ts, w.before args s = true) (hT : GoodIn Ts (wsV own index C y ws)) (hw : ws = Cond.codeWith y bytes maxL ret hh :: ws') (hrc : rm.cells = mc) (hrs : rm.slots = ms)
    (hd : y.cls = C ∧ y.cls ≠ "java/lang/invoke/MethodHandle" ∧ y.cls ≠ "java/lang/invoke/VarHandle" ∧ (parseMethodDescriptor y.desc).map (fun d => d.parameters.length) = some n) (hR : rm.frames + 1 ≤ R.frames ∧ 8 + (maxL + 11) + rm.locals ≤ R.locals) :
    vx_CVW R s args own C index y bytes maxL ret hh ws rm mc ms n := by
  obtain ⟨hC, hd⟩ := hd
  subst hC
  have ok : ∀ w ∈ wsV own index y.cls y ws, w.before args s = true := fun w h => ht w (hT w h).1
  have hG : GoodIn Ts ws := fun w h => hT w (by unfold wsV; exact List.mem_append_right _ h)
  have hc : Cond.codeWith y bytes maxL ret hh ∈ ws := by rw [hw]; exact List.mem_cons_self
  refine ⟨⟨hrc, hrs, hR.1, hR.2, pay_in ht hG, hc⟩, ht _ (hG _ hc).1, ok _ (by simp [wsV]), ⟨hd.1, hd.2.1⟩, fun sig h => ?_, ok _ (by simp [wsV]), ok _ (by simp [wsV]), ok _ (by simp [wsV])⟩
  have h2 := hd.2.2
  rw [h] at h2
  exact (Option.some.inj h2).symm
theorem vx_runVW {y : MethodName} {bytes cc : ByteArray} {maxL nL mc ms n index : Nat} {ret : Option FieldType} {hh : List (Nat × Nat × Nat × Nat)} {ws : List Cond} {rm : Room} {Pc : Array Value → State → Prop} {Qc : Array Value → State → Outcome → State → Prop} {free : Addr → Prop} {Ts : List Cond} {own C : String} {b : Addr} {As rest : List Value} {g : JFrame}
    (S : CallFix p m c cc nL s args Ts own) (hM : Met l y ws rm Pc Qc mc ms free) (cw : vx_CVW R s args own C index y bytes maxL ret hh ws rm mc ms n) (hp : PreV s H C b Pc As)
    (hg : g.method = m) (hn : As.length = n) (hsize : g.locals.size = nL) (hstack : g.stack = As.reverse ++ .ref b :: rest) (hW : 2 * g.monitorRoom + (rest.map fun v => v.category).sum ≤ 8) (hdg : decode cc g.pc = .ok (.invokevirtual index, 3)) (hf : cells + mc ≤ R.cells ∧ slots + ms ≤ R.slots) :
    va_Run p l e R s m args below meth c H locs cells slots mc ms g rest (Qc (Value.ref b :: As).toArray) free := by
  obtain ⟨⟨hrc, hrs, hfr, hlo, hws, hcw⟩, hcode, hini, hy, hlen, hl, hin, hse⟩ := cw
  have hK : Back l R p e below s args y 3 8 (PreOf R mc ms Pc) (PostOf Qc mc ms free) := va_backW (hh := hh) (bytes := bytes) (maxL := maxL) (ret := ret) hM hp.1 hrc hrs hfr hlo hws hcw (fun a' U hW => word_at hW (Or.inl (by first | rfl | simp [Cond.onTables, Cond.keeps, Cond.steady])) hini)
  obtain ⟨hx, hb, hml, ho, -⟩ := S
  obtain ⟨-, ⟨cellB, hcB, hoB, hclB⟩, hPc⟩ := hp
  intro T hT X
  obtain ⟨v, vm₁, ⟨U', l2, c2, s2⟩, hW₁, X', ⟨g', mk, t, L, e1, e2, hq, h1, hL, h2, h3⟩, st⟩ := vx_callVW X hx (C := C) (hh := hh) (bytes := bytes) (maxL := maxL) (ret := ret) ho hl hin hse hcode hy hK (by rw [hT]; exact hcB) hoB hclB hg (hsize.trans hml.symm) (argsL := As) (rest := rest) (fun sig h => hn.trans (hlen sig h)) hstack hW (by rw [hb]; exact hdg)
    (fun vm₁ hW₁ => ⟨hf.1, hf.2, hPc (T.setVm vm₁) hT hW₁⟩)
  dsimp only [Pt.U, Pt.locs, Pt.cells, Pt.slots] at X' e1 e2 h1 h2 h3 st
  subst h1; subst h2; subst h3
  exact ⟨v, (T.setVm vm₁).calling g' mk (Value.ref b :: As).toArray, t, U', L, hT, X', hL, e1, e2, hq, st⟩
section
variable {y : MethodName} {bytes cc : ByteArray} {maxL nL mc ms n index : Nat} {ret : Option FieldType} {ws : List Cond} {rm : Room} {Pc : Array Value → State → Prop} {Qc : Array Value → State → Outcome → State → Prop} {XC : String → State → State → Prop} {free : Addr → Prop} {Ts : List Cond} {own C : String} {b : Addr} {As rest : List Value} {g : JFrame}
theorem vx_runVX {hh : List (Nat × Nat × Nat × Nat)} (S : CallFix p m c cc nL s args Ts own) (hM : vx_Met l y ws rm Pc Qc XC mc ms free) (cw : vx_CVW R s args own C index y bytes maxL ret hh ws rm mc ms n) (hp : PreV s H C b Pc As)
    (hg : g.method = m) (hn : As.length = n) (hsize : g.locals.size = nL) (hstack : g.stack = As.reverse ++ .ref b :: rest) (hW : 2 * g.monitorRoom + (rest.map fun v => v.category).sum ≤ 8) (hdg : decode cc g.pc = .ok (.invokevirtual index, 3)) (hf : cells + mc ≤ R.cells ∧ slots + ms ≤ R.slots) :
    vx_Run p l e R s m args below meth c H locs cells slots mc ms g rest (Qc (Value.ref b :: As).toArray) XC free := by
  obtain ⟨⟨hrc, hrs, hfr, hlo, hws, hcw⟩, hcode, hini, hy, hlen, hl, hin, hse⟩ := cw
  have hK : vx_Back l R p e below s args y 3 8 (PreOf R mc ms Pc) (PostOf Qc mc ms free) (vx_Post XC mc ms free) := vx_backW (hh := hh) (bytes := bytes) (maxL := maxL) (ret := ret) hM hp.1 hrc hrs hfr hlo hws hcw (fun a' U hW => word_at hW (Or.inl (by first | rfl | simp [Cond.onTables, Cond.keeps, Cond.steady])) hini)
  obtain ⟨hx, hb, hml, ho, -⟩ := S
  obtain ⟨-, ⟨cellB, hcB, hoB, hclB⟩, hPc⟩ := hp
  intro T hT X
  rcases vx_callVX X hx (C := C) (hh := hh) (bytes := bytes) (maxL := maxL) (ret := ret) ho hl hin hse hcode hy hK (by rw [hT]; exact hcB) hoB hclB hg (hsize.trans hml.symm) (argsL := As) (rest := rest) (fun sig h => hn.trans (hlen sig h)) hstack hW (by rw [hb]; exact hdg)
    (fun vm₁ hW₁ => ⟨hf.1, hf.2, hPc (T.setVm vm₁) hT hW₁⟩) with ⟨v, vm₁, ⟨U', l2, c2, s2⟩, hW₁, X', ⟨g', mk, t, L, e1, e2, hq, h1, hL, h2, h3⟩, st⟩ | ⟨q, vm₁, ⟨U', l2, c2, s2⟩, hW₁, X', ⟨g', mk, t, L, E, ce, e1, e2, hq, hce, hcv, hcl, h1, hL, h2, h3⟩, st⟩
  · dsimp only [Pt.U, Pt.locs, Pt.cells, Pt.slots] at X' e1 e2 h1 h2 h3 st
    subst h1; subst h2; subst h3
    exact Or.inl ⟨v, (T.setVm vm₁).calling g' mk (Value.ref b :: As).toArray, t, U', L, hT, X', hL, e1, e2, hq, st⟩
  · dsimp only [Pt.U, Pt.locs, Pt.cells, Pt.slots] at X' e1 e2 h1 h2 h3 st hcl
    subst h1; subst h2; subst h3
    exact Or.inr ⟨q, (T.setVm vm₁).calling g' mk (Value.ref b :: As).toArray, t, U', L, E, ce, hT, X', hL, e1, e2, hq, hce, hcv, vx_cls hW₁ hcl, st⟩
theorem vx_runSX {hh : List (Nat × Nat × Nat × Nat)} (S : CallFix p m c cc nL s args Ts own) (hM : vx_Met l y ws rm Pc Qc XC mc ms free) (cw : vx_CSW R s args own index y bytes maxL ret hh ws rm mc ms n) (hp : PreS s H Pc As)
    (hg : g.method = m) (hn : As.length = n) (hsize : g.locals.size = nL) (hstack : g.stack = As.reverse ++ rest) (hW : 2 * g.monitorRoom + (rest.map fun v => v.category).sum ≤ 8) (hdg : decode cc g.pc = .ok (.invokestatic index, 3)) (hf : cells + mc ≤ R.cells ∧ slots + ms ≤ R.slots) :
    vx_Run p l e R s m args below meth c H locs cells slots mc ms g rest (Qc As.toArray) XC free := by
  obtain ⟨⟨hrc, hrs, hfr, hlo, hws, hcw⟩, hcode, hini, hy, hlen, hl, hstt⟩ := cw
  have hK : vx_Back l R p e below s args y 3 8 (PreOf R mc ms Pc) (PostOf Qc mc ms free) (vx_Post XC mc ms free) := vx_backW (hh := hh) (bytes := bytes) (maxL := maxL) (ret := ret) hM hp.1 hrc hrs hfr hlo hws hcw (fun a' U hW => word_at hW (Or.inl (by first | rfl | simp [Cond.onTables, Cond.keeps, Cond.steady])) hini)
  obtain ⟨hx, hb, hml, ho, -⟩ := S
  intro T hT X
  rcases vx_callSX X hx (hh := hh) (bytes := bytes) (maxL := maxL) (ret := ret) ho hl hstt hini hcode hy hK hg (hsize.trans hml.symm) (argsL := As) (rest := rest) (fun sig h => hn.trans (hlen sig h)) hstack hW (by rw [hb]; exact hdg)
    (fun vm₁ hW₁ => ⟨hf.1, hf.2, hp.2 (T.setVm vm₁) hT hW₁⟩) with ⟨v, vm₁, ⟨U', l2, c2, s2⟩, hW₁, X', ⟨g', mk, t, L, e1, e2, hq, h1, hL, h2, h3⟩, st⟩ | ⟨q, vm₁, ⟨U', l2, c2, s2⟩, hW₁, X', ⟨g', mk, t, L, E, ce, e1, e2, hq, hce, hcv, hcl, h1, hL, h2, h3⟩, st⟩
  · dsimp only [Pt.U, Pt.locs, Pt.cells, Pt.slots] at X' e1 e2 h1 h2 h3 st
    subst h1; subst h2; subst h3
    exact Or.inl ⟨v, (T.setVm vm₁).calling g' mk As.toArray, t, U', L, hT, X', hL, e1, e2, hq, st⟩
  · dsimp only [Pt.U, Pt.locs, Pt.cells, Pt.slots] at X' e1 e2 h1 h2 h3 st hcl
    subst h1; subst h2; subst h3
    exact Or.inr ⟨q, (T.setVm vm₁).calling g' mk As.toArray, t, U', L, E, ce, hT, X', hL, e1, e2, hq, hce, hcv, vx_cls hW₁ hcl, st⟩
end
end VXH
theorem vx_ofWH {l : Launch} {y : MethodName} {ws ws' : List Cond} {rm : Room} {Pc : Array Value → State → Prop} {Qc : Array Value → State → Outcome → State → Prop} {XC : String → State → State → Prop} {mc ms : Nat} {free : Addr → Prop} {cc : ByteArray} {maxL : Nat} {ret : Option FieldType} {hh : List (Nat × Nat × Nat × Nat)}
    (hy : plainName y.cls = true) (hw : ws = Cond.codeWith y cc maxL ret hh :: ws')
    (body : ∀ p e s m args below meth c s₁, BodyLoose p l y (headSpec ws rm) cc maxL ret e s m args below meth c s₁ → c.maxLocals = maxL → Pc args s →
      W p l e (headSpec ws rm).room s m args below meth c s.heap [] 0 0 (vx_MQ below Qc XC args s mc ms free) (entryFrame m args maxL)) : vx_Met l y ws rm Pc Qc XC mc ms free := by
  refine MetFree.of_bodyS (code := cc) (maxLocals := maxL) (ret := ret) hy ?_ ?_
  · intro args s m h hn
    obtain ⟨m9, meth, c, hn9, h1, h2, h3, h4, -, h5, h6, -⟩ := Cond.codeWith_spec (atoms_spec (ws := ws) h _ (by rw [hw]; exact List.mem_cons_self))
    cases hn.symm.trans hn9
    exact ⟨meth, c, h1, h2, h3, h4, h5, h6⟩
  · intro p e s m args below meth c s₁ B hml hP _
    have hh0 : s₁.heap = s.heap := by rw [B.state]; rfl
    obtain ⟨t, a1, o, b1, b2, b3⟩ := body p e s m args below meth c s₁ B hml hP s₁ hh0 (Stand.of_body B)
    exact ⟨t, o, a1, b1, b2, b3⟩
/-! ===== END ===== -/
end
section
def RX0 : String := "WeatherMast$Floating"
def TX0 : u_T := fun k => match k with
  | 0 => ("WeatherMast$Numbers", "leastOfAll", "J", true)
  | 1 => ("WeatherMast$Numbers", "greatestOfAll", "J", true)
  | 2 => ("WeatherMast$Numbers", "width", "I", true)
  | 3 => ("WeatherMast$Numbers", "lastStep", "I", true)
  | 4 => ("WeatherMast$Floating", "fractionBits", "I", true)
  | 5 => ("WeatherMast$Floating", "signMask", "J", true)
  | 6 => ("WeatherMast$Floating", "infinity", "J", true)
  | 7 => ("WeatherMast$Floating", "bias", "I", true)
  | 8 => ("WeatherMast$Floating", "one", "J", true)
  | 9 => ("WeatherMast$Floating", "half", "J", true)
  | _ => ("WeatherMast$Floating", "hidden", "J", true)
def tyX0 : Nat → FieldType := fun k => match k with
  | 0 => .long
  | 1 => .long
  | 2 => .int
  | 3 => .int
  | 4 => .int
  | 5 => .long
  | 6 => .long
  | 7 => .int
  | 8 => .long
  | 9 => .long
  | _ => .long
abbrev wsX00 : List Cond := u_ws RX0 TX0 11
theorem nmX0 : ∀ a, a < 11 → ∀ b, b < 11 → a ≠ b → (TX0 a).2.1 ≠ (TX0 b).2.1 := by decide +kernel
theorem tyX0_ok : ∀ k, k < 11 → parseFieldDescriptor (TX0 k).2.2.1 = some (tyX0 k) := by decide +kernel
abbrev cX0_init : ByteArray := prog_2_method_1_code
def yX0_init : MethodName := ⟨RX0, "<init>", "(II)V"⟩
abbrev cX0_infinityOf : ByteArray := prog_2_method_2_code
def yX0_infinityOf : MethodName := ⟨RX0, "infinityOf", "(II)J"⟩
abbrev cX0_isNumber : ByteArray := prog_2_method_3_code
def yX0_isNumber : MethodName := ⟨RX0, "isNumber", "(J)Z"⟩
abbrev cX0_amount : ByteArray := prog_2_method_4_code
def yX0_amount : MethodName := ⟨RX0, "amount", "(J)J"⟩
abbrev cX0_plus : ByteArray := prog_2_method_5_code
def yX0_plus : MethodName := ⟨RX0, "plus", "(JJ)J"⟩
abbrev cX0_apart : ByteArray := prog_2_method_6_code
def yX0_apart : MethodName := ⟨RX0, "apart", "(JJ)J"⟩
abbrev cX0_toInt : ByteArray := prog_2_method_7_code
def yX0_toInt : MethodName := ⟨RX0, "toInt", "(J)I"⟩
abbrev cX0_rank : ByteArray := prog_2_method_8_code
def yX0_rank : MethodName := ⟨RX0, "rank", "(J)J"⟩
abbrev cX0_level : ByteArray := prog_2_method_9_code
def yX0_level : MethodName := ⟨RX0, "level", "(J)J"⟩
abbrev cX0_furtherStepped : ByteArray := prog_2_method_10_code
def yX0_furtherStepped : MethodName := ⟨RX0, "furtherStepped", "(IJJ)J"⟩
abbrev cX0_withSignOf : ByteArray := prog_2_method_11_code
def yX0_withSignOf : MethodName := ⟨RX0, "withSignOf", "(JJ)J"⟩
abbrev cX0_bitsBehindPoint : ByteArray := prog_2_method_12_code
def yX0_bitsBehindPoint : MethodName := ⟨RX0, "bitsBehindPoint", "(J)I"⟩
abbrev cX0_cut : ByteArray := prog_2_method_13_code
def yX0_cut : MethodName := ⟨RX0, "cut", "(J)J"⟩
abbrev cX0_raised : ByteArray := prog_2_method_14_code
def yX0_raised : MethodName := ⟨RX0, "raised", "(J)J"⟩
abbrev cX0_nearest : ByteArray := prog_2_method_15_code
def yX0_nearest : MethodName := ⟨RX0, "nearest", "(J)J"⟩
abbrev cX0_nextWhole : ByteArray := prog_2_method_16_code
def yX0_nextWhole : MethodName := ⟨RX0, "nextWhole", "(JJ)J"⟩
abbrev cX0_exponentOf : ByteArray := prog_2_method_17_code
def yX0_exponentOf : MethodName := ⟨RX0, "exponentOf", "(J)I"⟩
abbrev cX0_significandOf : ByteArray := prog_2_method_18_code
def yX0_significandOf : MethodName := ⟨RX0, "significandOf", "(J)J"⟩
abbrev cX0_shiftedRight : ByteArray := prog_2_method_19_code
def yX0_shiftedRight : MethodName := ⟨RX0, "shiftedRight", "(JI)J"⟩
abbrev cX0_minus : ByteArray := prog_2_method_20_code
def yX0_minus : MethodName := ⟨RX0, "minus", "(JJ)J"⟩
abbrev cX0_rounded : ByteArray := prog_2_method_21_code
def yX0_rounded : MethodName := ⟨RX0, "rounded", "(JI)J"⟩
def RX1 : String := "WeatherMast$Instrument"
def TX1 : u_T := fun k => match k with
  | 0 => ("WeatherMast$Instrument", "sort", "I", true)
  | 1 => ("WeatherMast$Instrument", "numbers", "LWeatherMast$Numbers;", true)
  | 2 => ("WeatherMast$Instrument", "low", "J", false)
  | 3 => ("WeatherMast$Instrument", "high", "J", false)
  | 4 => ("WeatherMast$Instrument", "alarmsGiven", "I", false)
  | 5 => ("WeatherMast$Instrument", "steps", "I", false)
  | 6 => ("WeatherMast$Instrument", "least", "J", false)
  | 7 => ("WeatherMast$Instrument", "greatest", "J", false)
  | 8 => ("WeatherMast$Instrument", "swing", "J", false)
  | 9 => ("WeatherMast$Instrument", "sum", "J", false)
  | 10 => ("WeatherMast$Instrument", "kinds", "[I", true)
  | 11 => ("WeatherMast$Instrument", "constants", "[J", true)
  | 12 => ("WeatherMast$Instrument", "leaders", "[LWeatherMast$Instrument;", true)
  | 13 => ("WeatherMast$Instrument", "kept", "[J", true)
  | _ => ("WeatherMast$Instrument", "taken", "I", false)
def tyX1 : Nat → FieldType := fun k => match k with
  | 0 => .int
  | 1 => .object "WeatherMast$Numbers"
  | 2 => .long
  | 3 => .long
  | 4 => .int
  | 5 => .int
  | 6 => .long
  | 7 => .long
  | 8 => .long
  | 9 => .long
  | 10 => .array .int
  | 11 => .array .long
  | 12 => .array (.object "WeatherMast$Instrument")
  | 13 => .array .long
  | _ => .int
abbrev wsX10 : List Cond := u_ws RX1 TX1 15
theorem nmX1 : ∀ a, a < 15 → ∀ b, b < 15 → a ≠ b → (TX1 a).2.1 ≠ (TX1 b).2.1 := by decide +kernel
theorem tyX1_ok : ∀ k, k < 15 → parseFieldDescriptor (TX1 k).2.2.1 = some (tyX1 k) := by decide +kernel
abbrev cX1_init : ByteArray := prog_3_method_1_code
def yX1_init : MethodName := ⟨RX1, "<init>", "(ILWeatherMast$Numbers;)V"⟩
abbrev cX1_chainIsFull : ByteArray := prog_3_method_2_code
def yX1_chainIsFull : MethodName := ⟨RX1, "chainIsFull", "()Z"⟩
abbrev cX1_addStep : ByteArray := prog_3_method_3_code
def yX1_addStep : MethodName := ⟨RX1, "addStep", "(IJLWeatherMast$Instrument;)I"⟩
abbrev cX1_throughChain : ByteArray := prog_3_method_4_code
def yX1_throughChain : MethodName := ⟨RX1, "throughChain", "(J)J"⟩
abbrev cX1_keep : ByteArray := prog_3_method_5_code
def yX1_keep : MethodName := ⟨RX1, "keep", "(J)V"⟩
abbrev cX1_isBeyondLimits : ByteArray := prog_3_method_6_code
def yX1_isBeyondLimits : MethodName := ⟨RX1, "isBeyondLimits", "(J)Z"⟩
abbrev cX1_hasRead : ByteArray := prog_3_method_7_code
def yX1_hasRead : MethodName := ⟨RX1, "hasRead", "()Z"⟩
abbrev cX1_keeps : ByteArray := prog_3_method_8_code
def yX1_keeps : MethodName := ⟨RX1, "keeps", "(I)Z"⟩
abbrev cX1_latest : ByteArray := prog_3_method_9_code
def yX1_latest : MethodName := ⟨RX1, "latest", "(I)J"⟩
abbrev cX1_latestOrZero : ByteArray := prog_3_method_10_code
def yX1_latestOrZero : MethodName := ⟨RX1, "latestOrZero", "()J"⟩
abbrev cX1_dropReadings : ByteArray := prog_3_method_11_code
def yX1_dropReadings : MethodName := ⟨RX1, "dropReadings", "()I"⟩
def RX2 : String := "WeatherMast$Numbers"
def TX2 : u_T := fun k => match k with
  | _ => ("", "", "", false)
def tyX2 : Nat → FieldType := fun k => match k with
  | _ => .int
abbrev wsX20 : List Cond := u_ws RX2 TX2 0
theorem nmX2 : ∀ a, a < 0 → ∀ b, b < 0 → a ≠ b → (TX2 a).2.1 ≠ (TX2 b).2.1 := by decide +kernel
theorem tyX2_ok : ∀ k, k < 0 → parseFieldDescriptor (TX2 k).2.2.1 = some (tyX2 k) := by decide +kernel
abbrev cX2_init : ByteArray := prog_4_method_1_code
def yX2_init : MethodName := ⟨RX2, "<init>", "(IIJJ)V"⟩
abbrev cX2_ofWidth : ByteArray := prog_4_method_10_code
def yX2_ofWidth : MethodName := ⟨RX2, "ofWidth", "(J)J"⟩
abbrev cX2_hasStep : ByteArray := prog_4_method_11_code
def yX2_hasStep : MethodName := ⟨RX2, "hasStep", "(I)Z"⟩
abbrev cX2_stepped : ByteArray := prog_4_method_12_code
def yX2_stepped : MethodName := ⟨RX2, "stepped", "(IJJ)J"⟩
abbrev cX2_greater : ByteArray := prog_4_method_13_code
def yX2_greater : MethodName := ⟨RX2, "greater", "(JJ)J"⟩
abbrev cX2_lesser : ByteArray := prog_4_method_14_code
def yX2_lesser : MethodName := ⟨RX2, "lesser", "(JJ)J"⟩
abbrev cX2_isAbove : ByteArray := prog_4_method_15_code
def yX2_isAbove : MethodName := ⟨RX2, "isAbove", "(JJ)Z"⟩
def RX3 : String := "WeatherMast$Wrapping"
def TX3 : u_T := fun k => match k with
  | 0 => ("WeatherMast$Numbers", "leastOfAll", "J", true)
  | 1 => ("WeatherMast$Numbers", "greatestOfAll", "J", true)
  | 2 => ("WeatherMast$Numbers", "width", "I", true)
  | _ => ("WeatherMast$Numbers", "lastStep", "I", true)
def tyX3 : Nat → FieldType := fun k => match k with
  | 0 => .long
  | 1 => .long
  | 2 => .int
  | _ => .int
abbrev wsX30 : List Cond := u_ws RX3 TX3 4
theorem nmX3 : ∀ a, a < 4 → ∀ b, b < 4 → a ≠ b → (TX3 a).2.1 ≠ (TX3 b).2.1 := by decide +kernel
theorem tyX3_ok : ∀ k, k < 4 → parseFieldDescriptor (TX3 k).2.2.1 = some (tyX3 k) := by decide +kernel
abbrev cX3_init : ByteArray := prog_5_method_1_code
def yX3_init : MethodName := ⟨RX3, "<init>", "(I)V"⟩
abbrev cX3_isNumber : ByteArray := prog_5_method_2_code
def yX3_isNumber : MethodName := ⟨RX3, "isNumber", "(J)Z"⟩
abbrev cX3_amount : ByteArray := prog_5_method_3_code
def yX3_amount : MethodName := ⟨RX3, "amount", "(J)J"⟩
abbrev cX3_plus : ByteArray := prog_5_method_4_code
def yX3_plus : MethodName := ⟨RX3, "plus", "(JJ)J"⟩
abbrev cX3_apart : ByteArray := prog_5_method_5_code
def yX3_apart : MethodName := ⟨RX3, "apart", "(JJ)J"⟩
abbrev cX3_toInt : ByteArray := prog_5_method_6_code
def yX3_toInt : MethodName := ⟨RX3, "toInt", "(J)I"⟩
abbrev cX3_rank : ByteArray := prog_5_method_7_code
def yX3_rank : MethodName := ⟨RX3, "rank", "(J)J"⟩
abbrev cX3_level : ByteArray := prog_5_method_8_code
def yX3_level : MethodName := ⟨RX3, "level", "(J)J"⟩
abbrev cX3_furtherStepped : ByteArray := prog_5_method_9_code
def yX3_furtherStepped : MethodName := ⟨RX3, "furtherStepped", "(IJJ)J"⟩
def RX4 : String := "WeatherMast"
def TX4 : u_T := fun k => match k with
  | 0 => ("WeatherMast", "instruments", "[LWeatherMast$Instrument;", true)
  | 1 => ("WeatherMast", "mounted", "I", false)
  | 2 => ("WeatherMast", "readingsEver", "I", false)
  | 3 => ("WeatherMast", "alarmsEver", "I", false)
  | _ => ("WeatherMast", "stepsEver", "I", false)
def tyX4 : Nat → FieldType := fun k => match k with
  | 0 => .array (.object "WeatherMast$Instrument")
  | 1 => .int
  | 2 => .int
  | 3 => .int
  | _ => .int
abbrev wsX40 : List Cond := u_ws RX4 TX4 5
theorem nmX4 : ∀ a, a < 5 → ∀ b, b < 5 → a ≠ b → (TX4 a).2.1 ≠ (TX4 b).2.1 := by decide +kernel
theorem tyX4_ok : ∀ k, k < 5 → parseFieldDescriptor (TX4 k).2.2.1 = some (tyX4 k) := by decide +kernel
abbrev cX4_init : ByteArray := prog_1_method_1_code
def yX4_init : MethodName := ⟨RX4, "<init>", "()V"⟩
abbrev cX4_mount : ByteArray := prog_1_method_2_code
def yX4_mount : MethodName := ⟨RX4, "mount", "(I)I"⟩
abbrev cX4_step : ByteArray := prog_1_method_3_code
def yX4_step : MethodName := ⟨RX4, "step", "(IIJ)I"⟩
abbrev cX4_follow : ByteArray := prog_1_method_4_code
def yX4_follow : MethodName := ⟨RX4, "follow", "(III)I"⟩
abbrev cX4_read : ByteArray := prog_1_method_5_code
def yX4_read : MethodName := ⟨RX4, "read", "(IJ)J"⟩
abbrev cX4_reading : ByteArray := prog_1_method_6_code
def yX4_reading : MethodName := ⟨RX4, "reading", "(II)J"⟩
abbrev cX4_tell : ByteArray := prog_1_method_7_code
def yX4_tell : MethodName := ⟨RX4, "tell", "(II)J"⟩
abbrev cX4_whole : ByteArray := prog_1_method_8_code
def yX4_whole : MethodName := ⟨RX4, "whole", "(I)I"⟩
abbrev cX4_limits : ByteArray := prog_1_method_9_code
def yX4_limits : MethodName := ⟨RX4, "limits", "(IJJ)Z"⟩
abbrev cX4_widest : ByteArray := prog_1_method_10_code
def yX4_widest : MethodName := ⟨RX4, "widest", "(I)J"⟩
abbrev cX4_forget : ByteArray := prog_1_method_11_code
def yX4_forget : MethodName := ⟨RX4, "forget", "(I)I"⟩
abbrev cX4_alarms : ByteArray := prog_1_method_12_code
def yX4_alarms : MethodName := ⟨RX4, "alarms", "(I)I"⟩
abbrev cX4_count : ByteArray := prog_1_method_13_code
def yX4_count : MethodName := ⟨RX4, "count", "(I)I"⟩
abbrev cX4_instrumentAt : ByteArray := prog_1_method_14_code
def yX4_instrumentAt : MethodName := ⟨RX4, "instrumentAt", "(I)LWeatherMast$Instrument;"⟩
abbrev cX4_isSort : ByteArray := prog_1_method_15_code
def yX4_isSort : MethodName := ⟨RX4, "isSort", "(I)Z"⟩
abbrev cX4_takesK : ByteArray := prog_1_method_16_code
def yX4_takesK : MethodName := ⟨RX4, "takesK", "(I)Z"⟩
abbrev cX4_numbersOf : ByteArray := prog_1_method_17_code
def yX4_numbersOf : MethodName := ⟨RX4, "numbersOf", "(I)LWeatherMast$Numbers;"⟩
def RX5 : String := "WeatherMastModel"
def TX5 : u_T := fun k => match k with
  | 0 => ("WeatherMastModel", "thrown", "I", false)
  | 1 => ("WeatherMastModel", "instruments", "I", false)
  | 2 => ("WeatherMastModel", "sorts", "[I", true)
  | 3 => ("WeatherMastModel", "chains", "[I", true)
  | 4 => ("WeatherMastModel", "steps", "[I", true)
  | 5 => ("WeatherMastModel", "sources", "[I", true)
  | 6 => ("WeatherMastModel", "told", "[J", true)
  | 7 => ("WeatherMastModel", "lows", "[J", true)
  | 8 => ("WeatherMastModel", "highs", "[J", true)
  | 9 => ("WeatherMastModel", "many", "[I", true)
  | 10 => ("WeatherMastModel", "kept", "[J", true)
  | 11 => ("WeatherMastModel", "leasts", "[J", true)
  | 12 => ("WeatherMastModel", "greatests", "[J", true)
  | 13 => ("WeatherMastModel", "swings", "[J", true)
  | 14 => ("WeatherMastModel", "sums", "[J", true)
  | 15 => ("WeatherMastModel", "alarms", "[I", true)
  | 16 => ("WeatherMastModel", "readings", "I", false)
  | 17 => ("WeatherMastModel", "allAlarms", "I", false)
  | _ => ("WeatherMastModel", "done", "I", false)
def tyX5 : Nat → FieldType := fun k => match k with
  | 0 => .int
  | 1 => .int
  | 2 => .array .int
  | 3 => .array .int
  | 4 => .array .int
  | 5 => .array .int
  | 6 => .array .long
  | 7 => .array .long
  | 8 => .array .long
  | 9 => .array .int
  | 10 => .array .long
  | 11 => .array .long
  | 12 => .array .long
  | 13 => .array .long
  | 14 => .array .long
  | 15 => .array .int
  | 16 => .int
  | 17 => .int
  | _ => .int
abbrev wsX50 : List Cond := u_ws RX5 TX5 19
theorem nmX5 : ∀ a, a < 19 → ∀ b, b < 19 → a ≠ b → (TX5 a).2.1 ≠ (TX5 b).2.1 := by decide +kernel
theorem tyX5_ok : ∀ k, k < 19 → parseFieldDescriptor (TX5 k).2.2.1 = some (tyX5 k) := by decide +kernel
abbrev cX5_init : ByteArray := prog_7_method_1_code
def yX5_init : MethodName := ⟨RX5, "<init>", "()V"⟩
abbrev cX5_thrown : ByteArray := prog_7_method_2_code
def yX5_thrown : MethodName := ⟨RX5, "thrown", "()I"⟩
abbrev cX5_fail : ByteArray := prog_7_method_3_code
def yX5_fail : MethodName := ⟨RX5, "fail", "(I)I"⟩
abbrev cX5_isInstrument : ByteArray := prog_7_method_4_code
def yX5_isInstrument : MethodName := ⟨RX5, "isInstrument", "(I)Z"⟩
abbrev cX5_isReal : ByteArray := prog_7_method_5_code
def yX5_isReal : MethodName := ⟨RX5, "isReal", "(I)Z"⟩
abbrev cX5_places : ByteArray := prog_7_method_6_code
def yX5_places : MethodName := ⟨RX5, "places", "(I)I"⟩
abbrev cX5_signBit : ByteArray := prog_7_method_7_code
def yX5_signBit : MethodName := ⟨RX5, "signBit", "(I)J"⟩
abbrev cX5_endless : ByteArray := prog_7_method_8_code
def yX5_endless : MethodName := ⟨RX5, "endless", "(I)J"⟩
abbrev cX5_one : ByteArray := prog_7_method_9_code
def yX5_one : MethodName := ⟨RX5, "one", "(I)J"⟩
abbrev cX5_cut : ByteArray := prog_7_method_10_code
def yX5_cut : MethodName := ⟨RX5, "cut", "(IJ)J"⟩
abbrev cX5_form : ByteArray := prog_7_method_11_code
def yX5_form : MethodName := ⟨RX5, "form", "(IJ)J"⟩
abbrev cX5_amountBits : ByteArray := prog_7_method_12_code
def yX5_amountBits : MethodName := ⟨RX5, "amountBits", "(IJ)J"⟩
abbrev cX5_isMinus : ByteArray := prog_7_method_13_code
def yX5_isMinus : MethodName := ⟨RX5, "isMinus", "(IJ)Z"⟩
abbrev cX5_isNone : ByteArray := prog_7_method_14_code
def yX5_isNone : MethodName := ⟨RX5, "isNone", "(IJ)Z"⟩
abbrev cX5_rank : ByteArray := prog_7_method_15_code
def yX5_rank : MethodName := ⟨RX5, "rank", "(IJ)J"⟩
abbrev cX5_height : ByteArray := prog_7_method_16_code
def yX5_height : MethodName := ⟨RX5, "height", "(IJ)J"⟩
abbrev cX5_greater : ByteArray := prog_7_method_17_code
def yX5_greater : MethodName := ⟨RX5, "greater", "(IJJ)J"⟩
abbrev cX5_lesser : ByteArray := prog_7_method_18_code
def yX5_lesser : MethodName := ⟨RX5, "lesser", "(IJJ)J"⟩
abbrev cX5_isAbove : ByteArray := prog_7_method_19_code
def yX5_isAbove : MethodName := ⟨RX5, "isAbove", "(IJJ)Z"⟩
abbrev cX5_amount : ByteArray := prog_7_method_20_code
def yX5_amount : MethodName := ⟨RX5, "amount", "(IJ)J"⟩
abbrev cX5_signed : ByteArray := prog_7_method_21_code
def yX5_signed : MethodName := ⟨RX5, "signed", "(IJZ)J"⟩
abbrev cX5_toWhole : ByteArray := prog_7_method_22_code
def yX5_toWhole : MethodName := ⟨RX5, "toWhole", "(IJI)J"⟩
abbrev cX5_changed : ByteArray := prog_7_method_23_code
def yX5_changed : MethodName := ⟨RX5, "changed", "(IIJJ)J"⟩
abbrev cX5_takes : ByteArray := prog_7_method_24_code
def yX5_takes : MethodName := ⟨RX5, "takes", "(I)Z"⟩
abbrev cX5_isStep : ByteArray := prog_7_method_25_code
def yX5_isStep : MethodName := ⟨RX5, "isStep", "(II)Z"⟩
abbrev cX5_single : ByteArray := prog_7_method_26_code
def yX5_single : MethodName := ⟨RX5, "single", "(J)F"⟩
abbrev cX5_real : ByteArray := prog_7_method_27_code
def yX5_real : MethodName := ⟨RX5, "real", "(J)D"⟩
abbrev cX5_swing : ByteArray := prog_7_method_28_code
def yX5_swing : MethodName := ⟨RX5, "swing", "(IJJ)J"⟩
abbrev cX5_sum : ByteArray := prog_7_method_29_code
def yX5_sum : MethodName := ⟨RX5, "sum", "(IJJ)J"⟩
abbrev cX5_mount : ByteArray := prog_7_method_30_code
def yX5_mount : MethodName := ⟨RX5, "mount", "(I)I"⟩
abbrev cX5_link : ByteArray := prog_7_method_31_code
def yX5_link : MethodName := ⟨RX5, "link", "(IIJI)I"⟩
abbrev cX5_step : ByteArray := prog_7_method_32_code
def yX5_step : MethodName := ⟨RX5, "step", "(IIJ)I"⟩
abbrev cX5_follow : ByteArray := prog_7_method_33_code
def yX5_follow : MethodName := ⟨RX5, "follow", "(III)I"⟩
abbrev cX5_limits : ByteArray := prog_7_method_34_code
def yX5_limits : MethodName := ⟨RX5, "limits", "(IJJ)Z"⟩
abbrev cX5_latest : ByteArray := prog_7_method_35_code
def yX5_latest : MethodName := ⟨RX5, "latest", "(I)J"⟩
abbrev cX5_through : ByteArray := prog_7_method_36_code
def yX5_through : MethodName := ⟨RX5, "through", "(IJ)J"⟩
abbrev cX5_read : ByteArray := prog_7_method_37_code
def yX5_read : MethodName := ⟨RX5, "read", "(IJ)J"⟩
abbrev cX5_forget : ByteArray := prog_7_method_38_code
def yX5_forget : MethodName := ⟨RX5, "forget", "(I)I"⟩
abbrev cX5_reading : ByteArray := prog_7_method_39_code
def yX5_reading : MethodName := ⟨RX5, "reading", "(II)J"⟩
abbrev cX5_tell : ByteArray := prog_7_method_40_code
def yX5_tell : MethodName := ⟨RX5, "tell", "(II)J"⟩
abbrev cX5_whole : ByteArray := prog_7_method_41_code
def yX5_whole : MethodName := ⟨RX5, "whole", "(I)I"⟩
abbrev cX5_widest : ByteArray := prog_7_method_42_code
def yX5_widest : MethodName := ⟨RX5, "widest", "(I)J"⟩
abbrev cX5_alarms : ByteArray := prog_7_method_43_code
def yX5_alarms : MethodName := ⟨RX5, "alarms", "(I)I"⟩
abbrev cX5_count : ByteArray := prog_7_method_44_code
def yX5_count : MethodName := ⟨RX5, "count", "(I)I"⟩
def RJx145de : String := "java/io/Serializable"
def RJxb160c : String := "java/lang/Comparable"
def RJxe99ae : String := "java/lang/Double"
abbrev cJxe99ae_isNaN_b9ae7 : ByteArray := prog_10_method_6_code
def yJxe99ae_isNaN_b9ae7 : MethodName := ⟨RJxe99ae, "isNaN", "(D)Z"⟩
abbrev cJxe99ae_doubleToLongBits_ccdee : ByteArray := prog_10_method_23_code
def yJxe99ae_doubleToLongBits_ccdee : MethodName := ⟨RJxe99ae, "doubleToLongBits", "(D)J"⟩
def RJxf58ca : String := "java/lang/Float"
abbrev cJxf58ca_isNaN_12338 : ByteArray := prog_12_method_6_code
def yJxf58ca_isNaN_12338 : MethodName := ⟨RJxf58ca, "isNaN", "(F)Z"⟩
abbrev cJxf58ca_floatToIntBits_5c35a : ByteArray := prog_12_method_24_code
def yJxf58ca_floatToIntBits_5c35a : MethodName := ⟨RJxf58ca, "floatToIntBits", "(F)I"⟩
def RJ9 : String := "java/lang/Math"
abbrev cJ9_max_f86c9 : ByteArray := prog_16_method_66_code
def yJ9_max_f86c9 : MethodName := ⟨RJ9, "max", "(JJ)J"⟩
abbrev cJ9_min_7cf53 : ByteArray := prog_16_method_69_code
def yJ9_min_7cf53 : MethodName := ⟨RJ9, "min", "(II)I"⟩
abbrev cJ9_min_f86c9 : ByteArray := prog_16_method_70_code
def yJ9_min_f86c9 : MethodName := ⟨RJ9, "min", "(JJ)J"⟩
def RJxd2413 : String := "java/lang/Number"
def RJ0 : String := "java/lang/String"
def RJxfd54e : String := "java/lang/constant/Constable"
def RJx3cf43 : String := "java/lang/constant/ConstantDesc"
def RL : String := "WeatherMastLaw"
abbrev cL_mount : ByteArray := method_3_code
def yL_mount : MethodName := ⟨RL, "mount", "(LWeatherMast;I[J)I"⟩
abbrev cL_step : ByteArray := method_4_code
def yL_step : MethodName := ⟨RL, "step", "(LWeatherMast;IIJ[J)I"⟩
abbrev cL_follow : ByteArray := method_5_code
def yL_follow : MethodName := ⟨RL, "follow", "(LWeatherMast;III[J)I"⟩
abbrev cL_read : ByteArray := method_6_code
def yL_read : MethodName := ⟨RL, "read", "(LWeatherMast;IJ[J)I"⟩
abbrev cL_reading : ByteArray := method_7_code
def yL_reading : MethodName := ⟨RL, "reading", "(LWeatherMast;II[J)I"⟩
abbrev cL_tell : ByteArray := method_8_code
def yL_tell : MethodName := ⟨RL, "tell", "(LWeatherMast;II[J)I"⟩
abbrev cL_whole : ByteArray := method_9_code
def yL_whole : MethodName := ⟨RL, "whole", "(LWeatherMast;I[J)I"⟩
abbrev cL_limits : ByteArray := method_10_code
def yL_limits : MethodName := ⟨RL, "limits", "(LWeatherMast;IJJ[J)I"⟩
abbrev cL_widest : ByteArray := method_11_code
def yL_widest : MethodName := ⟨RL, "widest", "(LWeatherMast;I[J)I"⟩
abbrev cL_forget : ByteArray := method_12_code
def yL_forget : MethodName := ⟨RL, "forget", "(LWeatherMast;I[J)I"⟩
abbrev cL_alarms : ByteArray := method_13_code
def yL_alarms : MethodName := ⟨RL, "alarms", "(LWeatherMast;I[J)I"⟩
abbrev cL_law : ByteArray := code
def yL_law : MethodName := ⟨RL, "law", "([I)Z"⟩
abbrev vwCl : List vw_C := [(RX0, TX0, 11), (RX1, TX1, 15), (RX3, TX3, 4), (RX4, TX4, 5), (RX5, TX5, 19)]
/-! one list of words for all methods: the good ones of the tables -/
def aw : List Cond := lw_tbl.filter goodWord
theorem aw_of {w : Cond} (h : w ∈ tables_1) (g : goodWord w = true) : w ∈ aw := List.mem_filter.mpr ⟨List.mem_append_right _ h, g⟩
theorem aw_t1 {w : Cond} (i : Nat) (h : tables_1_1[i]? = some w) (g : goodWord w = true) : w ∈ aw := aw_of (List.mem_append_left _ (List.mem_of_getElem? h)) g
theorem aw_t2 {w : Cond} (i : Nat) (h : tables_1_2[i]? = some w) (g : goodWord w = true) : w ∈ aw := aw_of (List.mem_append_right _ (List.mem_append_left _ (List.mem_of_getElem? h))) g
theorem aw_t3 {w : Cond} (i : Nat) (h : tables_1_3[i]? = some w) (g : goodWord w = true) : w ∈ aw := aw_of (List.mem_append_right _ (List.mem_append_right _ (List.mem_append_left _ (List.mem_of_getElem? h)))) g
theorem aw_t4 {w : Cond} (i : Nat) (h : tables_1_4[i]? = some w) (g : goodWord w = true) : w ∈ aw := aw_of (List.mem_append_right _ (List.mem_append_right _ (List.mem_append_right _ (List.mem_of_getElem? h)))) g
theorem aw_in {w : Cond} (h : w ∈ aw) : w ∈ lw_tbl := (List.mem_filter.mp h).1
theorem aw_good {w : Cond} (h : w ∈ aw) : goodWord w = true := (List.mem_filter.mp h).2
theorem aw_sel {q : MethodName × Nat} (h : q ∈ lw_privs) (g : goodWord (Cond.selects q.1.cls q.1 q.1) = true) : Cond.selects q.1.cls q.1 q.1 ∈ aw := List.mem_filter.mpr ⟨List.mem_append_left _ (List.mem_map.mpr ⟨q, h, rfl⟩), g⟩
theorem qw1_0 : Cond.initialized "WeatherMastLaw" ∈ aw := aw_t1 0 rfl rfl
theorem qw1_1 : Cond.initialized "WeatherMast" ∈ aw := aw_t1 1 rfl rfl
theorem qw1_2 : Cond.initialized "WeatherMastModel" ∈ aw := aw_t1 2 rfl rfl
theorem qw1_3 : Cond.initialized "java/lang/Throwable" ∈ aw := aw_t1 3 rfl rfl
theorem qw1_4 : Cond.initialized "java/lang/Exception" ∈ aw := aw_t1 4 rfl rfl
theorem qw1_5 : Cond.initialized "java/lang/RuntimeException" ∈ aw := aw_t1 5 rfl rfl
theorem qw1_6 : Cond.initialized "java/lang/IllegalArgumentException" ∈ aw := aw_t1 6 rfl rfl
theorem qw1_7 : Cond.initialized "java/lang/UnsupportedOperationException" ∈ aw := aw_t1 7 rfl rfl
theorem qw1_8 : Cond.initialized "WeatherMast$Instrument" ∈ aw := aw_t1 8 rfl rfl
theorem qw1_9 : Cond.initialized "WeatherMast$Numbers" ∈ aw := aw_t1 9 rfl rfl
theorem qw1_10 : Cond.initialized "WeatherMast$Wrapping" ∈ aw := aw_t1 10 rfl rfl
theorem qw1_11 : Cond.initialized "WeatherMast$Floating" ∈ aw := aw_t1 11 rfl rfl
theorem qw1_12 : Cond.initialized "java/lang/IndexOutOfBoundsException" ∈ aw := aw_t1 12 rfl rfl
theorem qw1_13 : Cond.initialized "java/lang/IllegalStateException" ∈ aw := aw_t1 13 rfl rfl
theorem qw1_14 : Cond.initialized "java/lang/Math" ∈ aw := aw_t1 14 rfl rfl
theorem qw1_15 : Cond.initialized "java/lang/Number" ∈ aw := aw_t1 15 rfl rfl
theorem qw1_16 : Cond.initialized "java/lang/Float" ∈ aw := aw_t1 16 rfl rfl
theorem qw1_17 : Cond.initialized "java/lang/Double" ∈ aw := aw_t1 17 rfl rfl
theorem qw1_18 : Cond.initialized "java/util/NoSuchElementException" ∈ aw := aw_t1 18 rfl rfl
theorem qw1_19 : Cond.classLink "WeatherMastLaw" (8) "WeatherMast" ∈ aw := aw_t1 19 rfl rfl
theorem qw1_20 : Cond.instantiable "WeatherMast" (5) ∈ aw := aw_t1 20 rfl rfl
theorem qw1_21 : Cond.methodLink "WeatherMastLaw" (59) yX4_init ∈ aw := aw_t1 21 rfl rfl
theorem qw1_22 : Cond.instanceMethod yX4_init ∈ aw := aw_t1 22 rfl rfl
theorem qw1_23 : Cond.code yX4_init prog_1_method_1_code (1) (Option.none : Option Jvm.ClassFile.FieldType) ∈ aw := aw_t1 23 rfl rfl
theorem qw1_24 : Cond.methodLink "WeatherMast" (1) ⟨"java/lang/Object", "<init>", "()V"⟩ ∈ aw := aw_t1 24 rfl rfl
theorem qw1_25 : Cond.instanceMethod ⟨"java/lang/Object", "<init>", "()V"⟩ ∈ aw := aw_t1 25 rfl rfl
theorem qw1_26 : Cond.code ⟨"java/lang/Object", "<init>", "()V"⟩ object_method_1_code (1) (Option.none : Option Jvm.ClassFile.FieldType) ∈ aw := aw_t1 26 rfl rfl
theorem qw1_27 : Cond.classLink "WeatherMast" (9) "WeatherMast$Instrument" ∈ aw := aw_t1 27 rfl rfl
theorem qt1_28 : Cond.arrayOver (FieldType.object "WeatherMast$Instrument") ∈ lw_tbl := List.mem_append_right _ (List.mem_append_left _ (List.mem_of_getElem? (i := 28) rfl))
theorem qw1_29 : Cond.fieldLink "WeatherMast" (11) "WeatherMast" "instruments" "[LWeatherMast$Instrument;" ∈ aw := aw_t1 29 rfl rfl
theorem qw1_30 : Cond.fieldLink "WeatherMast" (26) "WeatherMast" "mounted" "I" ∈ aw := aw_t1 30 rfl rfl
theorem qw1_31 : Cond.fieldLink "WeatherMast" (99) "WeatherMast" "readingsEver" "I" ∈ aw := aw_t1 31 rfl rfl
theorem qw1_32 : Cond.fieldLink "WeatherMast" (114) "WeatherMast" "alarmsEver" "I" ∈ aw := aw_t1 32 rfl rfl
theorem qw1_33 : Cond.fieldLink "WeatherMast" (102) "WeatherMast" "stepsEver" "I" ∈ aw := aw_t1 33 rfl rfl
theorem qw1_34 : Cond.laysFinal "WeatherMast" "WeatherMast" "instruments" "[LWeatherMast$Instrument;" ∈ aw := aw_t1 34 rfl rfl
theorem qw1_36 : Cond.lays "WeatherMast" "WeatherMast" "mounted" "I" ∈ aw := aw_t1 36 rfl rfl
theorem qw1_38 : Cond.lays "WeatherMast" "WeatherMast" "readingsEver" "I" ∈ aw := aw_t1 38 rfl rfl
theorem qw1_40 : Cond.lays "WeatherMast" "WeatherMast" "alarmsEver" "I" ∈ aw := aw_t1 40 rfl rfl
theorem qw1_42 : Cond.lays "WeatherMast" "WeatherMast" "stepsEver" "I" ∈ aw := aw_t1 42 rfl rfl
theorem qw1_44 : Cond.superclass "WeatherMast" "java/lang/Object" ∈ aw := aw_t1 44 rfl rfl
theorem qw1_45 : Cond.methodLink "WeatherMastLaw" (110) yX4_count ∈ aw := aw_t1 45 rfl rfl
theorem qw1_46 : Cond.instanceMethod yX4_count ∈ aw := aw_t1 46 rfl rfl
theorem qw1_47 : Cond.selects "WeatherMast" yX4_count yX4_count ∈ aw := aw_t1 47 rfl rfl
theorem qw1_48 : Cond.code yX4_count prog_1_method_13_code (2) (Option.some FieldType.int) ∈ aw := aw_t1 48 rfl rfl
theorem qw1_49 : Cond.methodLink "WeatherMastLaw" (63) yL_mount ∈ aw := aw_t1 49 rfl rfl
theorem qw1_50 : Cond.static yL_mount ∈ aw := aw_t1 50 rfl rfl
theorem qw1_51 : Cond.codeWith yL_mount method_3_code (4) (Option.some FieldType.int) [((0), (9), (12), (13)), ((0), (9), (15), (15))] ∈ aw := aw_t1 51 rfl rfl
theorem qw1_52 : Cond.classLink "WeatherMastLaw" (13) "java/lang/IllegalArgumentException" ∈ aw := aw_t1 52 rfl rfl
theorem qw1_53 : Cond.classLink "WeatherMastLaw" (15) "java/lang/UnsupportedOperationException" ∈ aw := aw_t1 53 rfl rfl
theorem qw1_54 : Cond.methodLink "WeatherMastLaw" (7) yX4_mount ∈ aw := aw_t1 54 rfl rfl
theorem qw1_55 : Cond.instanceMethod yX4_mount ∈ aw := aw_t1 55 rfl rfl
theorem qw1_56 : Cond.selects "WeatherMast" yX4_mount yX4_mount ∈ aw := aw_t1 56 rfl rfl
theorem qw1_57 : Cond.code yX4_mount prog_1_method_2_code (3) (Option.some FieldType.int) ∈ aw := aw_t1 57 rfl rfl
theorem qw1_58 : Cond.methodLink "WeatherMast" (15) yX4_isSort ∈ aw := aw_t1 58 rfl rfl
theorem qw1_59 : Cond.static yX4_isSort ∈ aw := aw_t1 59 rfl rfl
theorem qw1_60 : Cond.code yX4_isSort prog_1_method_15_code (1) (Option.some FieldType.boolean) ∈ aw := aw_t1 60 rfl rfl
theorem qw1_61 : Cond.classLink "WeatherMast" (19) "java/lang/IllegalArgumentException" ∈ aw := aw_t1 61 rfl rfl
theorem qw1_62 : Cond.instantiable "java/lang/IllegalArgumentException" (6) ∈ aw := aw_t1 62 rfl rfl
theorem qt1_63 : Cond.castable "java/lang/IllegalArgumentException" "java/lang/IllegalArgumentException" ∈ lw_tbl := List.mem_append_right _ (List.mem_append_left _ (List.mem_of_getElem? (i := 63) rfl))
theorem qt1_64 : Cond.declares ⟨"java/lang/RuntimeException", "<init>", "()V"⟩ ∈ lw_tbl := List.mem_append_right _ (List.mem_append_left _ (List.mem_of_getElem? (i := 64) rfl))
theorem qt1_65 : Cond.declares ⟨"java/lang/RuntimeException", "<init>", "(Ljava/lang/String;)V"⟩ ∈ lw_tbl := List.mem_append_right _ (List.mem_append_left _ (List.mem_of_getElem? (i := 65) rfl))
theorem qt1_66 : Cond.declares ⟨"java/lang/Exception", "<init>", "()V"⟩ ∈ lw_tbl := List.mem_append_right _ (List.mem_append_left _ (List.mem_of_getElem? (i := 66) rfl))
theorem qt1_67 : Cond.declares ⟨"java/lang/Exception", "<init>", "(Ljava/lang/String;)V"⟩ ∈ lw_tbl := List.mem_append_right _ (List.mem_append_left _ (List.mem_of_getElem? (i := 67) rfl))
theorem qt1_68 : Cond.declares ⟨"java/lang/Throwable", "<init>", "()V"⟩ ∈ lw_tbl := List.mem_append_right _ (List.mem_append_left _ (List.mem_of_getElem? (i := 68) rfl))
theorem qt1_69 : Cond.declares ⟨"java/lang/Throwable", "<init>", "(Ljava/lang/String;)V"⟩ ∈ lw_tbl := List.mem_append_right _ (List.mem_append_left _ (List.mem_of_getElem? (i := 69) rfl))
theorem qw1_70 : Cond.selects "java/lang/IllegalArgumentException" ⟨"java/lang/Throwable", "fillInStackTrace", "(I)Ljava/lang/Throwable;"⟩ ⟨"java/lang/Throwable", "fillInStackTrace", "(I)Ljava/lang/Throwable;"⟩ ∈ aw := aw_t1 70 rfl rfl
theorem qw1_71 : Cond.selects "java/lang/IllegalArgumentException" ⟨"java/lang/Throwable", "fillInStackTrace", "()Ljava/lang/Throwable;"⟩ ⟨"java/lang/Throwable", "fillInStackTrace", "()Ljava/lang/Throwable;"⟩ ∈ aw := aw_t1 71 rfl rfl
theorem qw1_72 : Cond.lays "java/lang/IllegalArgumentException" "java/lang/Throwable" "cause" "Ljava/lang/Throwable;" ∈ aw := aw_t1 72 rfl rfl
theorem qw1_73 : Cond.lays "java/lang/Throwable" "java/lang/Throwable" "cause" "Ljava/lang/Throwable;" ∈ aw := aw_t1 73 rfl rfl
theorem qw1_74 : Cond.lays "java/lang/IllegalArgumentException" "java/lang/Throwable" "stackTrace" "[Ljava/lang/StackTraceElement;" ∈ aw := aw_t1 74 rfl rfl
theorem qw1_75 : Cond.lays "java/lang/Throwable" "java/lang/Throwable" "stackTrace" "[Ljava/lang/StackTraceElement;" ∈ aw := aw_t1 75 rfl rfl
theorem qw1_76 : Cond.lays "java/lang/IllegalArgumentException" "java/lang/Throwable" "suppressedExceptions" "Ljava/util/List;" ∈ aw := aw_t1 76 rfl rfl
theorem qw1_77 : Cond.lays "java/lang/Throwable" "java/lang/Throwable" "suppressedExceptions" "Ljava/util/List;" ∈ aw := aw_t1 77 rfl rfl
theorem qw1_78 : Cond.lays "java/lang/IllegalArgumentException" "java/lang/Throwable" "detailMessage" "Ljava/lang/String;" ∈ aw := aw_t1 78 rfl rfl
theorem qw1_79 : Cond.lays "java/lang/Throwable" "java/lang/Throwable" "detailMessage" "Ljava/lang/String;" ∈ aw := aw_t1 79 rfl rfl
theorem qw1_80 : Cond.lays "java/lang/IllegalArgumentException" "java/lang/Throwable" "backtrace" "Ljava/lang/Object;" ∈ aw := aw_t1 80 rfl rfl
theorem qw1_81 : Cond.lays "java/lang/Throwable" "java/lang/Throwable" "backtrace" "Ljava/lang/Object;" ∈ aw := aw_t1 81 rfl rfl
theorem qw1_82 : Cond.fieldLink "java/lang/Throwable" (198) "java/lang/Throwable" "backtrace" "Ljava/lang/Object;" ∈ aw := aw_t1 82 rfl rfl
theorem qw1_83 : Cond.superclass "java/lang/Throwable" "java/lang/Object" ∈ aw := aw_t1 83 rfl rfl
theorem qw1_84 : Cond.instanceMethod ⟨"java/lang/Throwable", "<init>", "()V"⟩ ∈ aw := aw_t1 84 rfl rfl
theorem qw1_85 : Cond.code ⟨"java/lang/Throwable", "<init>", "()V"⟩ prog_20_method_1_code (1) (Option.none : Option Jvm.ClassFile.FieldType) ∈ aw := aw_t1 85 rfl rfl
theorem qw1_86 : Cond.methodLink "java/lang/Throwable" (1) ⟨"java/lang/Object", "<init>", "()V"⟩ ∈ aw := aw_t1 86 rfl rfl
theorem qw1_87 : Cond.fieldLink "java/lang/Throwable" (13) "java/lang/Throwable" "UNASSIGNED_STACK" "[Ljava/lang/StackTraceElement;" ∈ aw := aw_t1 87 rfl rfl
theorem qt1_88 : Cond.laysStatic "java/lang/Throwable" "UNASSIGNED_STACK" "[Ljava/lang/StackTraceElement;" ∈ lw_tbl := List.mem_append_right _ (List.mem_append_left _ (List.mem_of_getElem? (i := 88) rfl))
theorem qw1_89 : Cond.fieldLink "java/lang/Throwable" (20) "java/lang/Throwable" "SUPPRESSED_SENTINEL" "Ljava/util/List;" ∈ aw := aw_t1 89 rfl rfl
theorem qt1_90 : Cond.laysStatic "java/lang/Throwable" "SUPPRESSED_SENTINEL" "Ljava/util/List;" ∈ lw_tbl := List.mem_append_right _ (List.mem_append_left _ (List.mem_of_getElem? (i := 90) rfl))
theorem qw1_91 : Cond.methodLink "java/lang/Throwable" (27) ⟨"java/lang/Throwable", "fillInStackTrace", "()Ljava/lang/Throwable;"⟩ ∈ aw := aw_t1 91 rfl rfl
theorem qw1_92 : Cond.instanceMethod ⟨"java/lang/Throwable", "fillInStackTrace", "()Ljava/lang/Throwable;"⟩ ∈ aw := aw_t1 92 rfl rfl
theorem qw1_93 : Cond.sameMethod "java/lang/Throwable" "java/lang/Throwable" "fillInStackTrace" "()Ljava/lang/Throwable;" ∈ aw := aw_t1 93 rfl rfl
theorem qw1_94 : Cond.selects "java/lang/IllegalStateException" ⟨"java/lang/Throwable", "fillInStackTrace", "()Ljava/lang/Throwable;"⟩ ⟨"java/lang/Throwable", "fillInStackTrace", "()Ljava/lang/Throwable;"⟩ ∈ aw := aw_t1 94 rfl rfl
theorem qw1_95 : Cond.selects "java/lang/IndexOutOfBoundsException" ⟨"java/lang/Throwable", "fillInStackTrace", "()Ljava/lang/Throwable;"⟩ ⟨"java/lang/Throwable", "fillInStackTrace", "()Ljava/lang/Throwable;"⟩ ∈ aw := aw_t1 95 rfl rfl
theorem qw1_96 : Cond.selects "java/lang/UnsupportedOperationException" ⟨"java/lang/Throwable", "fillInStackTrace", "()Ljava/lang/Throwable;"⟩ ⟨"java/lang/Throwable", "fillInStackTrace", "()Ljava/lang/Throwable;"⟩ ∈ aw := aw_t1 96 rfl rfl
theorem qw1_97 : Cond.selects "java/util/NoSuchElementException" ⟨"java/lang/Throwable", "fillInStackTrace", "()Ljava/lang/Throwable;"⟩ ⟨"java/lang/Throwable", "fillInStackTrace", "()Ljava/lang/Throwable;"⟩ ∈ aw := aw_t1 97 rfl rfl
theorem qt1_98 : Cond.codeSync ⟨"java/lang/Throwable", "fillInStackTrace", "()Ljava/lang/Throwable;"⟩ prog_20_method_18_code (1) (Option.some (FieldType.object "java/lang/Throwable")) ∈ lw_tbl := List.mem_append_right _ (List.mem_append_left _ (List.mem_of_getElem? (i := 98) rfl))
theorem qw1_99 : Cond.methodLink "java/lang/Throwable" (202) ⟨"java/lang/Throwable", "fillInStackTrace", "(I)Ljava/lang/Throwable;"⟩ ∈ aw := aw_t1 99 rfl rfl
theorem qt1_100 : Cond.privateMethod ⟨"java/lang/Throwable", "fillInStackTrace", "(I)Ljava/lang/Throwable;"⟩ ∈ lw_tbl := List.mem_append_right _ (List.mem_append_left _ (List.mem_of_getElem? (i := 100) rfl))
theorem qw1_101 : Cond.instanceMethod ⟨"java/lang/Throwable", "fillInStackTrace", "(I)Ljava/lang/Throwable;"⟩ ∈ aw := aw_t1 101 rfl rfl
theorem qw1_102 : Cond.instantiable "java/lang/Throwable" (6) ∈ aw := aw_t1 102 rfl rfl
theorem qw1_103 : Cond.native ⟨"java/lang/Throwable", "fillInStackTrace", "(I)Ljava/lang/Throwable;"⟩ ∈ aw := aw_t1 103 rfl rfl
theorem qt1_104 : Cond.stringRef "WeatherMast" (21) "no such sort" ∈ lw_tbl := List.mem_append_right _ (List.mem_append_left _ (List.mem_of_getElem? (i := 104) rfl))
theorem qw1_105 : Cond.methodLink "WeatherMast" (23) ⟨"java/lang/IllegalArgumentException", "<init>", "(Ljava/lang/String;)V"⟩ ∈ aw := aw_t1 105 rfl rfl
theorem qw1_106 : Cond.instanceMethod ⟨"java/lang/IllegalArgumentException", "<init>", "(Ljava/lang/String;)V"⟩ ∈ aw := aw_t1 106 rfl rfl
theorem qw1_107 : Cond.code ⟨"java/lang/IllegalArgumentException", "<init>", "(Ljava/lang/String;)V"⟩ prog_13_method_2_code (2) (Option.none : Option Jvm.ClassFile.FieldType) ∈ aw := aw_t1 107 rfl rfl
theorem qw1_108 : Cond.methodLink "java/lang/IllegalArgumentException" (7) ⟨"java/lang/RuntimeException", "<init>", "(Ljava/lang/String;)V"⟩ ∈ aw := aw_t1 108 rfl rfl
theorem qw1_109 : Cond.instanceMethod ⟨"java/lang/RuntimeException", "<init>", "(Ljava/lang/String;)V"⟩ ∈ aw := aw_t1 109 rfl rfl
theorem qw1_110 : Cond.code ⟨"java/lang/RuntimeException", "<init>", "(Ljava/lang/String;)V"⟩ prog_18_method_2_code (2) (Option.none : Option Jvm.ClassFile.FieldType) ∈ aw := aw_t1 110 rfl rfl
theorem qw1_111 : Cond.methodLink "java/lang/RuntimeException" (7) ⟨"java/lang/Exception", "<init>", "(Ljava/lang/String;)V"⟩ ∈ aw := aw_t1 111 rfl rfl
theorem qw1_112 : Cond.instanceMethod ⟨"java/lang/Exception", "<init>", "(Ljava/lang/String;)V"⟩ ∈ aw := aw_t1 112 rfl rfl
theorem qw1_113 : Cond.code ⟨"java/lang/Exception", "<init>", "(Ljava/lang/String;)V"⟩ prog_11_method_2_code (2) (Option.none : Option Jvm.ClassFile.FieldType) ∈ aw := aw_t1 113 rfl rfl
theorem qw1_114 : Cond.methodLink "java/lang/Exception" (7) ⟨"java/lang/Throwable", "<init>", "(Ljava/lang/String;)V"⟩ ∈ aw := aw_t1 114 rfl rfl
theorem qw1_115 : Cond.instanceMethod ⟨"java/lang/Throwable", "<init>", "(Ljava/lang/String;)V"⟩ ∈ aw := aw_t1 115 rfl rfl
theorem qw1_116 : Cond.code ⟨"java/lang/Throwable", "<init>", "(Ljava/lang/String;)V"⟩ prog_20_method_2_code (2) (Option.none : Option Jvm.ClassFile.FieldType) ∈ aw := aw_t1 116 rfl rfl
theorem qw1_117 : Cond.fieldLink "java/lang/Throwable" (198) "java/lang/Throwable" "backtrace" "Ljava/lang/Object;" ∈ aw := aw_t1 117 rfl rfl
theorem qw1_118 : Cond.fieldLink "java/lang/Throwable" (31) "java/lang/Throwable" "detailMessage" "Ljava/lang/String;" ∈ aw := aw_t1 118 rfl rfl
theorem qw1_119 : Cond.fieldLink "java/lang/Throwable" (7) "java/lang/Throwable" "cause" "Ljava/lang/Throwable;" ∈ aw := aw_t1 119 rfl rfl
theorem qw1_120 : Cond.fieldLink "java/lang/Throwable" (17) "java/lang/Throwable" "stackTrace" "[Ljava/lang/StackTraceElement;" ∈ aw := aw_t1 120 rfl rfl
theorem qw1_121 : Cond.fieldLink "java/lang/Throwable" (24) "java/lang/Throwable" "suppressedExceptions" "Ljava/util/List;" ∈ aw := aw_t1 121 rfl rfl
theorem qw1_126 : Cond.lays "java/lang/IllegalArgumentException" "java/lang/Throwable" "depth" "I" ∈ aw := aw_t1 126 rfl rfl
theorem qw1_129 : Cond.superclass "java/lang/IllegalArgumentException" "java/lang/RuntimeException" ∈ aw := aw_t1 129 rfl rfl
theorem qw1_130 : Cond.arrayClass FieldType.byte ∈ aw := aw_t1 130 rfl rfl
theorem qw1_131 : Cond.classLink "WeatherMast" (30) "java/lang/UnsupportedOperationException" ∈ aw := aw_t1 131 rfl rfl
theorem qw1_132 : Cond.instantiable "java/lang/UnsupportedOperationException" (6) ∈ aw := aw_t1 132 rfl rfl
theorem qt1_133 : Cond.castable "java/lang/UnsupportedOperationException" "java/lang/UnsupportedOperationException" ∈ lw_tbl := List.mem_append_right _ (List.mem_append_left _ (List.mem_of_getElem? (i := 133) rfl))
theorem qw1_134 : Cond.selects "java/lang/UnsupportedOperationException" ⟨"java/lang/Throwable", "fillInStackTrace", "(I)Ljava/lang/Throwable;"⟩ ⟨"java/lang/Throwable", "fillInStackTrace", "(I)Ljava/lang/Throwable;"⟩ ∈ aw := aw_t1 134 rfl rfl
theorem qw1_135 : Cond.lays "java/lang/UnsupportedOperationException" "java/lang/Throwable" "cause" "Ljava/lang/Throwable;" ∈ aw := aw_t1 135 rfl rfl
theorem qw1_136 : Cond.lays "java/lang/UnsupportedOperationException" "java/lang/Throwable" "stackTrace" "[Ljava/lang/StackTraceElement;" ∈ aw := aw_t1 136 rfl rfl
theorem qw1_137 : Cond.lays "java/lang/UnsupportedOperationException" "java/lang/Throwable" "suppressedExceptions" "Ljava/util/List;" ∈ aw := aw_t1 137 rfl rfl
theorem qw1_138 : Cond.lays "java/lang/UnsupportedOperationException" "java/lang/Throwable" "detailMessage" "Ljava/lang/String;" ∈ aw := aw_t1 138 rfl rfl
theorem qw1_139 : Cond.lays "java/lang/UnsupportedOperationException" "java/lang/Throwable" "backtrace" "Ljava/lang/Object;" ∈ aw := aw_t1 139 rfl rfl
theorem qt1_140 : Cond.stringRef "WeatherMast" (32) "there are eight instruments" ∈ lw_tbl := List.mem_append_right _ (List.mem_append_left _ (List.mem_of_getElem? (i := 140) rfl))
theorem qw1_141 : Cond.methodLink "WeatherMast" (34) ⟨"java/lang/UnsupportedOperationException", "<init>", "(Ljava/lang/String;)V"⟩ ∈ aw := aw_t1 141 rfl rfl
theorem qw1_142 : Cond.instanceMethod ⟨"java/lang/UnsupportedOperationException", "<init>", "(Ljava/lang/String;)V"⟩ ∈ aw := aw_t1 142 rfl rfl
theorem qw1_143 : Cond.code ⟨"java/lang/UnsupportedOperationException", "<init>", "(Ljava/lang/String;)V"⟩ prog_21_method_2_code (2) (Option.none : Option Jvm.ClassFile.FieldType) ∈ aw := aw_t1 143 rfl rfl
theorem qw1_144 : Cond.methodLink "java/lang/UnsupportedOperationException" (7) ⟨"java/lang/RuntimeException", "<init>", "(Ljava/lang/String;)V"⟩ ∈ aw := aw_t1 144 rfl rfl
theorem qw1_145 : Cond.lays "java/lang/UnsupportedOperationException" "java/lang/Throwable" "depth" "I" ∈ aw := aw_t1 145 rfl rfl
theorem qw1_146 : Cond.superclass "java/lang/UnsupportedOperationException" "java/lang/RuntimeException" ∈ aw := aw_t1 146 rfl rfl
theorem qw1_147 : Cond.instantiable "WeatherMast$Instrument" (15) ∈ aw := aw_t1 147 rfl rfl
theorem qw1_148 : Cond.methodLink "WeatherMast" (35) yX4_numbersOf ∈ aw := aw_t1 148 rfl rfl
theorem qw1_149 : Cond.static yX4_numbersOf ∈ aw := aw_t1 149 rfl rfl
theorem qw1_150 : Cond.code yX4_numbersOf prog_1_method_17_code (1) (Option.some (FieldType.object "WeatherMast$Numbers")) ∈ aw := aw_t1 150 rfl rfl
theorem qw1_151 : Cond.classLink "WeatherMast" (180) "WeatherMast$Wrapping" ∈ aw := aw_t1 151 rfl rfl
theorem qw1_152 : Cond.instantiable "WeatherMast$Wrapping" (4) ∈ aw := aw_t1 152 rfl rfl
theorem qw1_153 : Cond.methodLink "WeatherMast" (182) yX3_init ∈ aw := aw_t1 153 rfl rfl
theorem qw1_154 : Cond.instanceMethod yX3_init ∈ aw := aw_t1 154 rfl rfl
theorem qw1_155 : Cond.code yX3_init prog_5_method_1_code (2) (Option.none : Option Jvm.ClassFile.FieldType) ∈ aw := aw_t1 155 rfl rfl
theorem qw1_156 : Cond.constantLong "WeatherMast$Wrapping" (3) (-1) ∈ aw := aw_t1 156 rfl rfl
theorem qw1_157 : Cond.methodLink "WeatherMast$Wrapping" (5) yX2_init ∈ aw := aw_t1 157 rfl rfl
theorem qw1_158 : Cond.instanceMethod yX2_init ∈ aw := aw_t1 158 rfl rfl
theorem qw1_159 : Cond.code yX2_init prog_4_method_1_code (7) (Option.none : Option Jvm.ClassFile.FieldType) ∈ aw := aw_t1 159 rfl rfl
theorem qw1_160 : Cond.methodLink "WeatherMast$Numbers" (3) ⟨"java/lang/Object", "<init>", "()V"⟩ ∈ aw := aw_t1 160 rfl rfl
theorem qw1_161 : Cond.fieldLink "WeatherMast$Numbers" (18) "WeatherMast$Numbers" "leastOfAll" "J" ∈ aw := aw_t1 161 rfl rfl
theorem qw1_162 : Cond.fieldLink "WeatherMast$Instrument" (19) "WeatherMast$Numbers" "leastOfAll" "J" ∈ aw := aw_t1 162 rfl rfl
theorem qw1_163 : Cond.fieldLink "WeatherMast$Numbers" (22) "WeatherMast$Numbers" "greatestOfAll" "J" ∈ aw := aw_t1 163 rfl rfl
theorem qw1_164 : Cond.fieldLink "WeatherMast$Instrument" (28) "WeatherMast$Numbers" "greatestOfAll" "J" ∈ aw := aw_t1 164 rfl rfl
theorem qw1_165 : Cond.fieldLink "WeatherMast$Numbers" (9) "WeatherMast$Numbers" "width" "I" ∈ aw := aw_t1 165 rfl rfl
theorem qw1_166 : Cond.fieldLink "WeatherMast$Numbers" (15) "WeatherMast$Numbers" "lastStep" "I" ∈ aw := aw_t1 166 rfl rfl
theorem qw1_167 : Cond.laysFinal "WeatherMast$Wrapping" "WeatherMast$Numbers" "leastOfAll" "J" ∈ aw := aw_t1 167 rfl rfl
theorem qw1_169 : Cond.laysFinal "WeatherMast$Wrapping" "WeatherMast$Numbers" "greatestOfAll" "J" ∈ aw := aw_t1 169 rfl rfl
theorem qw1_171 : Cond.laysFinal "WeatherMast$Wrapping" "WeatherMast$Numbers" "width" "I" ∈ aw := aw_t1 171 rfl rfl
theorem qw1_173 : Cond.laysFinal "WeatherMast$Wrapping" "WeatherMast$Numbers" "lastStep" "I" ∈ aw := aw_t1 173 rfl rfl
theorem qw1_175 : Cond.superclass "WeatherMast$Wrapping" "WeatherMast$Numbers" ∈ aw := aw_t1 175 rfl rfl
theorem qw1_176 : Cond.classLink "WeatherMast" (185) "WeatherMast$Floating" ∈ aw := aw_t1 176 rfl rfl
theorem qw1_177 : Cond.instantiable "WeatherMast$Floating" (11) ∈ aw := aw_t1 177 rfl rfl
theorem qw1_178 : Cond.methodLink "WeatherMast" (187) yX0_init ∈ aw := aw_t1 178 rfl rfl
theorem qw1_179 : Cond.instanceMethod yX0_init ∈ aw := aw_t1 179 rfl rfl
theorem qw1_180 : Cond.code yX0_init prog_2_method_1_code (3) (Option.none : Option Jvm.ClassFile.FieldType) ∈ aw := aw_t1 180 rfl rfl
theorem qw1_181 : Cond.constantLong "WeatherMast$Floating" (3) (-1) ∈ aw := aw_t1 181 rfl rfl
theorem qw1_182 : Cond.methodLink "WeatherMast$Floating" (5) yX0_infinityOf ∈ aw := aw_t1 182 rfl rfl
theorem qw1_183 : Cond.static yX0_infinityOf ∈ aw := aw_t1 183 rfl rfl
theorem qw1_184 : Cond.code yX0_infinityOf prog_2_method_2_code (2) (Option.some FieldType.long) ∈ aw := aw_t1 184 rfl rfl
theorem qw1_185 : Cond.methodLink "WeatherMast$Floating" (11) yX2_init ∈ aw := aw_t1 185 rfl rfl
theorem qw1_186 : Cond.fieldLink "WeatherMast$Floating" (17) "WeatherMast$Floating" "fractionBits" "I" ∈ aw := aw_t1 186 rfl rfl
theorem qw1_187 : Cond.fieldLink "WeatherMast$Floating" (21) "WeatherMast$Floating" "signMask" "J" ∈ aw := aw_t1 187 rfl rfl
theorem qw1_188 : Cond.fieldLink "WeatherMast$Floating" (25) "WeatherMast$Floating" "infinity" "J" ∈ aw := aw_t1 188 rfl rfl
theorem qw1_189 : Cond.fieldLink "WeatherMast$Floating" (28) "WeatherMast$Floating" "bias" "I" ∈ aw := aw_t1 189 rfl rfl
theorem qw1_190 : Cond.fieldLink "WeatherMast$Floating" (31) "WeatherMast$Floating" "one" "J" ∈ aw := aw_t1 190 rfl rfl
theorem qw1_191 : Cond.fieldLink "WeatherMast$Floating" (34) "WeatherMast$Floating" "half" "J" ∈ aw := aw_t1 191 rfl rfl
theorem qw1_192 : Cond.fieldLink "WeatherMast$Floating" (37) "WeatherMast$Floating" "hidden" "J" ∈ aw := aw_t1 192 rfl rfl
theorem qw1_193 : Cond.laysFinal "WeatherMast$Floating" "WeatherMast$Floating" "fractionBits" "I" ∈ aw := aw_t1 193 rfl rfl
theorem qw1_195 : Cond.laysFinal "WeatherMast$Floating" "WeatherMast$Floating" "signMask" "J" ∈ aw := aw_t1 195 rfl rfl
theorem qw1_197 : Cond.laysFinal "WeatherMast$Floating" "WeatherMast$Floating" "infinity" "J" ∈ aw := aw_t1 197 rfl rfl
theorem qw1_199 : Cond.laysFinal "WeatherMast$Floating" "WeatherMast$Floating" "bias" "I" ∈ aw := aw_t1 199 rfl rfl
theorem qw1_201 : Cond.laysFinal "WeatherMast$Floating" "WeatherMast$Floating" "one" "J" ∈ aw := aw_t1 201 rfl rfl
theorem qw1_203 : Cond.laysFinal "WeatherMast$Floating" "WeatherMast$Floating" "half" "J" ∈ aw := aw_t1 203 rfl rfl
theorem qw1_205 : Cond.laysFinal "WeatherMast$Floating" "WeatherMast$Floating" "hidden" "J" ∈ aw := aw_t1 205 rfl rfl
theorem qw1_207 : Cond.laysFinal "WeatherMast$Floating" "WeatherMast$Numbers" "leastOfAll" "J" ∈ aw := aw_t1 207 rfl rfl
theorem qw1_208 : Cond.laysFinal "WeatherMast$Floating" "WeatherMast$Numbers" "greatestOfAll" "J" ∈ aw := aw_t1 208 rfl rfl
theorem qw1_209 : Cond.laysFinal "WeatherMast$Floating" "WeatherMast$Numbers" "width" "I" ∈ aw := aw_t1 209 rfl rfl
theorem qw1_210 : Cond.laysFinal "WeatherMast$Floating" "WeatherMast$Numbers" "lastStep" "I" ∈ aw := aw_t1 210 rfl rfl
theorem qw1_211 : Cond.superclass "WeatherMast$Floating" "WeatherMast$Numbers" ∈ aw := aw_t1 211 rfl rfl
theorem qw1_212 : Cond.methodLink "WeatherMast" (39) yX1_init ∈ aw := aw_t1 212 rfl rfl
theorem qw1_213 : Cond.instanceMethod yX1_init ∈ aw := aw_t1 213 rfl rfl
theorem qw1_214 : Cond.code yX1_init prog_3_method_1_code (3) (Option.none : Option Jvm.ClassFile.FieldType) ∈ aw := aw_t1 214 rfl rfl
theorem qw1_215 : Cond.methodLink "WeatherMast$Instrument" (3) ⟨"java/lang/Object", "<init>", "()V"⟩ ∈ aw := aw_t1 215 rfl rfl
theorem qw1_216 : Cond.classLink "WeatherMast$Instrument" (10) "WeatherMast$Instrument" ∈ aw := aw_t1 216 rfl rfl
theorem qw1_217 : Cond.fieldLink "WeatherMast$Instrument" (9) "WeatherMast$Instrument" "sort" "I" ∈ aw := aw_t1 217 rfl rfl
theorem qw1_218 : Cond.fieldLink "WeatherMast" (85) "WeatherMast$Instrument" "sort" "I" ∈ aw := aw_t1 218 rfl rfl
theorem qw1_219 : Cond.fieldLink "WeatherMast$Instrument" (15) "WeatherMast$Instrument" "numbers" "LWeatherMast$Numbers;" ∈ aw := aw_t1 219 rfl rfl
theorem qw1_220 : Cond.fieldLink "WeatherMast" (46) "WeatherMast$Instrument" "numbers" "LWeatherMast$Numbers;" ∈ aw := aw_t1 220 rfl rfl
theorem qw1_221 : Cond.fieldLink "WeatherMast$Instrument" (25) "WeatherMast$Instrument" "low" "J" ∈ aw := aw_t1 221 rfl rfl
theorem qw1_222 : Cond.fieldLink "WeatherMast" (155) "WeatherMast$Instrument" "low" "J" ∈ aw := aw_t1 222 rfl rfl
theorem qw1_223 : Cond.fieldLink "WeatherMast$Instrument" (31) "WeatherMast$Instrument" "high" "J" ∈ aw := aw_t1 223 rfl rfl
theorem qw1_224 : Cond.fieldLink "WeatherMast" (158) "WeatherMast$Instrument" "high" "J" ∈ aw := aw_t1 224 rfl rfl
theorem qw1_225 : Cond.fieldLink "WeatherMast" (111) "WeatherMast$Instrument" "alarmsGiven" "I" ∈ aw := aw_t1 225 rfl rfl
theorem qw1_226 : Cond.fieldLink "WeatherMast$Instrument" (49) "WeatherMast$Instrument" "steps" "I" ∈ aw := aw_t1 226 rfl rfl
theorem qw1_227 : Cond.fieldLink "WeatherMast" (105) "WeatherMast$Instrument" "steps" "I" ∈ aw := aw_t1 227 rfl rfl
theorem qw1_228 : Cond.fieldLink "WeatherMast$Instrument" (64) "WeatherMast$Instrument" "least" "J" ∈ aw := aw_t1 228 rfl rfl
theorem qw1_229 : Cond.fieldLink "WeatherMast" (136) "WeatherMast$Instrument" "least" "J" ∈ aw := aw_t1 229 rfl rfl
theorem qw1_230 : Cond.fieldLink "WeatherMast$Instrument" (71) "WeatherMast$Instrument" "greatest" "J" ∈ aw := aw_t1 230 rfl rfl
theorem qw1_231 : Cond.fieldLink "WeatherMast" (140) "WeatherMast$Instrument" "greatest" "J" ∈ aw := aw_t1 231 rfl rfl
theorem qw1_232 : Cond.fieldLink "WeatherMast$Instrument" (84) "WeatherMast$Instrument" "swing" "J" ∈ aw := aw_t1 232 rfl rfl
theorem qw1_233 : Cond.fieldLink "WeatherMast" (143) "WeatherMast$Instrument" "swing" "J" ∈ aw := aw_t1 233 rfl rfl
theorem qw1_234 : Cond.fieldLink "WeatherMast$Instrument" (87) "WeatherMast$Instrument" "sum" "J" ∈ aw := aw_t1 234 rfl rfl
theorem qw1_235 : Cond.fieldLink "WeatherMast" (146) "WeatherMast$Instrument" "sum" "J" ∈ aw := aw_t1 235 rfl rfl
theorem qw1_236 : Cond.fieldLink "WeatherMast$Instrument" (34) "WeatherMast$Instrument" "kinds" "[I" ∈ aw := aw_t1 236 rfl rfl
theorem qw1_237 : Cond.fieldLink "WeatherMast$Instrument" (38) "WeatherMast$Instrument" "constants" "[J" ∈ aw := aw_t1 237 rfl rfl
theorem qw1_238 : Cond.fieldLink "WeatherMast$Instrument" (42) "WeatherMast$Instrument" "leaders" "[LWeatherMast$Instrument;" ∈ aw := aw_t1 238 rfl rfl
theorem qw1_239 : Cond.fieldLink "WeatherMast$Instrument" (46) "WeatherMast$Instrument" "kept" "[J" ∈ aw := aw_t1 239 rfl rfl
theorem qw2_0 : Cond.fieldLink "WeatherMast$Instrument" (97) "WeatherMast$Instrument" "taken" "I" ∈ aw := aw_t2 0 rfl rfl
theorem qw2_1 : Cond.laysFinal "WeatherMast$Instrument" "WeatherMast$Instrument" "sort" "I" ∈ aw := aw_t2 1 rfl rfl
theorem qw2_3 : Cond.laysFinal "WeatherMast$Instrument" "WeatherMast$Instrument" "numbers" "LWeatherMast$Numbers;" ∈ aw := aw_t2 3 rfl rfl
theorem qw2_5 : Cond.lays "WeatherMast$Instrument" "WeatherMast$Instrument" "low" "J" ∈ aw := aw_t2 5 rfl rfl
theorem qw2_7 : Cond.lays "WeatherMast$Instrument" "WeatherMast$Instrument" "high" "J" ∈ aw := aw_t2 7 rfl rfl
theorem qw2_9 : Cond.lays "WeatherMast$Instrument" "WeatherMast$Instrument" "alarmsGiven" "I" ∈ aw := aw_t2 9 rfl rfl
theorem qw2_11 : Cond.lays "WeatherMast$Instrument" "WeatherMast$Instrument" "steps" "I" ∈ aw := aw_t2 11 rfl rfl
theorem qw2_13 : Cond.lays "WeatherMast$Instrument" "WeatherMast$Instrument" "least" "J" ∈ aw := aw_t2 13 rfl rfl
theorem qw2_15 : Cond.lays "WeatherMast$Instrument" "WeatherMast$Instrument" "greatest" "J" ∈ aw := aw_t2 15 rfl rfl
theorem qw2_17 : Cond.lays "WeatherMast$Instrument" "WeatherMast$Instrument" "swing" "J" ∈ aw := aw_t2 17 rfl rfl
theorem qw2_19 : Cond.lays "WeatherMast$Instrument" "WeatherMast$Instrument" "sum" "J" ∈ aw := aw_t2 19 rfl rfl
theorem qw2_21 : Cond.laysFinal "WeatherMast$Instrument" "WeatherMast$Instrument" "kinds" "[I" ∈ aw := aw_t2 21 rfl rfl
theorem qw2_23 : Cond.laysFinal "WeatherMast$Instrument" "WeatherMast$Instrument" "constants" "[J" ∈ aw := aw_t2 23 rfl rfl
theorem qw2_25 : Cond.laysFinal "WeatherMast$Instrument" "WeatherMast$Instrument" "leaders" "[LWeatherMast$Instrument;" ∈ aw := aw_t2 25 rfl rfl
theorem qw2_27 : Cond.laysFinal "WeatherMast$Instrument" "WeatherMast$Instrument" "kept" "[J" ∈ aw := aw_t2 27 rfl rfl
theorem qw2_29 : Cond.lays "WeatherMast$Instrument" "WeatherMast$Instrument" "taken" "I" ∈ aw := aw_t2 29 rfl rfl
theorem qw2_31 : Cond.superclass "WeatherMast$Instrument" "java/lang/Object" ∈ aw := aw_t2 31 rfl rfl
theorem qw2_32 : Cond.arrayClass FieldType.int ∈ aw := aw_t2 32 rfl rfl
theorem qw2_33 : Cond.arrayClass FieldType.long ∈ aw := aw_t2 33 rfl rfl
theorem qw2_34 : Cond.methodLink "WeatherMastLaw" (75) yL_step ∈ aw := aw_t2 34 rfl rfl
theorem qw2_35 : Cond.static yL_step ∈ aw := aw_t2 35 rfl rfl
theorem qw2_36 : Cond.codeWith yL_step method_4_code (7) (Option.some FieldType.int) [((0), (12), (15), (21)), ((0), (12), (19), (13)), ((0), (12), (23), (23))] ∈ aw := aw_t2 36 rfl rfl
theorem qw2_37 : Cond.classLink "WeatherMastLaw" (21) "java/lang/IndexOutOfBoundsException" ∈ aw := aw_t2 37 rfl rfl
theorem qw2_38 : Cond.classLink "WeatherMastLaw" (23) "java/lang/IllegalStateException" ∈ aw := aw_t2 38 rfl rfl
theorem qw2_39 : Cond.methodLink "WeatherMastLaw" (17) yX4_step ∈ aw := aw_t2 39 rfl rfl
theorem qw2_40 : Cond.instanceMethod yX4_step ∈ aw := aw_t2 40 rfl rfl
theorem qw2_41 : Cond.selects "WeatherMast" yX4_step yX4_step ∈ aw := aw_t2 41 rfl rfl
theorem qw2_42 : Cond.code yX4_step prog_1_method_3_code (9) (Option.some FieldType.int) ∈ aw := aw_t2 42 rfl rfl
theorem qw2_43 : Cond.methodLink "WeatherMast" (42) yX4_instrumentAt ∈ aw := aw_t2 43 rfl rfl
theorem qt2_44 : Cond.privateMethod yX4_instrumentAt ∈ lw_tbl := List.mem_append_right _ (List.mem_append_right _ (List.mem_append_left _ (List.mem_of_getElem? (i := 44) rfl)))
theorem qw2_45 : Cond.instanceMethod yX4_instrumentAt ∈ aw := aw_t2 45 rfl rfl
theorem qw2_46 : Cond.code yX4_instrumentAt prog_1_method_14_code (2) (Option.some (FieldType.object "WeatherMast$Instrument")) ∈ aw := aw_t2 46 rfl rfl
theorem qw2_47 : Cond.classLink "WeatherMast" (175) "java/lang/IndexOutOfBoundsException" ∈ aw := aw_t2 47 rfl rfl
theorem qw2_48 : Cond.instantiable "java/lang/IndexOutOfBoundsException" (6) ∈ aw := aw_t2 48 rfl rfl
theorem qt2_49 : Cond.castable "java/lang/IndexOutOfBoundsException" "java/lang/IndexOutOfBoundsException" ∈ lw_tbl := List.mem_append_right _ (List.mem_append_right _ (List.mem_append_left _ (List.mem_of_getElem? (i := 49) rfl)))
theorem qw2_50 : Cond.selects "java/lang/IndexOutOfBoundsException" ⟨"java/lang/Throwable", "fillInStackTrace", "(I)Ljava/lang/Throwable;"⟩ ⟨"java/lang/Throwable", "fillInStackTrace", "(I)Ljava/lang/Throwable;"⟩ ∈ aw := aw_t2 50 rfl rfl
theorem qw2_51 : Cond.lays "java/lang/IndexOutOfBoundsException" "java/lang/Throwable" "cause" "Ljava/lang/Throwable;" ∈ aw := aw_t2 51 rfl rfl
theorem qw2_52 : Cond.lays "java/lang/IndexOutOfBoundsException" "java/lang/Throwable" "stackTrace" "[Ljava/lang/StackTraceElement;" ∈ aw := aw_t2 52 rfl rfl
theorem qw2_53 : Cond.lays "java/lang/IndexOutOfBoundsException" "java/lang/Throwable" "suppressedExceptions" "Ljava/util/List;" ∈ aw := aw_t2 53 rfl rfl
theorem qw2_54 : Cond.lays "java/lang/IndexOutOfBoundsException" "java/lang/Throwable" "detailMessage" "Ljava/lang/String;" ∈ aw := aw_t2 54 rfl rfl
theorem qw2_55 : Cond.lays "java/lang/IndexOutOfBoundsException" "java/lang/Throwable" "backtrace" "Ljava/lang/Object;" ∈ aw := aw_t2 55 rfl rfl
theorem qt2_56 : Cond.stringRef "WeatherMast" (177) "no such instrument" ∈ lw_tbl := List.mem_append_right _ (List.mem_append_right _ (List.mem_append_left _ (List.mem_of_getElem? (i := 56) rfl)))
theorem qw2_57 : Cond.methodLink "WeatherMast" (179) ⟨"java/lang/IndexOutOfBoundsException", "<init>", "(Ljava/lang/String;)V"⟩ ∈ aw := aw_t2 57 rfl rfl
theorem qw2_58 : Cond.instanceMethod ⟨"java/lang/IndexOutOfBoundsException", "<init>", "(Ljava/lang/String;)V"⟩ ∈ aw := aw_t2 58 rfl rfl
theorem qw2_59 : Cond.code ⟨"java/lang/IndexOutOfBoundsException", "<init>", "(Ljava/lang/String;)V"⟩ prog_15_method_2_code (2) (Option.none : Option Jvm.ClassFile.FieldType) ∈ aw := aw_t2 59 rfl rfl
theorem qw2_60 : Cond.methodLink "java/lang/IndexOutOfBoundsException" (7) ⟨"java/lang/RuntimeException", "<init>", "(Ljava/lang/String;)V"⟩ ∈ aw := aw_t2 60 rfl rfl
theorem qw2_61 : Cond.lays "java/lang/IndexOutOfBoundsException" "java/lang/Throwable" "depth" "I" ∈ aw := aw_t2 61 rfl rfl
theorem qw2_62 : Cond.superclass "java/lang/IndexOutOfBoundsException" "java/lang/RuntimeException" ∈ aw := aw_t2 62 rfl rfl
theorem qw2_63 : Cond.methodLink "WeatherMast" (50) yX2_hasStep ∈ aw := aw_t2 63 rfl rfl
theorem qw2_64 : Cond.instanceMethod yX2_hasStep ∈ aw := aw_t2 64 rfl rfl
theorem qw2_65 : Cond.sameMethod "WeatherMast$Numbers" "WeatherMast$Numbers" "hasStep" "(I)Z" ∈ aw := aw_t2 65 rfl rfl
theorem qw2_66 : Cond.selects "WeatherMast$Floating" yX2_hasStep yX2_hasStep ∈ aw := aw_t2 66 rfl rfl
theorem qw2_67 : Cond.selects "WeatherMast$Wrapping" yX2_hasStep yX2_hasStep ∈ aw := aw_t2 67 rfl rfl
theorem qw2_68 : Cond.code yX2_hasStep prog_4_method_11_code (2) (Option.some FieldType.boolean) ∈ aw := aw_t2 68 rfl rfl
theorem qt2_69 : Cond.stringRef "WeatherMast" (55) "no such step of this sort" ∈ lw_tbl := List.mem_append_right _ (List.mem_append_right _ (List.mem_append_left _ (List.mem_of_getElem? (i := 69) rfl)))
theorem qw2_70 : Cond.methodLink "WeatherMast" (57) yX2_ofWidth ∈ aw := aw_t2 70 rfl rfl
theorem qw2_71 : Cond.instanceMethod yX2_ofWidth ∈ aw := aw_t2 71 rfl rfl
theorem qw2_72 : Cond.sameMethod "WeatherMast$Numbers" "WeatherMast$Numbers" "ofWidth" "(J)J" ∈ aw := aw_t2 72 rfl rfl
theorem qw2_73 : Cond.selects "WeatherMast$Floating" yX2_ofWidth yX2_ofWidth ∈ aw := aw_t2 73 rfl rfl
theorem qw2_74 : Cond.selects "WeatherMast$Wrapping" yX2_ofWidth yX2_ofWidth ∈ aw := aw_t2 74 rfl rfl
theorem qw2_75 : Cond.code yX2_ofWidth prog_4_method_10_code (3) (Option.some FieldType.long) ∈ aw := aw_t2 75 rfl rfl
theorem qw2_76 : Cond.methodLink "WeatherMast" (61) yX4_takesK ∈ aw := aw_t2 76 rfl rfl
theorem qw2_77 : Cond.static yX4_takesK ∈ aw := aw_t2 77 rfl rfl
theorem qw2_78 : Cond.code yX4_takesK prog_1_method_16_code (1) (Option.some FieldType.boolean) ∈ aw := aw_t2 78 rfl rfl
theorem qw2_79 : Cond.methodLink "WeatherMast" (64) ⟨"WeatherMast$Numbers", "isNumber", "(J)Z"⟩ ∈ aw := aw_t2 79 rfl rfl
theorem qt2_80 : Cond.declares ⟨"WeatherMast$Numbers", "isNumber", "(J)Z"⟩ ∈ lw_tbl := List.mem_append_right _ (List.mem_append_right _ (List.mem_append_left _ (List.mem_of_getElem? (i := 80) rfl)))
theorem qw2_81 : Cond.sameMethod "WeatherMast$Numbers" "WeatherMast$Numbers" "isNumber" "(J)Z" ∈ aw := aw_t2 81 rfl rfl
theorem qw2_82 : Cond.selects "WeatherMast$Floating" ⟨"WeatherMast$Numbers", "isNumber", "(J)Z"⟩ yX0_isNumber ∈ aw := aw_t2 82 rfl rfl
theorem qw2_83 : Cond.instanceMethod yX0_isNumber ∈ aw := aw_t2 83 rfl rfl
theorem qw2_84 : Cond.code yX0_isNumber prog_2_method_3_code (3) (Option.some FieldType.boolean) ∈ aw := aw_t2 84 rfl rfl
theorem qw2_85 : Cond.methodLink "WeatherMast$Floating" (40) yX0_amount ∈ aw := aw_t2 85 rfl rfl
theorem qw2_86 : Cond.instanceMethod yX0_amount ∈ aw := aw_t2 86 rfl rfl
theorem qw2_87 : Cond.selects "WeatherMast$Floating" yX0_amount yX0_amount ∈ aw := aw_t2 87 rfl rfl
theorem qw2_88 : Cond.code yX0_amount prog_2_method_4_code (3) (Option.some FieldType.long) ∈ aw := aw_t2 88 rfl rfl
theorem qw2_89 : Cond.selects "WeatherMast$Wrapping" ⟨"WeatherMast$Numbers", "isNumber", "(J)Z"⟩ yX3_isNumber ∈ aw := aw_t2 89 rfl rfl
theorem qw2_90 : Cond.instanceMethod yX3_isNumber ∈ aw := aw_t2 90 rfl rfl
theorem qw2_91 : Cond.code yX3_isNumber prog_5_method_2_code (3) (Option.some FieldType.boolean) ∈ aw := aw_t2 91 rfl rfl
theorem qt2_92 : Cond.stringRef "WeatherMast" (68) "K is no number" ∈ lw_tbl := List.mem_append_right _ (List.mem_append_right _ (List.mem_append_left _ (List.mem_of_getElem? (i := 92) rfl)))
theorem qw2_93 : Cond.methodLink "WeatherMast" (70) yX1_chainIsFull ∈ aw := aw_t2 93 rfl rfl
theorem qw2_94 : Cond.instanceMethod yX1_chainIsFull ∈ aw := aw_t2 94 rfl rfl
theorem qw2_95 : Cond.selects "WeatherMast$Instrument" yX1_chainIsFull yX1_chainIsFull ∈ aw := aw_t2 95 rfl rfl
theorem qw2_96 : Cond.code yX1_chainIsFull prog_3_method_2_code (1) (Option.some FieldType.boolean) ∈ aw := aw_t2 96 rfl rfl
theorem qw2_97 : Cond.classLink "WeatherMast" (74) "java/lang/IllegalStateException" ∈ aw := aw_t2 97 rfl rfl
theorem qw2_98 : Cond.instantiable "java/lang/IllegalStateException" (6) ∈ aw := aw_t2 98 rfl rfl
theorem qt2_99 : Cond.castable "java/lang/IllegalStateException" "java/lang/IllegalStateException" ∈ lw_tbl := List.mem_append_right _ (List.mem_append_right _ (List.mem_append_left _ (List.mem_of_getElem? (i := 99) rfl)))
theorem qw2_100 : Cond.selects "java/lang/IllegalStateException" ⟨"java/lang/Throwable", "fillInStackTrace", "(I)Ljava/lang/Throwable;"⟩ ⟨"java/lang/Throwable", "fillInStackTrace", "(I)Ljava/lang/Throwable;"⟩ ∈ aw := aw_t2 100 rfl rfl
theorem qw2_101 : Cond.lays "java/lang/IllegalStateException" "java/lang/Throwable" "cause" "Ljava/lang/Throwable;" ∈ aw := aw_t2 101 rfl rfl
theorem qw2_102 : Cond.lays "java/lang/IllegalStateException" "java/lang/Throwable" "stackTrace" "[Ljava/lang/StackTraceElement;" ∈ aw := aw_t2 102 rfl rfl
theorem qw2_103 : Cond.lays "java/lang/IllegalStateException" "java/lang/Throwable" "suppressedExceptions" "Ljava/util/List;" ∈ aw := aw_t2 103 rfl rfl
theorem qw2_104 : Cond.lays "java/lang/IllegalStateException" "java/lang/Throwable" "detailMessage" "Ljava/lang/String;" ∈ aw := aw_t2 104 rfl rfl
theorem qw2_105 : Cond.lays "java/lang/IllegalStateException" "java/lang/Throwable" "backtrace" "Ljava/lang/Object;" ∈ aw := aw_t2 105 rfl rfl
theorem qt2_106 : Cond.stringRef "WeatherMast" (76) "there are six steps" ∈ lw_tbl := List.mem_append_right _ (List.mem_append_right _ (List.mem_append_left _ (List.mem_of_getElem? (i := 106) rfl)))
theorem qw2_107 : Cond.methodLink "WeatherMast" (78) ⟨"java/lang/IllegalStateException", "<init>", "(Ljava/lang/String;)V"⟩ ∈ aw := aw_t2 107 rfl rfl
theorem qw2_108 : Cond.instanceMethod ⟨"java/lang/IllegalStateException", "<init>", "(Ljava/lang/String;)V"⟩ ∈ aw := aw_t2 108 rfl rfl
theorem qw2_109 : Cond.code ⟨"java/lang/IllegalStateException", "<init>", "(Ljava/lang/String;)V"⟩ prog_14_method_2_code (2) (Option.none : Option Jvm.ClassFile.FieldType) ∈ aw := aw_t2 109 rfl rfl
theorem qw2_110 : Cond.methodLink "java/lang/IllegalStateException" (7) ⟨"java/lang/RuntimeException", "<init>", "(Ljava/lang/String;)V"⟩ ∈ aw := aw_t2 110 rfl rfl
theorem qw2_111 : Cond.lays "java/lang/IllegalStateException" "java/lang/Throwable" "depth" "I" ∈ aw := aw_t2 111 rfl rfl
theorem qw2_112 : Cond.superclass "java/lang/IllegalStateException" "java/lang/RuntimeException" ∈ aw := aw_t2 112 rfl rfl
theorem qw2_113 : Cond.methodLink "WeatherMast" (79) yX1_addStep ∈ aw := aw_t2 113 rfl rfl
theorem qw2_114 : Cond.instanceMethod yX1_addStep ∈ aw := aw_t2 114 rfl rfl
theorem qw2_115 : Cond.selects "WeatherMast$Instrument" yX1_addStep yX1_addStep ∈ aw := aw_t2 115 rfl rfl
theorem qw2_116 : Cond.code yX1_addStep prog_3_method_3_code (5) (Option.some FieldType.int) ∈ aw := aw_t2 116 rfl rfl
theorem qw2_117 : Cond.methodLink "WeatherMastLaw" (79) yL_follow ∈ aw := aw_t2 117 rfl rfl
theorem qw2_118 : Cond.static yL_follow ∈ aw := aw_t2 118 rfl rfl
theorem qw2_119 : Cond.codeWith yL_follow method_5_code (6) (Option.some FieldType.int) [((0), (12), (15), (21)), ((0), (12), (19), (13)), ((0), (12), (23), (23))] ∈ aw := aw_t2 119 rfl rfl
theorem qw2_120 : Cond.methodLink "WeatherMastLaw" (25) yX4_follow ∈ aw := aw_t2 120 rfl rfl
theorem qw2_121 : Cond.instanceMethod yX4_follow ∈ aw := aw_t2 121 rfl rfl
theorem qw2_122 : Cond.selects "WeatherMast" yX4_follow yX4_follow ∈ aw := aw_t2 122 rfl rfl
theorem qw2_123 : Cond.code yX4_follow prog_1_method_4_code (6) (Option.some FieldType.int) ∈ aw := aw_t2 123 rfl rfl
theorem qt2_124 : Cond.stringRef "WeatherMast" (83) "no such step with K of this sort" ∈ lw_tbl := List.mem_append_right _ (List.mem_append_right _ (List.mem_append_left _ (List.mem_of_getElem? (i := 124) rfl)))
theorem qt2_125 : Cond.stringRef "WeatherMast" (88) "the other instrument is of another sort" ∈ lw_tbl := List.mem_append_right _ (List.mem_append_right _ (List.mem_append_left _ (List.mem_of_getElem? (i := 125) rfl)))
theorem qw2_126 : Cond.methodLink "WeatherMastLaw" (83) yL_read ∈ aw := aw_t2 126 rfl rfl
theorem qw2_127 : Cond.static yL_read ∈ aw := aw_t2 127 rfl rfl
theorem qw2_128 : Cond.codeWith yL_read method_6_code (6) (Option.some FieldType.int) [((0), (10), (13), (21)), ((0), (10), (17), (13))] ∈ aw := aw_t2 128 rfl rfl
theorem qw2_129 : Cond.methodLink "WeatherMastLaw" (29) yX4_read ∈ aw := aw_t2 129 rfl rfl
theorem qw2_130 : Cond.instanceMethod yX4_read ∈ aw := aw_t2 130 rfl rfl
theorem qw2_131 : Cond.selects "WeatherMast" yX4_read yX4_read ∈ aw := aw_t2 131 rfl rfl
theorem qw2_132 : Cond.code yX4_read prog_1_method_5_code (9) (Option.some FieldType.long) ∈ aw := aw_t2 132 rfl rfl
theorem qt2_133 : Cond.stringRef "WeatherMast" (90) "the bits are no number" ∈ lw_tbl := List.mem_append_right _ (List.mem_append_right _ (List.mem_append_left _ (List.mem_of_getElem? (i := 133) rfl)))
theorem qw2_134 : Cond.methodLink "WeatherMast" (92) yX1_throughChain ∈ aw := aw_t2 134 rfl rfl
theorem qw2_135 : Cond.instanceMethod yX1_throughChain ∈ aw := aw_t2 135 rfl rfl
theorem qw2_136 : Cond.selects "WeatherMast$Instrument" yX1_throughChain yX1_throughChain ∈ aw := aw_t2 136 rfl rfl
theorem qw2_137 : Cond.code yX1_throughChain prog_3_method_4_code (9) (Option.some FieldType.long) ∈ aw := aw_t2 137 rfl rfl
theorem qw2_138 : Cond.methodLink "WeatherMast$Instrument" (52) yX1_latestOrZero ∈ aw := aw_t2 138 rfl rfl
theorem qw2_139 : Cond.instanceMethod yX1_latestOrZero ∈ aw := aw_t2 139 rfl rfl
theorem qw2_140 : Cond.selects "WeatherMast$Instrument" yX1_latestOrZero yX1_latestOrZero ∈ aw := aw_t2 140 rfl rfl
theorem qw2_141 : Cond.code yX1_latestOrZero prog_3_method_10_code (1) (Option.some FieldType.long) ∈ aw := aw_t2 141 rfl rfl
theorem qw2_142 : Cond.methodLink "WeatherMast$Instrument" (60) yX1_hasRead ∈ aw := aw_t2 142 rfl rfl
theorem qw2_143 : Cond.instanceMethod yX1_hasRead ∈ aw := aw_t2 143 rfl rfl
theorem qw2_144 : Cond.selects "WeatherMast$Instrument" yX1_hasRead yX1_hasRead ∈ aw := aw_t2 144 rfl rfl
theorem qw2_145 : Cond.code yX1_hasRead prog_3_method_7_code (1) (Option.some FieldType.boolean) ∈ aw := aw_t2 145 rfl rfl
theorem qw2_146 : Cond.methodLink "WeatherMast$Instrument" (77) yX1_latest ∈ aw := aw_t2 146 rfl rfl
theorem qw2_147 : Cond.instanceMethod yX1_latest ∈ aw := aw_t2 147 rfl rfl
theorem qw2_148 : Cond.selects "WeatherMast$Instrument" yX1_latest yX1_latest ∈ aw := aw_t2 148 rfl rfl
theorem qw2_149 : Cond.code yX1_latest prog_3_method_9_code (2) (Option.some FieldType.long) ∈ aw := aw_t2 149 rfl rfl
theorem qw2_150 : Cond.methodLink "WeatherMast$Instrument" (56) yX2_stepped ∈ aw := aw_t2 150 rfl rfl
theorem qw2_151 : Cond.instanceMethod yX2_stepped ∈ aw := aw_t2 151 rfl rfl
theorem qw2_152 : Cond.sameMethod "WeatherMast$Numbers" "WeatherMast$Numbers" "stepped" "(IJJ)J" ∈ aw := aw_t2 152 rfl rfl
theorem qw2_153 : Cond.selects "WeatherMast$Floating" yX2_stepped yX2_stepped ∈ aw := aw_t2 153 rfl rfl
theorem qw2_154 : Cond.selects "WeatherMast$Wrapping" yX2_stepped yX2_stepped ∈ aw := aw_t2 154 rfl rfl
theorem qw2_155 : Cond.code yX2_stepped prog_4_method_12_code (6) (Option.some FieldType.long) ∈ aw := aw_t2 155 rfl rfl
theorem qw2_156 : Cond.methodLink "WeatherMast$Numbers" (25) ⟨"WeatherMast$Numbers", "amount", "(J)J"⟩ ∈ aw := aw_t2 156 rfl rfl
theorem qt2_157 : Cond.declares ⟨"WeatherMast$Numbers", "amount", "(J)J"⟩ ∈ lw_tbl := List.mem_append_right _ (List.mem_append_right _ (List.mem_append_left _ (List.mem_of_getElem? (i := 157) rfl)))
theorem qw2_158 : Cond.sameMethod "WeatherMast$Numbers" "WeatherMast$Numbers" "amount" "(J)J" ∈ aw := aw_t2 158 rfl rfl
theorem qw2_159 : Cond.selects "WeatherMast$Floating" ⟨"WeatherMast$Numbers", "amount", "(J)J"⟩ yX0_amount ∈ aw := aw_t2 159 rfl rfl
theorem qw2_160 : Cond.selects "WeatherMast$Wrapping" ⟨"WeatherMast$Numbers", "amount", "(J)J"⟩ yX3_amount ∈ aw := aw_t2 160 rfl rfl
theorem qw2_161 : Cond.instanceMethod yX3_amount ∈ aw := aw_t2 161 rfl rfl
theorem qw2_162 : Cond.code yX3_amount prog_5_method_3_code (3) (Option.some FieldType.long) ∈ aw := aw_t2 162 rfl rfl
theorem qw2_163 : Cond.methodLink "WeatherMast$Wrapping" (11) ⟨"WeatherMast$Wrapping", "ofWidth", "(J)J"⟩ ∈ aw := aw_t2 163 rfl rfl
theorem qw2_164 : Cond.sameMethod "WeatherMast$Wrapping" "WeatherMast$Numbers" "ofWidth" "(J)J" ∈ aw := aw_t2 164 rfl rfl
theorem qt2_165 : Cond.declares yX2_ofWidth ∈ lw_tbl := List.mem_append_right _ (List.mem_append_right _ (List.mem_append_left _ (List.mem_of_getElem? (i := 165) rfl)))
theorem qw2_166 : Cond.selects "WeatherMast$Wrapping" ⟨"WeatherMast$Wrapping", "ofWidth", "(J)J"⟩ yX2_ofWidth ∈ aw := aw_t2 166 rfl rfl
theorem qw2_167 : Cond.methodLink "WeatherMast$Numbers" (29) yX2_greater ∈ aw := aw_t2 167 rfl rfl
theorem qw2_168 : Cond.instanceMethod yX2_greater ∈ aw := aw_t2 168 rfl rfl
theorem qw2_169 : Cond.sameMethod "WeatherMast$Numbers" "WeatherMast$Numbers" "greater" "(JJ)J" ∈ aw := aw_t2 169 rfl rfl
theorem qw2_170 : Cond.selects "WeatherMast$Floating" yX2_greater yX2_greater ∈ aw := aw_t2 170 rfl rfl
theorem qw2_171 : Cond.selects "WeatherMast$Wrapping" yX2_greater yX2_greater ∈ aw := aw_t2 171 rfl rfl
theorem qw2_172 : Cond.code yX2_greater prog_4_method_13_code (5) (Option.some FieldType.long) ∈ aw := aw_t2 172 rfl rfl
theorem qw2_173 : Cond.methodLink "WeatherMast$Numbers" (40) ⟨"WeatherMast$Numbers", "rank", "(J)J"⟩ ∈ aw := aw_t2 173 rfl rfl
theorem qt2_174 : Cond.declares ⟨"WeatherMast$Numbers", "rank", "(J)J"⟩ ∈ lw_tbl := List.mem_append_right _ (List.mem_append_right _ (List.mem_append_left _ (List.mem_of_getElem? (i := 174) rfl)))
theorem qw2_175 : Cond.sameMethod "WeatherMast$Numbers" "WeatherMast$Numbers" "rank" "(J)J" ∈ aw := aw_t2 175 rfl rfl
theorem qw2_176 : Cond.selects "WeatherMast$Floating" ⟨"WeatherMast$Numbers", "rank", "(J)J"⟩ yX0_rank ∈ aw := aw_t2 176 rfl rfl
theorem qw2_177 : Cond.instanceMethod yX0_rank ∈ aw := aw_t2 177 rfl rfl
theorem qw2_178 : Cond.code yX0_rank prog_2_method_8_code (3) (Option.some FieldType.long) ∈ aw := aw_t2 178 rfl rfl
theorem qw2_179 : Cond.selects "WeatherMast$Wrapping" ⟨"WeatherMast$Numbers", "rank", "(J)J"⟩ yX3_rank ∈ aw := aw_t2 179 rfl rfl
theorem qw2_180 : Cond.instanceMethod yX3_rank ∈ aw := aw_t2 180 rfl rfl
theorem qw2_181 : Cond.code yX3_rank prog_5_method_7_code (3) (Option.some FieldType.long) ∈ aw := aw_t2 181 rfl rfl
theorem qw2_182 : Cond.methodLink "WeatherMast$Numbers" (33) yX2_lesser ∈ aw := aw_t2 182 rfl rfl
theorem qw2_183 : Cond.instanceMethod yX2_lesser ∈ aw := aw_t2 183 rfl rfl
theorem qw2_184 : Cond.sameMethod "WeatherMast$Numbers" "WeatherMast$Numbers" "lesser" "(JJ)J" ∈ aw := aw_t2 184 rfl rfl
theorem qw2_185 : Cond.selects "WeatherMast$Floating" yX2_lesser yX2_lesser ∈ aw := aw_t2 185 rfl rfl
theorem qw2_186 : Cond.selects "WeatherMast$Wrapping" yX2_lesser yX2_lesser ∈ aw := aw_t2 186 rfl rfl
theorem qw2_187 : Cond.code yX2_lesser prog_4_method_14_code (5) (Option.some FieldType.long) ∈ aw := aw_t2 187 rfl rfl
theorem qw2_188 : Cond.methodLink "WeatherMast$Numbers" (36) ⟨"WeatherMast$Numbers", "furtherStepped", "(IJJ)J"⟩ ∈ aw := aw_t2 188 rfl rfl
theorem qt2_189 : Cond.declares ⟨"WeatherMast$Numbers", "furtherStepped", "(IJJ)J"⟩ ∈ lw_tbl := List.mem_append_right _ (List.mem_append_right _ (List.mem_append_left _ (List.mem_of_getElem? (i := 189) rfl)))
theorem qw2_190 : Cond.sameMethod "WeatherMast$Numbers" "WeatherMast$Numbers" "furtherStepped" "(IJJ)J" ∈ aw := aw_t2 190 rfl rfl
theorem qw2_191 : Cond.selects "WeatherMast$Floating" ⟨"WeatherMast$Numbers", "furtherStepped", "(IJJ)J"⟩ yX0_furtherStepped ∈ aw := aw_t2 191 rfl rfl
theorem qw2_192 : Cond.instanceMethod yX0_furtherStepped ∈ aw := aw_t2 192 rfl rfl
theorem qw2_193 : Cond.code yX0_furtherStepped prog_2_method_10_code (8) (Option.some FieldType.long) ∈ aw := aw_t2 193 rfl rfl
theorem qw2_194 : Cond.methodLink "WeatherMast$Floating" (77) yX0_raised ∈ aw := aw_t2 194 rfl rfl
theorem qt2_195 : Cond.privateMethod yX0_raised ∈ lw_tbl := List.mem_append_right _ (List.mem_append_right _ (List.mem_append_left _ (List.mem_of_getElem? (i := 195) rfl)))
theorem qw2_196 : Cond.instanceMethod yX0_raised ∈ aw := aw_t2 196 rfl rfl
theorem qw2_197 : Cond.code yX0_raised prog_2_method_14_code (5) (Option.some FieldType.long) ∈ aw := aw_t2 197 rfl rfl
theorem qw2_198 : Cond.methodLink "WeatherMast$Floating" (80) yX0_cut ∈ aw := aw_t2 198 rfl rfl
theorem qt2_199 : Cond.privateMethod yX0_cut ∈ lw_tbl := List.mem_append_right _ (List.mem_append_right _ (List.mem_append_left _ (List.mem_of_getElem? (i := 199) rfl)))
theorem qw2_200 : Cond.instanceMethod yX0_cut ∈ aw := aw_t2 200 rfl rfl
theorem qw2_201 : Cond.code yX0_cut prog_2_method_13_code (4) (Option.some FieldType.long) ∈ aw := aw_t2 201 rfl rfl
theorem qw2_202 : Cond.methodLink "WeatherMast$Floating" (89) yX0_bitsBehindPoint ∈ aw := aw_t2 202 rfl rfl
theorem qt2_203 : Cond.privateMethod yX0_bitsBehindPoint ∈ lw_tbl := List.mem_append_right _ (List.mem_append_right _ (List.mem_append_left _ (List.mem_of_getElem? (i := 203) rfl)))
theorem qw2_204 : Cond.instanceMethod yX0_bitsBehindPoint ∈ aw := aw_t2 204 rfl rfl
theorem qw2_205 : Cond.code yX0_bitsBehindPoint prog_2_method_12_code (3) (Option.some FieldType.int) ∈ aw := aw_t2 205 rfl rfl
theorem qw2_206 : Cond.methodLink "WeatherMast$Floating" (53) yX0_exponentOf ∈ aw := aw_t2 206 rfl rfl
theorem qt2_207 : Cond.privateMethod yX0_exponentOf ∈ lw_tbl := List.mem_append_right _ (List.mem_append_right _ (List.mem_append_left _ (List.mem_of_getElem? (i := 207) rfl)))
theorem qw2_208 : Cond.instanceMethod yX0_exponentOf ∈ aw := aw_t2 208 rfl rfl
theorem qw2_209 : Cond.code yX0_exponentOf prog_2_method_17_code (3) (Option.some FieldType.int) ∈ aw := aw_t2 209 rfl rfl
theorem qw2_210 : Cond.methodLink "WeatherMast$Floating" (44) yJ9_max_f86c9 ∈ aw := aw_t2 210 rfl rfl
theorem qw2_211 : Cond.static yJ9_max_f86c9 ∈ aw := aw_t2 211 rfl rfl
theorem qw2_212 : Cond.code yJ9_max_f86c9 prog_16_method_66_code (4) (Option.some FieldType.long) ∈ aw := aw_t2 212 rfl rfl
theorem qw2_213 : Cond.methodLink "WeatherMast$Floating" (92) yX0_nextWhole ∈ aw := aw_t2 213 rfl rfl
theorem qt2_214 : Cond.privateMethod yX0_nextWhole ∈ lw_tbl := List.mem_append_right _ (List.mem_append_right _ (List.mem_append_left _ (List.mem_of_getElem? (i := 214) rfl)))
theorem qw2_215 : Cond.instanceMethod yX0_nextWhole ∈ aw := aw_t2 215 rfl rfl
theorem qw2_216 : Cond.code yX0_nextWhole prog_2_method_16_code (5) (Option.some FieldType.long) ∈ aw := aw_t2 216 rfl rfl
theorem qw2_217 : Cond.methodLink "WeatherMast$Floating" (83) yX0_withSignOf ∈ aw := aw_t2 217 rfl rfl
theorem qt2_218 : Cond.privateMethod yX0_withSignOf ∈ lw_tbl := List.mem_append_right _ (List.mem_append_right _ (List.mem_append_left _ (List.mem_of_getElem? (i := 218) rfl)))
theorem qw2_219 : Cond.instanceMethod yX0_withSignOf ∈ aw := aw_t2 219 rfl rfl
theorem qw2_220 : Cond.code yX0_withSignOf prog_2_method_11_code (5) (Option.some FieldType.long) ∈ aw := aw_t2 220 rfl rfl
theorem qw2_221 : Cond.methodLink "WeatherMast$Floating" (86) yX0_nearest ∈ aw := aw_t2 221 rfl rfl
theorem qt2_222 : Cond.privateMethod yX0_nearest ∈ lw_tbl := List.mem_append_right _ (List.mem_append_right _ (List.mem_append_left _ (List.mem_of_getElem? (i := 222) rfl)))
theorem qw2_223 : Cond.instanceMethod yX0_nearest ∈ aw := aw_t2 223 rfl rfl
theorem qw2_224 : Cond.code yX0_nearest prog_2_method_15_code (11) (Option.some FieldType.long) ∈ aw := aw_t2 224 rfl rfl
theorem qw2_225 : Cond.selects "WeatherMast$Wrapping" ⟨"WeatherMast$Numbers", "furtherStepped", "(IJJ)J"⟩ yX3_furtherStepped ∈ aw := aw_t2 225 rfl rfl
theorem qw2_226 : Cond.instanceMethod yX3_furtherStepped ∈ aw := aw_t2 226 rfl rfl
theorem qw2_227 : Cond.code yX3_furtherStepped prog_5_method_9_code (6) (Option.some FieldType.long) ∈ aw := aw_t2 227 rfl rfl
theorem qw2_228 : Cond.methodLink "WeatherMast" (95) yX1_keep ∈ aw := aw_t2 228 rfl rfl
theorem qw2_229 : Cond.instanceMethod yX1_keep ∈ aw := aw_t2 229 rfl rfl
theorem qw2_230 : Cond.selects "WeatherMast$Instrument" yX1_keep yX1_keep ∈ aw := aw_t2 230 rfl rfl
theorem qw2_231 : Cond.code yX1_keep prog_3_method_5_code (3) (Option.none : Option Jvm.ClassFile.FieldType) ∈ aw := aw_t2 231 rfl rfl
theorem qw2_232 : Cond.methodLink "WeatherMast$Instrument" (67) yX2_lesser ∈ aw := aw_t2 232 rfl rfl
theorem qw2_233 : Cond.methodLink "WeatherMast$Instrument" (74) yX2_greater ∈ aw := aw_t2 233 rfl rfl
theorem qw2_234 : Cond.methodLink "WeatherMast$Instrument" (81) ⟨"WeatherMast$Numbers", "apart", "(JJ)J"⟩ ∈ aw := aw_t2 234 rfl rfl
theorem qt2_235 : Cond.declares ⟨"WeatherMast$Numbers", "apart", "(JJ)J"⟩ ∈ lw_tbl := List.mem_append_right _ (List.mem_append_right _ (List.mem_append_left _ (List.mem_of_getElem? (i := 235) rfl)))
theorem qw2_236 : Cond.sameMethod "WeatherMast$Numbers" "WeatherMast$Numbers" "apart" "(JJ)J" ∈ aw := aw_t2 236 rfl rfl
theorem qw2_237 : Cond.selects "WeatherMast$Floating" ⟨"WeatherMast$Numbers", "apart", "(JJ)J"⟩ yX0_apart ∈ aw := aw_t2 237 rfl rfl
theorem qw2_238 : Cond.instanceMethod yX0_apart ∈ aw := aw_t2 238 rfl rfl
theorem qw2_239 : Cond.code yX0_apart prog_2_method_6_code (9) (Option.some FieldType.long) ∈ aw := aw_t2 239 rfl rfl
theorem qw3_0 : Cond.methodLink "WeatherMast$Floating" (67) yX0_plus ∈ aw := aw_t3 0 rfl rfl
theorem qw3_1 : Cond.instanceMethod yX0_plus ∈ aw := aw_t3 1 rfl rfl
theorem qw3_2 : Cond.selects "WeatherMast$Floating" yX0_plus yX0_plus ∈ aw := aw_t3 2 rfl rfl
theorem qw3_3 : Cond.code yX0_plus prog_2_method_5_code (12) (Option.some FieldType.long) ∈ aw := aw_t3 3 rfl rfl
theorem qw3_4 : Cond.methodLink "WeatherMast$Floating" (50) yJ9_min_f86c9 ∈ aw := aw_t3 4 rfl rfl
theorem qw3_5 : Cond.static yJ9_min_f86c9 ∈ aw := aw_t3 5 rfl rfl
theorem qw3_6 : Cond.code yJ9_min_f86c9 prog_16_method_70_code (4) (Option.some FieldType.long) ∈ aw := aw_t3 6 rfl rfl
theorem qw3_7 : Cond.methodLink "WeatherMast$Floating" (57) yX0_significandOf ∈ aw := aw_t3 7 rfl rfl
theorem qt3_8 : Cond.privateMethod yX0_significandOf ∈ lw_tbl := List.mem_append_right _ (List.mem_append_right _ (List.mem_append_right _ (List.mem_append_left _ (List.mem_of_getElem? (i := 8) rfl))))
theorem qw3_9 : Cond.instanceMethod yX0_significandOf ∈ aw := aw_t3 9 rfl rfl
theorem qw3_10 : Cond.code yX0_significandOf prog_2_method_18_code (5) (Option.some FieldType.long) ∈ aw := aw_t3 10 rfl rfl
theorem qw3_11 : Cond.methodLink "WeatherMast$Floating" (60) yX0_shiftedRight ∈ aw := aw_t3 11 rfl rfl
theorem qw3_12 : Cond.static yX0_shiftedRight ∈ aw := aw_t3 12 rfl rfl
theorem qw3_13 : Cond.code yX0_shiftedRight prog_2_method_19_code (6) (Option.some FieldType.long) ∈ aw := aw_t3 13 rfl rfl
theorem qw3_14 : Cond.methodLink "WeatherMast$Floating" (95) yJ9_min_7cf53 ∈ aw := aw_t3 14 rfl rfl
theorem qw3_15 : Cond.static yJ9_min_7cf53 ∈ aw := aw_t3 15 rfl rfl
theorem qw3_16 : Cond.code yJ9_min_7cf53 prog_16_method_69_code (2) (Option.some FieldType.int) ∈ aw := aw_t3 16 rfl rfl
theorem qw3_17 : Cond.methodLink "WeatherMast$Floating" (64) yX0_rounded ∈ aw := aw_t3 17 rfl rfl
theorem qt3_18 : Cond.privateMethod yX0_rounded ∈ lw_tbl := List.mem_append_right _ (List.mem_append_right _ (List.mem_append_right _ (List.mem_append_left _ (List.mem_of_getElem? (i := 18) rfl))))
theorem qw3_19 : Cond.instanceMethod yX0_rounded ∈ aw := aw_t3 19 rfl rfl
theorem qw3_20 : Cond.code yX0_rounded prog_2_method_21_code (8) (Option.some FieldType.long) ∈ aw := aw_t3 20 rfl rfl
theorem qw3_21 : Cond.constantLong "WeatherMast$Floating" (98) (7) ∈ aw := aw_t3 21 rfl rfl
theorem qw3_22 : Cond.constantLong "WeatherMast$Floating" (100) (4) ∈ aw := aw_t3 22 rfl rfl
theorem qw3_23 : Cond.methodLink "WeatherMast$Floating" (70) yX0_minus ∈ aw := aw_t3 23 rfl rfl
theorem qt3_24 : Cond.privateMethod yX0_minus ∈ lw_tbl := List.mem_append_right _ (List.mem_append_right _ (List.mem_append_right _ (List.mem_append_left _ (List.mem_of_getElem? (i := 24) rfl))))
theorem qw3_25 : Cond.instanceMethod yX0_minus ∈ aw := aw_t3 25 rfl rfl
theorem qw3_26 : Cond.code yX0_minus prog_2_method_20_code (8) (Option.some FieldType.long) ∈ aw := aw_t3 26 rfl rfl
theorem qw3_27 : Cond.selects "WeatherMast$Wrapping" ⟨"WeatherMast$Numbers", "apart", "(JJ)J"⟩ yX3_apart ∈ aw := aw_t3 27 rfl rfl
theorem qw3_28 : Cond.instanceMethod yX3_apart ∈ aw := aw_t3 28 rfl rfl
theorem qw3_29 : Cond.code yX3_apart prog_5_method_5_code (5) (Option.some FieldType.long) ∈ aw := aw_t3 29 rfl rfl
theorem qw3_30 : Cond.methodLink "WeatherMast$Wrapping" (17) yX3_amount ∈ aw := aw_t3 30 rfl rfl
theorem qw3_31 : Cond.methodLink "WeatherMast$Instrument" (90) ⟨"WeatherMast$Numbers", "amount", "(J)J"⟩ ∈ aw := aw_t3 31 rfl rfl
theorem qw3_32 : Cond.methodLink "WeatherMast$Instrument" (94) ⟨"WeatherMast$Numbers", "plus", "(JJ)J"⟩ ∈ aw := aw_t3 32 rfl rfl
theorem qt3_33 : Cond.declares ⟨"WeatherMast$Numbers", "plus", "(JJ)J"⟩ ∈ lw_tbl := List.mem_append_right _ (List.mem_append_right _ (List.mem_append_right _ (List.mem_append_left _ (List.mem_of_getElem? (i := 33) rfl))))
theorem qw3_34 : Cond.sameMethod "WeatherMast$Numbers" "WeatherMast$Numbers" "plus" "(JJ)J" ∈ aw := aw_t3 34 rfl rfl
theorem qw3_35 : Cond.selects "WeatherMast$Floating" ⟨"WeatherMast$Numbers", "plus", "(JJ)J"⟩ yX0_plus ∈ aw := aw_t3 35 rfl rfl
theorem qw3_36 : Cond.selects "WeatherMast$Wrapping" ⟨"WeatherMast$Numbers", "plus", "(JJ)J"⟩ yX3_plus ∈ aw := aw_t3 36 rfl rfl
theorem qw3_37 : Cond.instanceMethod yX3_plus ∈ aw := aw_t3 37 rfl rfl
theorem qw3_38 : Cond.code yX3_plus prog_5_method_4_code (5) (Option.some FieldType.long) ∈ aw := aw_t3 38 rfl rfl
theorem qw3_39 : Cond.methodLink "WeatherMast" (108) yX1_isBeyondLimits ∈ aw := aw_t3 39 rfl rfl
theorem qw3_40 : Cond.instanceMethod yX1_isBeyondLimits ∈ aw := aw_t3 40 rfl rfl
theorem qw3_41 : Cond.selects "WeatherMast$Instrument" yX1_isBeyondLimits yX1_isBeyondLimits ∈ aw := aw_t3 41 rfl rfl
theorem qw3_42 : Cond.code yX1_isBeyondLimits prog_3_method_6_code (3) (Option.some FieldType.boolean) ∈ aw := aw_t3 42 rfl rfl
theorem qw3_43 : Cond.methodLink "WeatherMast$Instrument" (100) yX2_isAbove ∈ aw := aw_t3 43 rfl rfl
theorem qw3_44 : Cond.instanceMethod yX2_isAbove ∈ aw := aw_t3 44 rfl rfl
theorem qw3_45 : Cond.sameMethod "WeatherMast$Numbers" "WeatherMast$Numbers" "isAbove" "(JJ)Z" ∈ aw := aw_t3 45 rfl rfl
theorem qw3_46 : Cond.selects "WeatherMast$Floating" yX2_isAbove yX2_isAbove ∈ aw := aw_t3 46 rfl rfl
theorem qw3_47 : Cond.selects "WeatherMast$Wrapping" yX2_isAbove yX2_isAbove ∈ aw := aw_t3 47 rfl rfl
theorem qw3_48 : Cond.code yX2_isAbove prog_4_method_15_code (5) (Option.some FieldType.boolean) ∈ aw := aw_t3 48 rfl rfl
theorem qw3_49 : Cond.methodLink "WeatherMast$Numbers" (43) ⟨"WeatherMast$Numbers", "level", "(J)J"⟩ ∈ aw := aw_t3 49 rfl rfl
theorem qt3_50 : Cond.declares ⟨"WeatherMast$Numbers", "level", "(J)J"⟩ ∈ lw_tbl := List.mem_append_right _ (List.mem_append_right _ (List.mem_append_right _ (List.mem_append_left _ (List.mem_of_getElem? (i := 50) rfl))))
theorem qw3_51 : Cond.sameMethod "WeatherMast$Numbers" "WeatherMast$Numbers" "level" "(J)J" ∈ aw := aw_t3 51 rfl rfl
theorem qw3_52 : Cond.selects "WeatherMast$Floating" ⟨"WeatherMast$Numbers", "level", "(J)J"⟩ yX0_level ∈ aw := aw_t3 52 rfl rfl
theorem qw3_53 : Cond.instanceMethod yX0_level ∈ aw := aw_t3 53 rfl rfl
theorem qw3_54 : Cond.code yX0_level prog_2_method_9_code (3) (Option.some FieldType.long) ∈ aw := aw_t3 54 rfl rfl
theorem qw3_55 : Cond.selects "WeatherMast$Wrapping" ⟨"WeatherMast$Numbers", "level", "(J)J"⟩ yX3_level ∈ aw := aw_t3 55 rfl rfl
theorem qw3_56 : Cond.instanceMethod yX3_level ∈ aw := aw_t3 56 rfl rfl
theorem qw3_57 : Cond.code yX3_level prog_5_method_8_code (3) (Option.some FieldType.long) ∈ aw := aw_t3 57 rfl rfl
theorem qw3_58 : Cond.methodLink "WeatherMastLaw" (87) yL_reading ∈ aw := aw_t3 58 rfl rfl
theorem qw3_59 : Cond.static yL_reading ∈ aw := aw_t3 59 rfl rfl
theorem qw3_60 : Cond.codeWith yL_reading method_7_code (5) (Option.some FieldType.int) [((0), (9), (12), (21)), ((0), (9), (16), (37))] ∈ aw := aw_t3 60 rfl rfl
theorem qw3_61 : Cond.classLink "WeatherMastLaw" (37) "java/util/NoSuchElementException" ∈ aw := aw_t3 61 rfl rfl
theorem qw3_62 : Cond.methodLink "WeatherMastLaw" (33) yX4_reading ∈ aw := aw_t3 62 rfl rfl
theorem qw3_63 : Cond.instanceMethod yX4_reading ∈ aw := aw_t3 63 rfl rfl
theorem qw3_64 : Cond.selects "WeatherMast" yX4_reading yX4_reading ∈ aw := aw_t3 64 rfl rfl
theorem qw3_65 : Cond.code yX4_reading prog_1_method_6_code (4) (Option.some FieldType.long) ∈ aw := aw_t3 65 rfl rfl
theorem qw3_66 : Cond.methodLink "WeatherMast" (117) yX1_keeps ∈ aw := aw_t3 66 rfl rfl
theorem qw3_67 : Cond.instanceMethod yX1_keeps ∈ aw := aw_t3 67 rfl rfl
theorem qw3_68 : Cond.selects "WeatherMast$Instrument" yX1_keeps yX1_keeps ∈ aw := aw_t3 68 rfl rfl
theorem qw3_69 : Cond.code yX1_keeps prog_3_method_8_code (2) (Option.some FieldType.boolean) ∈ aw := aw_t3 69 rfl rfl
theorem qw3_70 : Cond.classLink "WeatherMast" (120) "java/util/NoSuchElementException" ∈ aw := aw_t3 70 rfl rfl
theorem qw3_71 : Cond.instantiable "java/util/NoSuchElementException" (6) ∈ aw := aw_t3 71 rfl rfl
theorem qt3_72 : Cond.castable "java/util/NoSuchElementException" "java/util/NoSuchElementException" ∈ lw_tbl := List.mem_append_right _ (List.mem_append_right _ (List.mem_append_right _ (List.mem_append_left _ (List.mem_of_getElem? (i := 72) rfl))))
theorem qw3_73 : Cond.selects "java/util/NoSuchElementException" ⟨"java/lang/Throwable", "fillInStackTrace", "(I)Ljava/lang/Throwable;"⟩ ⟨"java/lang/Throwable", "fillInStackTrace", "(I)Ljava/lang/Throwable;"⟩ ∈ aw := aw_t3 73 rfl rfl
theorem qw3_74 : Cond.lays "java/util/NoSuchElementException" "java/lang/Throwable" "cause" "Ljava/lang/Throwable;" ∈ aw := aw_t3 74 rfl rfl
theorem qw3_75 : Cond.lays "java/util/NoSuchElementException" "java/lang/Throwable" "stackTrace" "[Ljava/lang/StackTraceElement;" ∈ aw := aw_t3 75 rfl rfl
theorem qw3_76 : Cond.lays "java/util/NoSuchElementException" "java/lang/Throwable" "suppressedExceptions" "Ljava/util/List;" ∈ aw := aw_t3 76 rfl rfl
theorem qw3_77 : Cond.lays "java/util/NoSuchElementException" "java/lang/Throwable" "detailMessage" "Ljava/lang/String;" ∈ aw := aw_t3 77 rfl rfl
theorem qw3_78 : Cond.lays "java/util/NoSuchElementException" "java/lang/Throwable" "backtrace" "Ljava/lang/Object;" ∈ aw := aw_t3 78 rfl rfl
theorem qt3_79 : Cond.stringRef "WeatherMast" (122) "no such reading is kept" ∈ lw_tbl := List.mem_append_right _ (List.mem_append_right _ (List.mem_append_right _ (List.mem_append_left _ (List.mem_of_getElem? (i := 79) rfl))))
theorem qw3_80 : Cond.methodLink "WeatherMast" (124) ⟨"java/util/NoSuchElementException", "<init>", "(Ljava/lang/String;)V"⟩ ∈ aw := aw_t3 80 rfl rfl
theorem qw3_81 : Cond.instanceMethod ⟨"java/util/NoSuchElementException", "<init>", "(Ljava/lang/String;)V"⟩ ∈ aw := aw_t3 81 rfl rfl
theorem qw3_82 : Cond.code ⟨"java/util/NoSuchElementException", "<init>", "(Ljava/lang/String;)V"⟩ prog_24_method_4_code (2) (Option.none : Option Jvm.ClassFile.FieldType) ∈ aw := aw_t3 82 rfl rfl
theorem qw3_83 : Cond.methodLink "java/util/NoSuchElementException" (13) ⟨"java/lang/RuntimeException", "<init>", "(Ljava/lang/String;)V"⟩ ∈ aw := aw_t3 83 rfl rfl
theorem qw3_84 : Cond.lays "java/util/NoSuchElementException" "java/lang/Throwable" "depth" "I" ∈ aw := aw_t3 84 rfl rfl
theorem qw3_85 : Cond.superclass "java/util/NoSuchElementException" "java/lang/RuntimeException" ∈ aw := aw_t3 85 rfl rfl
theorem qw3_86 : Cond.methodLink "WeatherMast" (125) yX1_latest ∈ aw := aw_t3 86 rfl rfl
theorem qw3_87 : Cond.methodLink "WeatherMastLaw" (91) yL_tell ∈ aw := aw_t3 87 rfl rfl
theorem qw3_88 : Cond.static yL_tell ∈ aw := aw_t3 88 rfl rfl
theorem qw3_89 : Cond.codeWith yL_tell method_8_code (5) (Option.some FieldType.int) [((0), (9), (12), (21)), ((0), (9), (16), (13)), ((0), (9), (20), (37))] ∈ aw := aw_t3 89 rfl rfl
theorem qw3_90 : Cond.methodLink "WeatherMastLaw" (39) yX4_tell ∈ aw := aw_t3 90 rfl rfl
theorem qw3_91 : Cond.instanceMethod yX4_tell ∈ aw := aw_t3 91 rfl rfl
theorem qw3_92 : Cond.selects "WeatherMast" yX4_tell yX4_tell ∈ aw := aw_t3 92 rfl rfl
theorem qw3_93 : Cond.code yX4_tell prog_1_method_7_code (4) (Option.some FieldType.long) ∈ aw := aw_t3 93 rfl rfl
theorem qt3_94 : Cond.stringRef "WeatherMast" (129) "no such thing to tell" ∈ lw_tbl := List.mem_append_right _ (List.mem_append_right _ (List.mem_append_right _ (List.mem_append_left _ (List.mem_of_getElem? (i := 94) rfl))))
theorem qw3_95 : Cond.methodLink "WeatherMast" (131) yX1_hasRead ∈ aw := aw_t3 95 rfl rfl
theorem qt3_96 : Cond.stringRef "WeatherMast" (134) "nothing has been read" ∈ lw_tbl := List.mem_append_right _ (List.mem_append_right _ (List.mem_append_right _ (List.mem_append_left _ (List.mem_of_getElem? (i := 96) rfl))))
theorem qw3_97 : Cond.methodLink "WeatherMastLaw" (94) yL_whole ∈ aw := aw_t3 97 rfl rfl
theorem qw3_98 : Cond.static yL_whole ∈ aw := aw_t3 98 rfl rfl
theorem qw3_99 : Cond.codeWith yL_whole method_9_code (4) (Option.some FieldType.int) [((0), (9), (12), (21)), ((0), (9), (15), (37))] ∈ aw := aw_t3 99 rfl rfl
theorem qw3_100 : Cond.methodLink "WeatherMastLaw" (42) yX4_whole ∈ aw := aw_t3 100 rfl rfl
theorem qw3_101 : Cond.instanceMethod yX4_whole ∈ aw := aw_t3 101 rfl rfl
theorem qw3_102 : Cond.selects "WeatherMast" yX4_whole yX4_whole ∈ aw := aw_t3 102 rfl rfl
theorem qw3_103 : Cond.code yX4_whole prog_1_method_8_code (3) (Option.some FieldType.int) ∈ aw := aw_t3 103 rfl rfl
theorem qw3_104 : Cond.methodLink "WeatherMast" (149) ⟨"WeatherMast$Numbers", "toInt", "(J)I"⟩ ∈ aw := aw_t3 104 rfl rfl
theorem qt3_105 : Cond.declares ⟨"WeatherMast$Numbers", "toInt", "(J)I"⟩ ∈ lw_tbl := List.mem_append_right _ (List.mem_append_right _ (List.mem_append_right _ (List.mem_append_left _ (List.mem_of_getElem? (i := 105) rfl))))
theorem qw3_106 : Cond.sameMethod "WeatherMast$Numbers" "WeatherMast$Numbers" "toInt" "(J)I" ∈ aw := aw_t3 106 rfl rfl
theorem qw3_107 : Cond.selects "WeatherMast$Floating" ⟨"WeatherMast$Numbers", "toInt", "(J)I"⟩ yX0_toInt ∈ aw := aw_t3 107 rfl rfl
theorem qw3_108 : Cond.instanceMethod yX0_toInt ∈ aw := aw_t3 108 rfl rfl
theorem qw3_109 : Cond.code yX0_toInt prog_2_method_7_code (9) (Option.some FieldType.int) ∈ aw := aw_t3 109 rfl rfl
theorem qw3_110 : Cond.constant "WeatherMast$Floating" (75) (-2147483648) ∈ aw := aw_t3 110 rfl rfl
theorem qw3_111 : Cond.constant "WeatherMast$Floating" (76) (2147483647) ∈ aw := aw_t3 111 rfl rfl
theorem qw3_112 : Cond.selects "WeatherMast$Wrapping" ⟨"WeatherMast$Numbers", "toInt", "(J)I"⟩ yX3_toInt ∈ aw := aw_t3 112 rfl rfl
theorem qw3_113 : Cond.instanceMethod yX3_toInt ∈ aw := aw_t3 113 rfl rfl
theorem qw3_114 : Cond.code yX3_toInt prog_5_method_6_code (3) (Option.some FieldType.int) ∈ aw := aw_t3 114 rfl rfl
theorem qw3_115 : Cond.constantLong "WeatherMast$Wrapping" (22) (-2147483648) ∈ aw := aw_t3 115 rfl rfl
theorem qw3_116 : Cond.constantLong "WeatherMast$Wrapping" (24) (2147483647) ∈ aw := aw_t3 116 rfl rfl
theorem qw3_117 : Cond.methodLink "WeatherMast$Wrapping" (26) yJ9_min_f86c9 ∈ aw := aw_t3 117 rfl rfl
theorem qw3_118 : Cond.methodLink "WeatherMast$Wrapping" (32) yJ9_max_f86c9 ∈ aw := aw_t3 118 rfl rfl
theorem qw3_119 : Cond.methodLink "WeatherMastLaw" (97) yL_limits ∈ aw := aw_t3 119 rfl rfl
theorem qw3_120 : Cond.static yL_limits ∈ aw := aw_t3 120 rfl rfl
theorem qw3_121 : Cond.codeWith yL_limits method_10_code (8) (Option.some FieldType.int) [((0), (20), (23), (21)), ((0), (20), (27), (13))] ∈ aw := aw_t3 121 rfl rfl
theorem qw3_122 : Cond.methodLink "WeatherMastLaw" (45) yX4_limits ∈ aw := aw_t3 122 rfl rfl
theorem qw3_123 : Cond.instanceMethod yX4_limits ∈ aw := aw_t3 123 rfl rfl
theorem qw3_124 : Cond.selects "WeatherMast" yX4_limits yX4_limits ∈ aw := aw_t3 124 rfl rfl
theorem qw3_125 : Cond.code yX4_limits prog_1_method_9_code (12) (Option.some FieldType.boolean) ∈ aw := aw_t3 125 rfl rfl
theorem qt3_126 : Cond.stringRef "WeatherMast" (153) "a limit is no number" ∈ lw_tbl := List.mem_append_right _ (List.mem_append_right _ (List.mem_append_right _ (List.mem_append_left _ (List.mem_of_getElem? (i := 126) rfl))))
theorem qw3_127 : Cond.methodLink "WeatherMast" (161) yX2_isAbove ∈ aw := aw_t3 127 rfl rfl
theorem qw3_128 : Cond.methodLink "WeatherMastLaw" (101) yL_widest ∈ aw := aw_t3 128 rfl rfl
theorem qw3_129 : Cond.static yL_widest ∈ aw := aw_t3 129 rfl rfl
theorem qw3_130 : Cond.codeWith yL_widest method_11_code (4) (Option.some FieldType.int) [((0), (8), (11), (13)), ((0), (8), (14), (37))] ∈ aw := aw_t3 130 rfl rfl
theorem qw3_131 : Cond.methodLink "WeatherMastLaw" (49) yX4_widest ∈ aw := aw_t3 131 rfl rfl
theorem qw3_132 : Cond.instanceMethod yX4_widest ∈ aw := aw_t3 132 rfl rfl
theorem qw3_133 : Cond.selects "WeatherMast" yX4_widest yX4_widest ∈ aw := aw_t3 133 rfl rfl
theorem qw3_134 : Cond.code yX4_widest prog_1_method_10_code (7) (Option.some FieldType.long) ∈ aw := aw_t3 134 rfl rfl
theorem qw3_135 : Cond.methodLink "WeatherMast" (165) yX2_greater ∈ aw := aw_t3 135 rfl rfl
theorem qt3_136 : Cond.stringRef "WeatherMast" (169) "no instrument of this sort has read anything" ∈ lw_tbl := List.mem_append_right _ (List.mem_append_right _ (List.mem_append_right _ (List.mem_append_left _ (List.mem_of_getElem? (i := 136) rfl))))
theorem qw3_137 : Cond.methodLink "WeatherMastLaw" (104) yL_forget ∈ aw := aw_t3 137 rfl rfl
theorem qw3_138 : Cond.static yL_forget ∈ aw := aw_t3 138 rfl rfl
theorem qw3_139 : Cond.codeWith yL_forget method_12_code (4) (Option.some FieldType.int) [((0), (9), (12), (21))] ∈ aw := aw_t3 139 rfl rfl
theorem qw3_140 : Cond.methodLink "WeatherMastLaw" (53) yX4_forget ∈ aw := aw_t3 140 rfl rfl
theorem qw3_141 : Cond.instanceMethod yX4_forget ∈ aw := aw_t3 141 rfl rfl
theorem qw3_142 : Cond.selects "WeatherMast" yX4_forget yX4_forget ∈ aw := aw_t3 142 rfl rfl
theorem qw3_143 : Cond.code yX4_forget prog_1_method_11_code (2) (Option.some FieldType.int) ∈ aw := aw_t3 143 rfl rfl
theorem qw3_144 : Cond.methodLink "WeatherMast" (171) yX1_dropReadings ∈ aw := aw_t3 144 rfl rfl
theorem qw3_145 : Cond.instanceMethod yX1_dropReadings ∈ aw := aw_t3 145 rfl rfl
theorem qw3_146 : Cond.selects "WeatherMast$Instrument" yX1_dropReadings yX1_dropReadings ∈ aw := aw_t3 146 rfl rfl
theorem qw3_147 : Cond.code yX1_dropReadings prog_3_method_11_code (2) (Option.some FieldType.int) ∈ aw := aw_t3 147 rfl rfl
theorem qw3_148 : Cond.methodLink "WeatherMastLaw" (107) yL_alarms ∈ aw := aw_t3 148 rfl rfl
theorem qw3_149 : Cond.static yL_alarms ∈ aw := aw_t3 149 rfl rfl
theorem qw3_150 : Cond.codeWith yL_alarms method_13_code (4) (Option.some FieldType.int) [((0), (9), (12), (21))] ∈ aw := aw_t3 150 rfl rfl
theorem qw3_151 : Cond.methodLink "WeatherMastLaw" (56) yX4_alarms ∈ aw := aw_t3 151 rfl rfl
theorem qw3_152 : Cond.instanceMethod yX4_alarms ∈ aw := aw_t3 152 rfl rfl
theorem qw3_153 : Cond.selects "WeatherMast" yX4_alarms yX4_alarms ∈ aw := aw_t3 153 rfl rfl
theorem qw3_154 : Cond.code yX4_alarms prog_1_method_12_code (2) (Option.some FieldType.int) ∈ aw := aw_t3 154 rfl rfl
theorem qw3_155 : Cond.classLink "WeatherMastLaw" (60) "WeatherMastModel" ∈ aw := aw_t3 155 rfl rfl
theorem qw3_156 : Cond.instantiable "WeatherMastModel" (19) ∈ aw := aw_t3 156 rfl rfl
theorem qw3_157 : Cond.methodLink "WeatherMastLaw" (62) yX5_init ∈ aw := aw_t3 157 rfl rfl
theorem qw3_158 : Cond.instanceMethod yX5_init ∈ aw := aw_t3 158 rfl rfl
theorem qw3_159 : Cond.code yX5_init prog_7_method_1_code (1) (Option.none : Option Jvm.ClassFile.FieldType) ∈ aw := aw_t3 159 rfl rfl
theorem qw3_160 : Cond.methodLink "WeatherMastModel" (1) ⟨"java/lang/Object", "<init>", "()V"⟩ ∈ aw := aw_t3 160 rfl rfl
theorem qw3_161 : Cond.fieldLink "WeatherMastModel" (53) "WeatherMastModel" "thrown" "I" ∈ aw := aw_t3 161 rfl rfl
theorem qw3_162 : Cond.fieldLink "WeatherMastModel" (57) "WeatherMastModel" "instruments" "I" ∈ aw := aw_t3 162 rfl rfl
theorem qw3_163 : Cond.fieldLink "WeatherMastModel" (7) "WeatherMastModel" "sorts" "[I" ∈ aw := aw_t3 163 rfl rfl
theorem qw3_164 : Cond.fieldLink "WeatherMastModel" (13) "WeatherMastModel" "chains" "[I" ∈ aw := aw_t3 164 rfl rfl
theorem qw3_165 : Cond.fieldLink "WeatherMastModel" (16) "WeatherMastModel" "steps" "[I" ∈ aw := aw_t3 165 rfl rfl
theorem qw3_166 : Cond.fieldLink "WeatherMastModel" (19) "WeatherMastModel" "sources" "[I" ∈ aw := aw_t3 166 rfl rfl
theorem qw3_167 : Cond.fieldLink "WeatherMastModel" (22) "WeatherMastModel" "told" "[J" ∈ aw := aw_t3 167 rfl rfl
theorem qw3_168 : Cond.fieldLink "WeatherMastModel" (26) "WeatherMastModel" "lows" "[J" ∈ aw := aw_t3 168 rfl rfl
theorem qw3_169 : Cond.fieldLink "WeatherMastModel" (29) "WeatherMastModel" "highs" "[J" ∈ aw := aw_t3 169 rfl rfl
theorem qw3_170 : Cond.fieldLink "WeatherMastModel" (32) "WeatherMastModel" "many" "[I" ∈ aw := aw_t3 170 rfl rfl
theorem qw3_171 : Cond.fieldLink "WeatherMastModel" (35) "WeatherMastModel" "kept" "[J" ∈ aw := aw_t3 171 rfl rfl
theorem qw3_172 : Cond.fieldLink "WeatherMastModel" (38) "WeatherMastModel" "leasts" "[J" ∈ aw := aw_t3 172 rfl rfl
theorem qw3_173 : Cond.fieldLink "WeatherMastModel" (41) "WeatherMastModel" "greatests" "[J" ∈ aw := aw_t3 173 rfl rfl
theorem qw3_174 : Cond.fieldLink "WeatherMastModel" (44) "WeatherMastModel" "swings" "[J" ∈ aw := aw_t3 174 rfl rfl
theorem qw3_175 : Cond.fieldLink "WeatherMastModel" (47) "WeatherMastModel" "sums" "[J" ∈ aw := aw_t3 175 rfl rfl
theorem qw3_176 : Cond.fieldLink "WeatherMastModel" (50) "WeatherMastModel" "alarms" "[I" ∈ aw := aw_t3 176 rfl rfl
theorem qw3_177 : Cond.fieldLink "WeatherMastModel" (210) "WeatherMastModel" "readings" "I" ∈ aw := aw_t3 177 rfl rfl
theorem qw3_178 : Cond.fieldLink "WeatherMastModel" (213) "WeatherMastModel" "allAlarms" "I" ∈ aw := aw_t3 178 rfl rfl
theorem qw3_179 : Cond.fieldLink "WeatherMastModel" (198) "WeatherMastModel" "done" "I" ∈ aw := aw_t3 179 rfl rfl
theorem qw3_180 : Cond.lays "WeatherMastModel" "WeatherMastModel" "thrown" "I" ∈ aw := aw_t3 180 rfl rfl
theorem qw3_182 : Cond.lays "WeatherMastModel" "WeatherMastModel" "instruments" "I" ∈ aw := aw_t3 182 rfl rfl
theorem qw3_184 : Cond.laysFinal "WeatherMastModel" "WeatherMastModel" "sorts" "[I" ∈ aw := aw_t3 184 rfl rfl
theorem qw3_186 : Cond.laysFinal "WeatherMastModel" "WeatherMastModel" "chains" "[I" ∈ aw := aw_t3 186 rfl rfl
theorem qw3_188 : Cond.laysFinal "WeatherMastModel" "WeatherMastModel" "steps" "[I" ∈ aw := aw_t3 188 rfl rfl
theorem qw3_190 : Cond.laysFinal "WeatherMastModel" "WeatherMastModel" "sources" "[I" ∈ aw := aw_t3 190 rfl rfl
theorem qw3_192 : Cond.laysFinal "WeatherMastModel" "WeatherMastModel" "told" "[J" ∈ aw := aw_t3 192 rfl rfl
theorem qw3_194 : Cond.laysFinal "WeatherMastModel" "WeatherMastModel" "lows" "[J" ∈ aw := aw_t3 194 rfl rfl
theorem qw3_196 : Cond.laysFinal "WeatherMastModel" "WeatherMastModel" "highs" "[J" ∈ aw := aw_t3 196 rfl rfl
theorem qw3_198 : Cond.laysFinal "WeatherMastModel" "WeatherMastModel" "many" "[I" ∈ aw := aw_t3 198 rfl rfl
theorem qw3_200 : Cond.laysFinal "WeatherMastModel" "WeatherMastModel" "kept" "[J" ∈ aw := aw_t3 200 rfl rfl
theorem qw3_202 : Cond.laysFinal "WeatherMastModel" "WeatherMastModel" "leasts" "[J" ∈ aw := aw_t3 202 rfl rfl
theorem qw3_204 : Cond.laysFinal "WeatherMastModel" "WeatherMastModel" "greatests" "[J" ∈ aw := aw_t3 204 rfl rfl
theorem qw3_206 : Cond.laysFinal "WeatherMastModel" "WeatherMastModel" "swings" "[J" ∈ aw := aw_t3 206 rfl rfl
theorem qw3_208 : Cond.laysFinal "WeatherMastModel" "WeatherMastModel" "sums" "[J" ∈ aw := aw_t3 208 rfl rfl
theorem qw3_210 : Cond.laysFinal "WeatherMastModel" "WeatherMastModel" "alarms" "[I" ∈ aw := aw_t3 210 rfl rfl
theorem qw3_212 : Cond.lays "WeatherMastModel" "WeatherMastModel" "readings" "I" ∈ aw := aw_t3 212 rfl rfl
theorem qw3_214 : Cond.lays "WeatherMastModel" "WeatherMastModel" "allAlarms" "I" ∈ aw := aw_t3 214 rfl rfl
theorem qw3_216 : Cond.lays "WeatherMastModel" "WeatherMastModel" "done" "I" ∈ aw := aw_t3 216 rfl rfl
theorem qw3_218 : Cond.superclass "WeatherMastModel" "java/lang/Object" ∈ aw := aw_t3 218 rfl rfl
theorem qw3_219 : Cond.methodLink "WeatherMastLaw" (69) yX5_thrown ∈ aw := aw_t3 219 rfl rfl
theorem qw3_220 : Cond.instanceMethod yX5_thrown ∈ aw := aw_t3 220 rfl rfl
theorem qw3_221 : Cond.selects "WeatherMastModel" yX5_thrown yX5_thrown ∈ aw := aw_t3 221 rfl rfl
theorem qw3_222 : Cond.code yX5_thrown prog_7_method_2_code (1) (Option.some FieldType.int) ∈ aw := aw_t3 222 rfl rfl
theorem qw3_223 : Cond.methodLink "WeatherMastLaw" (68) yX5_mount ∈ aw := aw_t3 223 rfl rfl
theorem qw3_224 : Cond.instanceMethod yX5_mount ∈ aw := aw_t3 224 rfl rfl
theorem qw3_225 : Cond.selects "WeatherMastModel" yX5_mount yX5_mount ∈ aw := aw_t3 225 rfl rfl
theorem qw3_226 : Cond.code yX5_mount prog_7_method_30_code (3) (Option.some FieldType.int) ∈ aw := aw_t3 226 rfl rfl
theorem qw3_227 : Cond.methodLink "WeatherMastModel" (161) yX5_fail ∈ aw := aw_t3 227 rfl rfl
theorem qt3_228 : Cond.privateMethod yX5_fail ∈ lw_tbl := List.mem_append_right _ (List.mem_append_right _ (List.mem_append_right _ (List.mem_append_left _ (List.mem_of_getElem? (i := 228) rfl))))
theorem qw3_229 : Cond.instanceMethod yX5_fail ∈ aw := aw_t3 229 rfl rfl
theorem qw3_230 : Cond.code yX5_fail prog_7_method_3_code (2) (Option.some FieldType.int) ∈ aw := aw_t3 230 rfl rfl
theorem qw3_231 : Cond.constantLong "WeatherMastModel" (164) (-2147483648) ∈ aw := aw_t3 231 rfl rfl
theorem qw3_232 : Cond.constantLong "WeatherMastModel" (62) (-9223372036854775808) ∈ aw := aw_t3 232 rfl rfl
theorem qw3_233 : Cond.methodLink "WeatherMastModel" (94) yX5_endless ∈ aw := aw_t3 233 rfl rfl
theorem qw3_234 : Cond.static yX5_endless ∈ aw := aw_t3 234 rfl rfl
theorem qw3_235 : Cond.code yX5_endless prog_7_method_8_code (1) (Option.some FieldType.long) ∈ aw := aw_t3 235 rfl rfl
theorem qw3_236 : Cond.constantLong "WeatherMastModel" (64) (2139095040) ∈ aw := aw_t3 236 rfl rfl
theorem qw3_237 : Cond.constantLong "WeatherMastModel" (66) (9218868437227405312) ∈ aw := aw_t3 237 rfl rfl
theorem qw3_238 : Cond.methodLink "WeatherMastModel" (114) yX5_signed ∈ aw := aw_t3 238 rfl rfl
theorem qw3_239 : Cond.static yX5_signed ∈ aw := aw_t3 239 rfl rfl
theorem qw4_0 : Cond.code yX5_signed prog_7_method_21_code (4) (Option.some FieldType.long) ∈ aw := aw_t4 0 rfl rfl
theorem qw4_1 : Cond.methodLink "WeatherMastModel" (78) yX5_signBit ∈ aw := aw_t4 1 rfl rfl
theorem qw4_2 : Cond.static yX5_signBit ∈ aw := aw_t4 2 rfl rfl
theorem qw4_3 : Cond.code yX5_signBit prog_7_method_7_code (1) (Option.some FieldType.long) ∈ aw := aw_t4 3 rfl rfl
theorem qw4_4 : Cond.constantLong "WeatherMastModel" (60) (2147483648) ∈ aw := aw_t4 4 rfl rfl
theorem qw4_5 : Cond.methodLink "WeatherMastModel" (88) yX5_cut ∈ aw := aw_t4 5 rfl rfl
theorem qw4_6 : Cond.static yX5_cut ∈ aw := aw_t4 6 rfl rfl
theorem qw4_7 : Cond.code yX5_cut prog_7_method_10_code (3) (Option.some FieldType.long) ∈ aw := aw_t4 7 rfl rfl
theorem qw4_8 : Cond.constantLong "WeatherMastModel" (166) (2147483647) ∈ aw := aw_t4 8 rfl rfl
theorem qw4_9 : Cond.constantLong "WeatherMastModel" (168) (9223372036854775807) ∈ aw := aw_t4 9 rfl rfl
theorem qw4_10 : Cond.methodLink "WeatherMastLaw" (78) yX5_step ∈ aw := aw_t4 10 rfl rfl
theorem qw4_11 : Cond.instanceMethod yX5_step ∈ aw := aw_t4 11 rfl rfl
theorem qw4_12 : Cond.selects "WeatherMastModel" yX5_step yX5_step ∈ aw := aw_t4 12 rfl rfl
theorem qw4_13 : Cond.code yX5_step prog_7_method_32_code (6) (Option.some FieldType.int) ∈ aw := aw_t4 13 rfl rfl
theorem qw4_14 : Cond.methodLink "WeatherMastModel" (170) yX5_isInstrument ∈ aw := aw_t4 14 rfl rfl
theorem qt4_15 : Cond.privateMethod yX5_isInstrument ∈ lw_tbl := List.mem_append_right _ (List.mem_append_right _ (List.mem_append_right _ (List.mem_append_right _ (List.mem_of_getElem? (i := 15) rfl))))
theorem qw4_16 : Cond.instanceMethod yX5_isInstrument ∈ aw := aw_t4 16 rfl rfl
theorem qw4_17 : Cond.code yX5_isInstrument prog_7_method_4_code (2) (Option.some FieldType.boolean) ∈ aw := aw_t4 17 rfl rfl
theorem qw4_18 : Cond.methodLink "WeatherMastModel" (173) yX5_isStep ∈ aw := aw_t4 18 rfl rfl
theorem qw4_19 : Cond.static yX5_isStep ∈ aw := aw_t4 19 rfl rfl
theorem qw4_20 : Cond.code yX5_isStep prog_7_method_25_code (2) (Option.some FieldType.boolean) ∈ aw := aw_t4 20 rfl rfl
theorem qw4_21 : Cond.methodLink "WeatherMastModel" (84) yX5_isReal ∈ aw := aw_t4 21 rfl rfl
theorem qw4_22 : Cond.static yX5_isReal ∈ aw := aw_t4 22 rfl rfl
theorem qw4_23 : Cond.code yX5_isReal prog_7_method_5_code (1) (Option.some FieldType.boolean) ∈ aw := aw_t4 23 rfl rfl
theorem qw4_24 : Cond.methodLink "WeatherMastModel" (177) yX5_takes ∈ aw := aw_t4 24 rfl rfl
theorem qw4_25 : Cond.static yX5_takes ∈ aw := aw_t4 25 rfl rfl
theorem qw4_26 : Cond.code yX5_takes prog_7_method_24_code (1) (Option.some FieldType.boolean) ∈ aw := aw_t4 26 rfl rfl
theorem qw4_27 : Cond.methodLink "WeatherMastModel" (180) yX5_isNone ∈ aw := aw_t4 27 rfl rfl
theorem qw4_28 : Cond.static yX5_isNone ∈ aw := aw_t4 28 rfl rfl
theorem qw4_29 : Cond.code yX5_isNone prog_7_method_14_code (3) (Option.some FieldType.boolean) ∈ aw := aw_t4 29 rfl rfl
theorem qw4_30 : Cond.methodLink "WeatherMastModel" (91) yX5_amountBits ∈ aw := aw_t4 30 rfl rfl
theorem qw4_31 : Cond.static yX5_amountBits ∈ aw := aw_t4 31 rfl rfl
theorem qw4_32 : Cond.code yX5_amountBits prog_7_method_12_code (3) (Option.some FieldType.long) ∈ aw := aw_t4 32 rfl rfl
theorem qw4_33 : Cond.methodLink "WeatherMastModel" (74) yX5_form ∈ aw := aw_t4 33 rfl rfl
theorem qw4_34 : Cond.static yX5_form ∈ aw := aw_t4 34 rfl rfl
theorem qw4_35 : Cond.code yX5_form prog_7_method_11_code (3) (Option.some FieldType.long) ∈ aw := aw_t4 35 rfl rfl
theorem qw4_36 : Cond.constantLong "WeatherMastModel" (72) (4294967295) ∈ aw := aw_t4 36 rfl rfl
theorem qw4_37 : Cond.constantLong "WeatherMastModel" (82) (-1) ∈ aw := aw_t4 37 rfl rfl
theorem qw4_38 : Cond.methodLink "WeatherMastModel" (183) yX5_link ∈ aw := aw_t4 38 rfl rfl
theorem qt4_39 : Cond.privateMethod yX5_link ∈ lw_tbl := List.mem_append_right _ (List.mem_append_right _ (List.mem_append_right _ (List.mem_append_right _ (List.mem_of_getElem? (i := 39) rfl))))
theorem qw4_40 : Cond.instanceMethod yX5_link ∈ aw := aw_t4 40 rfl rfl
theorem qw4_41 : Cond.code yX5_link prog_7_method_31_code (7) (Option.some FieldType.int) ∈ aw := aw_t4 41 rfl rfl
theorem qw4_42 : Cond.methodLink "WeatherMastLaw" (82) yX5_follow ∈ aw := aw_t4 42 rfl rfl
theorem qw4_43 : Cond.instanceMethod yX5_follow ∈ aw := aw_t4 43 rfl rfl
theorem qw4_44 : Cond.selects "WeatherMastModel" yX5_follow yX5_follow ∈ aw := aw_t4 44 rfl rfl
theorem qw4_45 : Cond.code yX5_follow prog_7_method_33_code (4) (Option.some FieldType.int) ∈ aw := aw_t4 45 rfl rfl
theorem qw4_46 : Cond.methodLink "WeatherMastLaw" (100) yX5_limits ∈ aw := aw_t4 46 rfl rfl
theorem qw4_47 : Cond.instanceMethod yX5_limits ∈ aw := aw_t4 47 rfl rfl
theorem qw4_48 : Cond.selects "WeatherMastModel" yX5_limits yX5_limits ∈ aw := aw_t4 48 rfl rfl
theorem qw4_49 : Cond.code yX5_limits prog_7_method_34_code (7) (Option.some FieldType.boolean) ∈ aw := aw_t4 49 rfl rfl
theorem qw4_50 : Cond.methodLink "WeatherMastModel" (187) yX5_isAbove ∈ aw := aw_t4 50 rfl rfl
theorem qw4_51 : Cond.static yX5_isAbove ∈ aw := aw_t4 51 rfl rfl
theorem qw4_52 : Cond.code yX5_isAbove prog_7_method_19_code (5) (Option.some FieldType.boolean) ∈ aw := aw_t4 52 rfl rfl
theorem qw4_53 : Cond.methodLink "WeatherMastModel" (104) yX5_height ∈ aw := aw_t4 53 rfl rfl
theorem qw4_54 : Cond.static yX5_height ∈ aw := aw_t4 54 rfl rfl
theorem qw4_55 : Cond.code yX5_height prog_7_method_16_code (3) (Option.some FieldType.long) ∈ aw := aw_t4 55 rfl rfl
theorem qw4_56 : Cond.methodLink "WeatherMastModel" (101) yX5_rank ∈ aw := aw_t4 56 rfl rfl
theorem qw4_57 : Cond.static yX5_rank ∈ aw := aw_t4 57 rfl rfl
theorem qw4_58 : Cond.code yX5_rank prog_7_method_15_code (5) (Option.some FieldType.long) ∈ aw := aw_t4 58 rfl rfl
theorem qw4_59 : Cond.methodLink "WeatherMastModel" (97) yX5_isMinus ∈ aw := aw_t4 59 rfl rfl
theorem qw4_60 : Cond.static yX5_isMinus ∈ aw := aw_t4 60 rfl rfl
theorem qw4_61 : Cond.code yX5_isMinus prog_7_method_13_code (3) (Option.some FieldType.boolean) ∈ aw := aw_t4 61 rfl rfl
theorem qw4_62 : Cond.methodLink "WeatherMastLaw" (86) yX5_read ∈ aw := aw_t4 62 rfl rfl
theorem qw4_63 : Cond.instanceMethod yX5_read ∈ aw := aw_t4 63 rfl rfl
theorem qw4_64 : Cond.selects "WeatherMastModel" yX5_read yX5_read ∈ aw := aw_t4 64 rfl rfl
theorem qw4_65 : Cond.code yX5_read prog_7_method_37_code (9) (Option.some FieldType.long) ∈ aw := aw_t4 65 rfl rfl
theorem qw4_66 : Cond.methodLink "WeatherMastModel" (201) yX5_through ∈ aw := aw_t4 66 rfl rfl
theorem qt4_67 : Cond.privateMethod yX5_through ∈ lw_tbl := List.mem_append_right _ (List.mem_append_right _ (List.mem_append_right _ (List.mem_append_right _ (List.mem_of_getElem? (i := 67) rfl))))
theorem qw4_68 : Cond.instanceMethod yX5_through ∈ aw := aw_t4 68 rfl rfl
theorem qw4_69 : Cond.code yX5_through prog_7_method_36_code (9) (Option.some FieldType.long) ∈ aw := aw_t4 69 rfl rfl
theorem qw4_70 : Cond.methodLink "WeatherMastModel" (191) yX5_latest ∈ aw := aw_t4 70 rfl rfl
theorem qt4_71 : Cond.privateMethod yX5_latest ∈ lw_tbl := List.mem_append_right _ (List.mem_append_right _ (List.mem_append_right _ (List.mem_append_right _ (List.mem_of_getElem? (i := 71) rfl))))
theorem qw4_72 : Cond.instanceMethod yX5_latest ∈ aw := aw_t4 72 rfl rfl
theorem qw4_73 : Cond.code yX5_latest prog_7_method_35_code (2) (Option.some FieldType.long) ∈ aw := aw_t4 73 rfl rfl
theorem qw4_74 : Cond.methodLink "WeatherMastModel" (194) yX5_changed ∈ aw := aw_t4 74 rfl rfl
theorem qw4_75 : Cond.static yX5_changed ∈ aw := aw_t4 75 rfl rfl
theorem qw4_76 : Cond.code yX5_changed prog_7_method_23_code (6) (Option.some FieldType.long) ∈ aw := aw_t4 76 rfl rfl
theorem qw4_77 : Cond.methodLink "WeatherMastModel" (120) yX5_amount ∈ aw := aw_t4 77 rfl rfl
theorem qw4_78 : Cond.static yX5_amount ∈ aw := aw_t4 78 rfl rfl
theorem qw4_79 : Cond.code yX5_amount prog_7_method_20_code (3) (Option.some FieldType.long) ∈ aw := aw_t4 79 rfl rfl
theorem qw4_80 : Cond.methodLink "WeatherMastModel" (123) yX5_greater ∈ aw := aw_t4 80 rfl rfl
theorem qw4_81 : Cond.static yX5_greater ∈ aw := aw_t4 81 rfl rfl
theorem qw4_82 : Cond.code yX5_greater prog_7_method_17_code (5) (Option.some FieldType.long) ∈ aw := aw_t4 82 rfl rfl
theorem qw4_83 : Cond.methodLink "WeatherMastModel" (127) yX5_lesser ∈ aw := aw_t4 83 rfl rfl
theorem qw4_84 : Cond.static yX5_lesser ∈ aw := aw_t4 84 rfl rfl
theorem qw4_85 : Cond.code yX5_lesser prog_7_method_18_code (5) (Option.some FieldType.long) ∈ aw := aw_t4 85 rfl rfl
theorem qw4_86 : Cond.methodLink "WeatherMastModel" (111) yX5_one ∈ aw := aw_t4 86 rfl rfl
theorem qw4_87 : Cond.static yX5_one ∈ aw := aw_t4 87 rfl rfl
theorem qw4_88 : Cond.code yX5_one prog_7_method_9_code (1) (Option.some FieldType.long) ∈ aw := aw_t4 88 rfl rfl
theorem qw4_89 : Cond.constantLong "WeatherMastModel" (68) (1065353216) ∈ aw := aw_t4 89 rfl rfl
theorem qw4_90 : Cond.constantLong "WeatherMastModel" (70) (4607182418800017408) ∈ aw := aw_t4 90 rfl rfl
theorem qw4_91 : Cond.methodLink "WeatherMastModel" (130) yX5_toWhole ∈ aw := aw_t4 91 rfl rfl
theorem qw4_92 : Cond.static yX5_toWhole ∈ aw := aw_t4 92 rfl rfl
theorem qw4_93 : Cond.code yX5_toWhole prog_7_method_22_code (16) (Option.some FieldType.long) ∈ aw := aw_t4 93 rfl rfl
theorem qw4_94 : Cond.methodLink "WeatherMastModel" (107) yX5_places ∈ aw := aw_t4 94 rfl rfl
theorem qw4_95 : Cond.static yX5_places ∈ aw := aw_t4 95 rfl rfl
theorem qw4_96 : Cond.code yX5_places prog_7_method_6_code (1) (Option.some FieldType.int) ∈ aw := aw_t4 96 rfl rfl
theorem qw4_97 : Cond.constantLong "WeatherMastModel" (118) (2) ∈ aw := aw_t4 97 rfl rfl
theorem qw4_98 : Cond.methodLink "WeatherMastModel" (204) yX5_swing ∈ aw := aw_t4 98 rfl rfl
theorem qw4_99 : Cond.static yX5_swing ∈ aw := aw_t4 99 rfl rfl
theorem qw4_100 : Cond.code yX5_swing prog_7_method_28_code (5) (Option.some FieldType.long) ∈ aw := aw_t4 100 rfl rfl
theorem qw4_101 : Cond.methodLink "WeatherMastModel" (146) yX5_single ∈ aw := aw_t4 101 rfl rfl
theorem qw4_102 : Cond.static yX5_single ∈ aw := aw_t4 102 rfl rfl
theorem qw4_103 : Cond.code yX5_single prog_7_method_26_code (2) (Option.some FieldType.float) ∈ aw := aw_t4 103 rfl rfl
theorem qw4_104 : Cond.methodLink "WeatherMastModel" (134) ⟨"java/lang/Float", "intBitsToFloat", "(I)F"⟩ ∈ aw := aw_t4 104 rfl rfl
theorem qw4_105 : Cond.static ⟨"java/lang/Float", "intBitsToFloat", "(I)F"⟩ ∈ aw := aw_t4 105 rfl rfl
theorem qw4_106 : Cond.native ⟨"java/lang/Float", "intBitsToFloat", "(I)F"⟩ ∈ aw := aw_t4 106 rfl rfl
theorem qw4_107 : Cond.methodLink "WeatherMastModel" (150) yJxf58ca_floatToIntBits_5c35a ∈ aw := aw_t4 107 rfl rfl
theorem qw4_108 : Cond.static yJxf58ca_floatToIntBits_5c35a ∈ aw := aw_t4 108 rfl rfl
theorem qw4_109 : Cond.code yJxf58ca_floatToIntBits_5c35a prog_12_method_24_code (1) (Option.some FieldType.int) ∈ aw := aw_t4 109 rfl rfl
theorem qw4_110 : Cond.methodLink "java/lang/Float" (59) yJxf58ca_isNaN_12338 ∈ aw := aw_t4 110 rfl rfl
theorem qw4_111 : Cond.static yJxf58ca_isNaN_12338 ∈ aw := aw_t4 111 rfl rfl
theorem qw4_112 : Cond.code yJxf58ca_isNaN_12338 prog_12_method_6_code (1) (Option.some FieldType.boolean) ∈ aw := aw_t4 112 rfl rfl
theorem qw4_113 : Cond.methodLink "java/lang/Float" (74) ⟨"java/lang/Float", "floatToRawIntBits", "(F)I"⟩ ∈ aw := aw_t4 113 rfl rfl
theorem qw4_114 : Cond.static ⟨"java/lang/Float", "floatToRawIntBits", "(F)I"⟩ ∈ aw := aw_t4 114 rfl rfl
theorem qw4_115 : Cond.native ⟨"java/lang/Float", "floatToRawIntBits", "(F)I"⟩ ∈ aw := aw_t4 115 rfl rfl
theorem qw4_116 : Cond.constant "java/lang/Float" (77) (2143289344) ∈ aw := aw_t4 116 rfl rfl
theorem qw4_117 : Cond.methodLink "WeatherMastModel" (154) yX5_real ∈ aw := aw_t4 117 rfl rfl
theorem qw4_118 : Cond.static yX5_real ∈ aw := aw_t4 118 rfl rfl
theorem qw4_119 : Cond.code yX5_real prog_7_method_27_code (2) (Option.some FieldType.double) ∈ aw := aw_t4 119 rfl rfl
theorem qw4_120 : Cond.methodLink "WeatherMastModel" (140) ⟨"java/lang/Double", "longBitsToDouble", "(J)D"⟩ ∈ aw := aw_t4 120 rfl rfl
theorem qw4_121 : Cond.static ⟨"java/lang/Double", "longBitsToDouble", "(J)D"⟩ ∈ aw := aw_t4 121 rfl rfl
theorem qw4_122 : Cond.native ⟨"java/lang/Double", "longBitsToDouble", "(J)D"⟩ ∈ aw := aw_t4 122 rfl rfl
theorem qw4_123 : Cond.methodLink "WeatherMastModel" (157) yJxe99ae_doubleToLongBits_ccdee ∈ aw := aw_t4 123 rfl rfl
theorem qw4_124 : Cond.static yJxe99ae_doubleToLongBits_ccdee ∈ aw := aw_t4 124 rfl rfl
theorem qw4_125 : Cond.code yJxe99ae_doubleToLongBits_ccdee prog_10_method_23_code (2) (Option.some FieldType.long) ∈ aw := aw_t4 125 rfl rfl
theorem qw4_126 : Cond.methodLink "java/lang/Double" (122) yJxe99ae_isNaN_b9ae7 ∈ aw := aw_t4 126 rfl rfl
theorem qw4_127 : Cond.static yJxe99ae_isNaN_b9ae7 ∈ aw := aw_t4 127 rfl rfl
theorem qw4_128 : Cond.code yJxe99ae_isNaN_b9ae7 prog_10_method_6_code (2) (Option.some FieldType.boolean) ∈ aw := aw_t4 128 rfl rfl
theorem qw4_129 : Cond.methodLink "java/lang/Double" (134) ⟨"java/lang/Double", "doubleToRawLongBits", "(D)J"⟩ ∈ aw := aw_t4 129 rfl rfl
theorem qw4_130 : Cond.static ⟨"java/lang/Double", "doubleToRawLongBits", "(D)J"⟩ ∈ aw := aw_t4 130 rfl rfl
theorem qw4_131 : Cond.native ⟨"java/lang/Double", "doubleToRawLongBits", "(D)J"⟩ ∈ aw := aw_t4 131 rfl rfl
theorem qw4_132 : Cond.constantLong "java/lang/Double" (137) (9221120237041090560) ∈ aw := aw_t4 132 rfl rfl
theorem qw4_133 : Cond.methodLink "WeatherMastModel" (207) yX5_sum ∈ aw := aw_t4 133 rfl rfl
theorem qw4_134 : Cond.static yX5_sum ∈ aw := aw_t4 134 rfl rfl
theorem qw4_135 : Cond.code yX5_sum prog_7_method_29_code (5) (Option.some FieldType.long) ∈ aw := aw_t4 135 rfl rfl
theorem qw4_136 : Cond.methodLink "WeatherMastLaw" (106) yX5_forget ∈ aw := aw_t4 136 rfl rfl
theorem qw4_137 : Cond.instanceMethod yX5_forget ∈ aw := aw_t4 137 rfl rfl
theorem qw4_138 : Cond.selects "WeatherMastModel" yX5_forget yX5_forget ∈ aw := aw_t4 138 rfl rfl
theorem qw4_139 : Cond.code yX5_forget prog_7_method_38_code (3) (Option.some FieldType.int) ∈ aw := aw_t4 139 rfl rfl
theorem qw4_140 : Cond.methodLink "WeatherMastLaw" (90) yX5_reading ∈ aw := aw_t4 140 rfl rfl
theorem qw4_141 : Cond.instanceMethod yX5_reading ∈ aw := aw_t4 141 rfl rfl
theorem qw4_142 : Cond.selects "WeatherMastModel" yX5_reading yX5_reading ∈ aw := aw_t4 142 rfl rfl
theorem qw4_143 : Cond.code yX5_reading prog_7_method_39_code (4) (Option.some FieldType.long) ∈ aw := aw_t4 143 rfl rfl
theorem qw4_144 : Cond.methodLink "WeatherMastLaw" (93) yX5_tell ∈ aw := aw_t4 144 rfl rfl
theorem qw4_145 : Cond.instanceMethod yX5_tell ∈ aw := aw_t4 145 rfl rfl
theorem qw4_146 : Cond.selects "WeatherMastModel" yX5_tell yX5_tell ∈ aw := aw_t4 146 rfl rfl
theorem qw4_147 : Cond.code yX5_tell prog_7_method_40_code (3) (Option.some FieldType.long) ∈ aw := aw_t4 147 rfl rfl
theorem qw4_148 : Cond.methodLink "WeatherMastLaw" (96) yX5_whole ∈ aw := aw_t4 148 rfl rfl
theorem qw4_149 : Cond.instanceMethod yX5_whole ∈ aw := aw_t4 149 rfl rfl
theorem qw4_150 : Cond.selects "WeatherMastModel" yX5_whole yX5_whole ∈ aw := aw_t4 150 rfl rfl
theorem qw4_151 : Cond.code yX5_whole prog_7_method_41_code (4) (Option.some FieldType.int) ∈ aw := aw_t4 151 rfl rfl
theorem qw4_152 : Cond.methodLink "WeatherMastLaw" (103) yX5_widest ∈ aw := aw_t4 152 rfl rfl
theorem qw4_153 : Cond.instanceMethod yX5_widest ∈ aw := aw_t4 153 rfl rfl
theorem qw4_154 : Cond.selects "WeatherMastModel" yX5_widest yX5_widest ∈ aw := aw_t4 154 rfl rfl
theorem qw4_155 : Cond.code yX5_widest prog_7_method_42_code (6) (Option.some FieldType.long) ∈ aw := aw_t4 155 rfl rfl
theorem qw4_156 : Cond.methodLink "WeatherMastLaw" (109) yX5_alarms ∈ aw := aw_t4 156 rfl rfl
theorem qw4_157 : Cond.instanceMethod yX5_alarms ∈ aw := aw_t4 157 rfl rfl
theorem qw4_158 : Cond.selects "WeatherMastModel" yX5_alarms yX5_alarms ∈ aw := aw_t4 158 rfl rfl
theorem qw4_159 : Cond.code yX5_alarms prog_7_method_43_code (2) (Option.some FieldType.int) ∈ aw := aw_t4 159 rfl rfl
theorem qw4_160 : Cond.methodLink "WeatherMastLaw" (113) yX5_count ∈ aw := aw_t4 160 rfl rfl
theorem qw4_161 : Cond.instanceMethod yX5_count ∈ aw := aw_t4 161 rfl rfl
theorem qw4_162 : Cond.selects "WeatherMastModel" yX5_count yX5_count ∈ aw := aw_t4 162 rfl rfl
theorem qw4_163 : Cond.code yX5_count prog_7_method_44_code (2) (Option.some FieldType.int) ∈ aw := aw_t4 163 rfl rfl
theorem qw4_164 : Cond.constantLong "WeatherMastLaw" (73) (4294967295) ∈ aw := aw_t4 164 rfl rfl
theorem qw4_165 : Cond.sameMethod "java/lang/Throwable" "java/lang/Throwable" "fillInStackTrace" "(I)Ljava/lang/Throwable;" ∈ aw := aw_t4 165 rfl rfl
theorem qw4_166 : Cond.selects "WeatherMast$Wrapping" yX3_amount yX3_amount ∈ aw := aw_t4 166 rfl rfl
theorem qt4_167 : Cond.castable "WeatherMast" "java/lang/Object" ∈ lw_tbl := List.mem_append_right _ (List.mem_append_right _ (List.mem_append_right _ (List.mem_append_right _ (List.mem_of_getElem? (i := 167) rfl))))
theorem qt4_168 : Cond.castable "WeatherMastModel" "java/lang/Object" ∈ lw_tbl := List.mem_append_right _ (List.mem_append_right _ (List.mem_append_right _ (List.mem_append_right _ (List.mem_of_getElem? (i := 168) rfl))))
theorem qt4_169 : Cond.castable "java/lang/IllegalArgumentException" "java/lang/Object" ∈ lw_tbl := List.mem_append_right _ (List.mem_append_right _ (List.mem_append_right _ (List.mem_append_right _ (List.mem_of_getElem? (i := 169) rfl))))
theorem qt4_170 : Cond.castable "java/lang/UnsupportedOperationException" "java/lang/Object" ∈ lw_tbl := List.mem_append_right _ (List.mem_append_right _ (List.mem_append_right _ (List.mem_append_right _ (List.mem_of_getElem? (i := 170) rfl))))
theorem qt4_171 : Cond.castable "WeatherMast$Instrument" "java/lang/Object" ∈ lw_tbl := List.mem_append_right _ (List.mem_append_right _ (List.mem_append_right _ (List.mem_append_right _ (List.mem_of_getElem? (i := 171) rfl))))
theorem qt4_172 : Cond.castable "WeatherMast$Wrapping" "java/lang/Object" ∈ lw_tbl := List.mem_append_right _ (List.mem_append_right _ (List.mem_append_right _ (List.mem_append_right _ (List.mem_of_getElem? (i := 172) rfl))))
theorem qt4_173 : Cond.castable "WeatherMast$Floating" "java/lang/Object" ∈ lw_tbl := List.mem_append_right _ (List.mem_append_right _ (List.mem_append_right _ (List.mem_append_right _ (List.mem_of_getElem? (i := 173) rfl))))
theorem qt4_174 : Cond.castable "java/lang/IndexOutOfBoundsException" "java/lang/Object" ∈ lw_tbl := List.mem_append_right _ (List.mem_append_right _ (List.mem_append_right _ (List.mem_append_right _ (List.mem_of_getElem? (i := 174) rfl))))
theorem qt4_175 : Cond.castable "java/lang/IllegalStateException" "java/lang/Object" ∈ lw_tbl := List.mem_append_right _ (List.mem_append_right _ (List.mem_append_right _ (List.mem_append_right _ (List.mem_of_getElem? (i := 175) rfl))))
theorem qt4_176 : Cond.castable "java/util/NoSuchElementException" "java/lang/Object" ∈ lw_tbl := List.mem_append_right _ (List.mem_append_right _ (List.mem_append_right _ (List.mem_append_right _ (List.mem_of_getElem? (i := 176) rfl))))
theorem qt4_177 : Cond.castable "java/lang/Throwable" "java/lang/Object" ∈ lw_tbl := List.mem_append_right _ (List.mem_append_right _ (List.mem_append_right _ (List.mem_append_right _ (List.mem_of_getElem? (i := 177) rfl))))
theorem qt4_178 : Cond.castable "java/lang/String" "java/lang/Object" ∈ lw_tbl := List.mem_append_right _ (List.mem_append_right _ (List.mem_append_right _ (List.mem_append_right _ (List.mem_of_getElem? (i := 178) rfl))))
theorem qs_0 : Cond.selects "java/lang/Throwable" ⟨"java/lang/Throwable", "fillInStackTrace", "(I)Ljava/lang/Throwable;"⟩ ⟨"java/lang/Throwable", "fillInStackTrace", "(I)Ljava/lang/Throwable;"⟩ ∈ aw := aw_sel (q := (⟨"java/lang/Throwable", "fillInStackTrace", "(I)Ljava/lang/Throwable;"⟩, 6)) (List.mem_append_left _ (List.mem_of_getElem? (i := 0) rfl)) rfl
theorem qs_1 : Cond.selects "WeatherMast" yX4_instrumentAt yX4_instrumentAt ∈ aw := aw_sel (q := (yX4_instrumentAt, 5)) (List.mem_append_left _ (List.mem_of_getElem? (i := 1) rfl)) rfl
theorem qs_2 : Cond.selects "WeatherMast$Floating" yX0_raised yX0_raised ∈ aw := aw_sel (q := (yX0_raised, 11)) (List.mem_append_left _ (List.mem_of_getElem? (i := 2) rfl)) rfl
theorem qs_3 : Cond.selects "WeatherMast$Floating" yX0_cut yX0_cut ∈ aw := aw_sel (q := (yX0_cut, 11)) (List.mem_append_left _ (List.mem_of_getElem? (i := 3) rfl)) rfl
theorem qs_4 : Cond.selects "WeatherMast$Floating" yX0_bitsBehindPoint yX0_bitsBehindPoint ∈ aw := aw_sel (q := (yX0_bitsBehindPoint, 11)) (List.mem_append_left _ (List.mem_of_getElem? (i := 4) rfl)) rfl
theorem qs_5 : Cond.selects "WeatherMast$Floating" yX0_exponentOf yX0_exponentOf ∈ aw := aw_sel (q := (yX0_exponentOf, 11)) (List.mem_append_left _ (List.mem_of_getElem? (i := 5) rfl)) rfl
theorem qs_6 : Cond.selects "WeatherMast$Floating" yX0_nextWhole yX0_nextWhole ∈ aw := aw_sel (q := (yX0_nextWhole, 11)) (List.mem_append_left _ (List.mem_of_getElem? (i := 6) rfl)) rfl
theorem qs_7 : Cond.selects "WeatherMast$Floating" yX0_withSignOf yX0_withSignOf ∈ aw := aw_sel (q := (yX0_withSignOf, 11)) (List.mem_append_left _ (List.mem_of_getElem? (i := 7) rfl)) rfl
theorem qs_8 : Cond.selects "WeatherMast$Floating" yX0_nearest yX0_nearest ∈ aw := aw_sel (q := (yX0_nearest, 11)) (List.mem_append_left _ (List.mem_of_getElem? (i := 8) rfl)) rfl
theorem qs_9 : Cond.selects "WeatherMast$Floating" yX0_significandOf yX0_significandOf ∈ aw := aw_sel (q := (yX0_significandOf, 11)) (List.mem_append_left _ (List.mem_of_getElem? (i := 9) rfl)) rfl
theorem qs_10 : Cond.selects "WeatherMast$Floating" yX0_rounded yX0_rounded ∈ aw := aw_sel (q := (yX0_rounded, 11)) (List.mem_append_left _ (List.mem_of_getElem? (i := 10) rfl)) rfl
theorem qs_11 : Cond.selects "WeatherMast$Floating" yX0_minus yX0_minus ∈ aw := aw_sel (q := (yX0_minus, 11)) (List.mem_append_left _ (List.mem_of_getElem? (i := 11) rfl)) rfl
theorem qs_12 : Cond.selects "WeatherMastModel" yX5_fail yX5_fail ∈ aw := aw_sel (q := (yX5_fail, 19)) (List.mem_append_left _ (List.mem_of_getElem? (i := 12) rfl)) rfl
theorem qs_13 : Cond.selects "WeatherMastModel" yX5_isInstrument yX5_isInstrument ∈ aw := aw_sel (q := (yX5_isInstrument, 19)) (List.mem_append_left _ (List.mem_of_getElem? (i := 13) rfl)) rfl
theorem qs_14 : Cond.selects "WeatherMastModel" yX5_link yX5_link ∈ aw := aw_sel (q := (yX5_link, 19)) (List.mem_append_left _ (List.mem_of_getElem? (i := 14) rfl)) rfl
theorem qs_15 : Cond.selects "WeatherMastModel" yX5_through yX5_through ∈ aw := aw_sel (q := (yX5_through, 19)) (List.mem_append_left _ (List.mem_of_getElem? (i := 15) rfl)) rfl
theorem qs_16 : Cond.selects "WeatherMastModel" yX5_latest yX5_latest ∈ aw := aw_sel (q := (yX5_latest, 19)) (List.mem_append_right _ (List.mem_of_getElem? (i := 0) rfl)) rfl
theorem inX0 : ∀ w ∈ wsX00, w ∈ aw := by
  intro w hw
  obtain ⟨k, hk, rfl⟩ := List.mem_map.mp hw
  have hk := List.mem_range.mp hk
  match k, hk with
  | 0, _ => exact qw1_207
  | 1, _ => exact qw1_208
  | 2, _ => exact qw1_209
  | 3, _ => exact qw1_210
  | 4, _ => exact qw1_193
  | 5, _ => exact qw1_195
  | 6, _ => exact qw1_197
  | 7, _ => exact qw1_199
  | 8, _ => exact qw1_201
  | 9, _ => exact qw1_203
  | 10, _ => exact qw1_205
  | k + 11, h => omega
theorem inX1 : ∀ w ∈ wsX10, w ∈ aw := by
  intro w hw
  obtain ⟨k, hk, rfl⟩ := List.mem_map.mp hw
  have hk := List.mem_range.mp hk
  match k, hk with
  | 0, _ => exact qw2_1
  | 1, _ => exact qw2_3
  | 2, _ => exact qw2_5
  | 3, _ => exact qw2_7
  | 4, _ => exact qw2_9
  | 5, _ => exact qw2_11
  | 6, _ => exact qw2_13
  | 7, _ => exact qw2_15
  | 8, _ => exact qw2_17
  | 9, _ => exact qw2_19
  | 10, _ => exact qw2_21
  | 11, _ => exact qw2_23
  | 12, _ => exact qw2_25
  | 13, _ => exact qw2_27
  | 14, _ => exact qw2_29
  | k + 15, h => omega
theorem inX2 : ∀ w ∈ wsX20, w ∈ aw := by
  intro w hw
  obtain ⟨k, hk, rfl⟩ := List.mem_map.mp hw
  have hk := List.mem_range.mp hk
  match k, hk with
  | k + 0, h => omega
theorem inX3 : ∀ w ∈ wsX30, w ∈ aw := by
  intro w hw
  obtain ⟨k, hk, rfl⟩ := List.mem_map.mp hw
  have hk := List.mem_range.mp hk
  match k, hk with
  | 0, _ => exact qw1_167
  | 1, _ => exact qw1_169
  | 2, _ => exact qw1_171
  | 3, _ => exact qw1_173
  | k + 4, h => omega
theorem inX4 : ∀ w ∈ wsX40, w ∈ aw := by
  intro w hw
  obtain ⟨k, hk, rfl⟩ := List.mem_map.mp hw
  have hk := List.mem_range.mp hk
  match k, hk with
  | 0, _ => exact qw1_34
  | 1, _ => exact qw1_36
  | 2, _ => exact qw1_38
  | 3, _ => exact qw1_40
  | 4, _ => exact qw1_42
  | k + 5, h => omega
theorem inX5 : ∀ w ∈ wsX50, w ∈ aw := by
  intro w hw
  obtain ⟨k, hk, rfl⟩ := List.mem_map.mp hw
  have hk := List.mem_range.mp hk
  match k, hk with
  | 0, _ => exact qw3_180
  | 1, _ => exact qw3_182
  | 2, _ => exact qw3_184
  | 3, _ => exact qw3_186
  | 4, _ => exact qw3_188
  | 5, _ => exact qw3_190
  | 6, _ => exact qw3_192
  | 7, _ => exact qw3_194
  | 8, _ => exact qw3_196
  | 9, _ => exact qw3_198
  | 10, _ => exact qw3_200
  | 11, _ => exact qw3_202
  | 12, _ => exact qw3_204
  | 13, _ => exact qw3_206
  | 14, _ => exact qw3_208
  | 15, _ => exact qw3_210
  | 16, _ => exact qw3_212
  | 17, _ => exact qw3_214
  | 18, _ => exact qw3_216
  | k + 19, h => omega
end
section
theorem dX0_init_0 : decode cX0_init 0 = .ok (.aload_n 0, 1) := by decide +kernel
theorem dX0_init_1 : decode cX0_init 1 = .ok (.iload_n 1, 1) := by decide +kernel
theorem dX0_init_2 : decode cX0_init 2 = .ok (.bipush 7, 2) := by decide +kernel
theorem dX0_init_4 : decode cX0_init 4 = .ok (.ldc2_w 3, 3) := by decide +kernel
theorem dX0_init_7 : decode cX0_init 7 = .ok (.iload_n 1, 1) := by decide +kernel
theorem dX0_init_8 : decode cX0_init 8 = .ok (.iconst 1, 1) := by decide +kernel
theorem dX0_init_9 : decode cX0_init 9 = .ok (.isub, 1) := by decide +kernel
theorem dX0_init_10 : decode cX0_init 10 = .ok (.lshl, 1) := by decide +kernel
theorem dX0_init_11 : decode cX0_init 11 = .ok (.iload_n 1, 1) := by decide +kernel
theorem dX0_init_12 : decode cX0_init 12 = .ok (.iload_n 2, 1) := by decide +kernel
theorem dX0_init_13 : decode cX0_init 13 = .ok (.invokestatic 5, 3) := by decide +kernel
theorem dX0_init_16 : decode cX0_init 16 = .ok (.lor, 1) := by decide +kernel
theorem dX0_init_17 : decode cX0_init 17 = .ok (.iload_n 1, 1) := by decide +kernel
theorem dX0_init_18 : decode cX0_init 18 = .ok (.iload_n 2, 1) := by decide +kernel
theorem dX0_init_19 : decode cX0_init 19 = .ok (.invokestatic 5, 3) := by decide +kernel
theorem dX0_init_22 : decode cX0_init 22 = .ok (.invokespecial 11, 3) := by decide +kernel
theorem dX0_init_25 : decode cX0_init 25 = .ok (.aload_n 0, 1) := by decide +kernel
theorem dX0_init_26 : decode cX0_init 26 = .ok (.iload_n 2, 1) := by decide +kernel
theorem dX0_init_27 : decode cX0_init 27 = .ok (.putfield 17, 3) := by decide +kernel
theorem dX0_init_30 : decode cX0_init 30 = .ok (.aload_n 0, 1) := by decide +kernel
theorem dX0_init_31 : decode cX0_init 31 = .ok (.ldc2_w 3, 3) := by decide +kernel
theorem dX0_init_34 : decode cX0_init 34 = .ok (.iload_n 1, 1) := by decide +kernel
theorem dX0_init_35 : decode cX0_init 35 = .ok (.iconst 1, 1) := by decide +kernel
theorem dX0_init_36 : decode cX0_init 36 = .ok (.isub, 1) := by decide +kernel
theorem dX0_init_37 : decode cX0_init 37 = .ok (.lshl, 1) := by decide +kernel
theorem dX0_init_38 : decode cX0_init 38 = .ok (.putfield 21, 3) := by decide +kernel
theorem dX0_init_41 : decode cX0_init 41 = .ok (.aload_n 0, 1) := by decide +kernel
theorem dX0_init_42 : decode cX0_init 42 = .ok (.iload_n 1, 1) := by decide +kernel
theorem dX0_init_43 : decode cX0_init 43 = .ok (.iload_n 2, 1) := by decide +kernel
theorem dX0_init_44 : decode cX0_init 44 = .ok (.invokestatic 5, 3) := by decide +kernel
theorem dX0_init_47 : decode cX0_init 47 = .ok (.putfield 25, 3) := by decide +kernel
theorem dX0_init_50 : decode cX0_init 50 = .ok (.aload_n 0, 1) := by decide +kernel
theorem dX0_init_51 : decode cX0_init 51 = .ok (.aload_n 0, 1) := by decide +kernel
theorem dX0_init_52 : decode cX0_init 52 = .ok (.getfield 25, 3) := by decide +kernel
theorem dX0_init_55 : decode cX0_init 55 = .ok (.iload_n 2, 1) := by decide +kernel
theorem dX0_init_56 : decode cX0_init 56 = .ok (.lushr, 1) := by decide +kernel
theorem dX0_init_57 : decode cX0_init 57 = .ok (.l2i, 1) := by decide +kernel
theorem dX0_init_58 : decode cX0_init 58 = .ok (.iconst 1, 1) := by decide +kernel
theorem dX0_init_59 : decode cX0_init 59 = .ok (.ishr, 1) := by decide +kernel
theorem dX0_init_60 : decode cX0_init 60 = .ok (.putfield 28, 3) := by decide +kernel
theorem dX0_init_63 : decode cX0_init 63 = .ok (.aload_n 0, 1) := by decide +kernel
theorem dX0_init_64 : decode cX0_init 64 = .ok (.aload_n 0, 1) := by decide +kernel
theorem dX0_init_65 : decode cX0_init 65 = .ok (.getfield 28, 3) := by decide +kernel
theorem dX0_init_68 : decode cX0_init 68 = .ok (.i2l, 1) := by decide +kernel
theorem dX0_init_69 : decode cX0_init 69 = .ok (.iload_n 2, 1) := by decide +kernel
theorem dX0_init_70 : decode cX0_init 70 = .ok (.lshl, 1) := by decide +kernel
theorem dX0_init_71 : decode cX0_init 71 = .ok (.putfield 31, 3) := by decide +kernel
theorem dX0_init_74 : decode cX0_init 74 = .ok (.aload_n 0, 1) := by decide +kernel
theorem dX0_init_75 : decode cX0_init 75 = .ok (.aload_n 0, 1) := by decide +kernel
theorem dX0_init_76 : decode cX0_init 76 = .ok (.getfield 28, 3) := by decide +kernel
theorem dX0_init_79 : decode cX0_init 79 = .ok (.iconst 1, 1) := by decide +kernel
theorem dX0_init_80 : decode cX0_init 80 = .ok (.isub, 1) := by decide +kernel
theorem dX0_init_81 : decode cX0_init 81 = .ok (.i2l, 1) := by decide +kernel
theorem dX0_init_82 : decode cX0_init 82 = .ok (.iload_n 2, 1) := by decide +kernel
theorem dX0_init_83 : decode cX0_init 83 = .ok (.lshl, 1) := by decide +kernel
theorem dX0_init_84 : decode cX0_init 84 = .ok (.putfield 34, 3) := by decide +kernel
theorem dX0_init_87 : decode cX0_init 87 = .ok (.aload_n 0, 1) := by decide +kernel
theorem dX0_init_88 : decode cX0_init 88 = .ok (.lconst 1, 1) := by decide +kernel
theorem dX0_init_89 : decode cX0_init 89 = .ok (.iload_n 2, 1) := by decide +kernel
theorem dX0_init_90 : decode cX0_init 90 = .ok (.lshl, 1) := by decide +kernel
theorem dX0_init_91 : decode cX0_init 91 = .ok (.putfield 37, 3) := by decide +kernel
theorem dX0_init_94 : decode cX0_init 94 = .ok (.return_, 1) := by decide +kernel
theorem dX0_infinityOf_0 : decode cX0_infinityOf 0 = .ok (.ldc2_w 3, 3) := by decide +kernel
theorem dX0_infinityOf_3 : decode cX0_infinityOf 3 = .ok (.iload_n 0, 1) := by decide +kernel
theorem dX0_infinityOf_4 : decode cX0_infinityOf 4 = .ok (.iconst 1, 1) := by decide +kernel
theorem dX0_infinityOf_5 : decode cX0_infinityOf 5 = .ok (.isub, 1) := by decide +kernel
theorem dX0_infinityOf_6 : decode cX0_infinityOf 6 = .ok (.lshl, 1) := by decide +kernel
theorem dX0_infinityOf_7 : decode cX0_infinityOf 7 = .ok (.ldc2_w 3, 3) := by decide +kernel
theorem dX0_infinityOf_10 : decode cX0_infinityOf 10 = .ok (.lxor, 1) := by decide +kernel
theorem dX0_infinityOf_11 : decode cX0_infinityOf 11 = .ok (.ldc2_w 3, 3) := by decide +kernel
theorem dX0_infinityOf_14 : decode cX0_infinityOf 14 = .ok (.iload_n 1, 1) := by decide +kernel
theorem dX0_infinityOf_15 : decode cX0_infinityOf 15 = .ok (.lshl, 1) := by decide +kernel
theorem dX0_infinityOf_16 : decode cX0_infinityOf 16 = .ok (.land, 1) := by decide +kernel
theorem dX0_infinityOf_17 : decode cX0_infinityOf 17 = .ok (.lreturn, 1) := by decide +kernel
theorem dX0_isNumber_0 : decode cX0_isNumber 0 = .ok (.aload_n 0, 1) := by decide +kernel
theorem dX0_isNumber_1 : decode cX0_isNumber 1 = .ok (.lload_n 1, 1) := by decide +kernel
theorem dX0_isNumber_2 : decode cX0_isNumber 2 = .ok (.invokevirtual 40, 3) := by decide +kernel
theorem dX0_isNumber_5 : decode cX0_isNumber 5 = .ok (.aload_n 0, 1) := by decide +kernel
theorem dX0_isNumber_6 : decode cX0_isNumber 6 = .ok (.getfield 25, 3) := by decide +kernel
theorem dX0_isNumber_9 : decode cX0_isNumber 9 = .ok (.lcmp, 1) := by decide +kernel
theorem dX0_isNumber_10 : decode cX0_isNumber 10 = .ok (.ifCond .gt 7, 3) := by decide +kernel
theorem dX0_isNumber_13 : decode cX0_isNumber 13 = .ok (.iconst 1, 1) := by decide +kernel
theorem dX0_isNumber_14 : decode cX0_isNumber 14 = .ok (.goto 4, 3) := by decide +kernel
theorem dX0_isNumber_17 : decode cX0_isNumber 17 = .ok (.iconst 0, 1) := by decide +kernel
theorem dX0_isNumber_18 : decode cX0_isNumber 18 = .ok (.ireturn, 1) := by decide +kernel
theorem dX0_amount_0 : decode cX0_amount 0 = .ok (.lload_n 1, 1) := by decide +kernel
theorem dX0_amount_1 : decode cX0_amount 1 = .ok (.aload_n 0, 1) := by decide +kernel
theorem dX0_amount_2 : decode cX0_amount 2 = .ok (.getfield 21, 3) := by decide +kernel
theorem dX0_amount_5 : decode cX0_amount 5 = .ok (.ldc2_w 3, 3) := by decide +kernel
theorem dX0_amount_8 : decode cX0_amount 8 = .ok (.lxor, 1) := by decide +kernel
theorem dX0_amount_9 : decode cX0_amount 9 = .ok (.land, 1) := by decide +kernel
theorem dX0_amount_10 : decode cX0_amount 10 = .ok (.lreturn, 1) := by decide +kernel
theorem dX0_plus_0 : decode cX0_plus 0 = .ok (.lload_n 1, 1) := by decide +kernel
theorem dX0_plus_1 : decode cX0_plus 1 = .ok (.lload_n 3, 1) := by decide +kernel
theorem dX0_plus_2 : decode cX0_plus 2 = .ok (.invokestatic 44, 3) := by decide +kernel
theorem dX0_plus_5 : decode cX0_plus 5 = .ok (.lstore 5, 2) := by decide +kernel
theorem dX0_plus_7 : decode cX0_plus 7 = .ok (.lload_n 1, 1) := by decide +kernel
theorem dX0_plus_8 : decode cX0_plus 8 = .ok (.lload_n 3, 1) := by decide +kernel
theorem dX0_plus_9 : decode cX0_plus 9 = .ok (.invokestatic 50, 3) := by decide +kernel
theorem dX0_plus_12 : decode cX0_plus 12 = .ok (.lstore 7, 2) := by decide +kernel
theorem dX0_plus_14 : decode cX0_plus 14 = .ok (.lload 5, 2) := by decide +kernel
theorem dX0_plus_16 : decode cX0_plus 16 = .ok (.aload_n 0, 1) := by decide +kernel
theorem dX0_plus_17 : decode cX0_plus 17 = .ok (.getfield 25, 3) := by decide +kernel
theorem dX0_plus_20 : decode cX0_plus 20 = .ok (.lcmp, 1) := by decide +kernel
theorem dX0_plus_21 : decode cX0_plus 21 = .ok (.ifCond .ne 8, 3) := by decide +kernel
theorem dX0_plus_24 : decode cX0_plus 24 = .ok (.aload_n 0, 1) := by decide +kernel
theorem dX0_plus_25 : decode cX0_plus 25 = .ok (.getfield 25, 3) := by decide +kernel
theorem dX0_plus_28 : decode cX0_plus 28 = .ok (.lreturn, 1) := by decide +kernel
theorem dX0_plus_29 : decode cX0_plus 29 = .ok (.aload_n 0, 1) := by decide +kernel
theorem dX0_plus_30 : decode cX0_plus 30 = .ok (.lload 5, 2) := by decide +kernel
theorem dX0_plus_32 : decode cX0_plus 32 = .ok (.invokevirtual 53, 3) := by decide +kernel
theorem dX0_plus_35 : decode cX0_plus 35 = .ok (.istore 9, 2) := by decide +kernel
theorem dX0_plus_37 : decode cX0_plus 37 = .ok (.aload_n 0, 1) := by decide +kernel
theorem dX0_plus_38 : decode cX0_plus 38 = .ok (.lload 5, 2) := by decide +kernel
theorem dX0_plus_40 : decode cX0_plus 40 = .ok (.invokevirtual 57, 3) := by decide +kernel
theorem dX0_plus_43 : decode cX0_plus 43 = .ok (.aload_n 0, 1) := by decide +kernel
theorem dX0_plus_44 : decode cX0_plus 44 = .ok (.lload 7, 2) := by decide +kernel
theorem dX0_plus_46 : decode cX0_plus 46 = .ok (.invokevirtual 57, 3) := by decide +kernel
theorem dX0_plus_49 : decode cX0_plus 49 = .ok (.iload 9, 2) := by decide +kernel
theorem dX0_plus_51 : decode cX0_plus 51 = .ok (.aload_n 0, 1) := by decide +kernel
theorem dX0_plus_52 : decode cX0_plus 52 = .ok (.lload 7, 2) := by decide +kernel
theorem dX0_plus_54 : decode cX0_plus 54 = .ok (.invokevirtual 53, 3) := by decide +kernel
theorem dX0_plus_57 : decode cX0_plus 57 = .ok (.isub, 1) := by decide +kernel
theorem dX0_plus_58 : decode cX0_plus 58 = .ok (.invokestatic 60, 3) := by decide +kernel
theorem dX0_plus_61 : decode cX0_plus 61 = .ok (.ladd, 1) := by decide +kernel
theorem dX0_plus_62 : decode cX0_plus 62 = .ok (.lstore 10, 2) := by decide +kernel
theorem dX0_plus_64 : decode cX0_plus 64 = .ok (.lload 10, 2) := by decide +kernel
theorem dX0_plus_66 : decode cX0_plus 66 = .ok (.aload_n 0, 1) := by decide +kernel
theorem dX0_plus_67 : decode cX0_plus 67 = .ok (.getfield 37, 3) := by decide +kernel
theorem dX0_plus_70 : decode cX0_plus 70 = .ok (.iconst 4, 1) := by decide +kernel
theorem dX0_plus_71 : decode cX0_plus 71 = .ok (.lshl, 1) := by decide +kernel
theorem dX0_plus_72 : decode cX0_plus 72 = .ok (.lcmp, 1) := by decide +kernel
theorem dX0_plus_73 : decode cX0_plus 73 = .ok (.ifCond .lt 14, 3) := by decide +kernel
theorem dX0_plus_76 : decode cX0_plus 76 = .ok (.lload 10, 2) := by decide +kernel
theorem dX0_plus_78 : decode cX0_plus 78 = .ok (.iconst 1, 1) := by decide +kernel
theorem dX0_plus_79 : decode cX0_plus 79 = .ok (.invokestatic 60, 3) := by decide +kernel
theorem dX0_plus_82 : decode cX0_plus 82 = .ok (.lstore 10, 2) := by decide +kernel
theorem dX0_plus_84 : decode cX0_plus 84 = .ok (.iinc 9 1, 3) := by decide +kernel
theorem dX0_plus_87 : decode cX0_plus 87 = .ok (.aload_n 0, 1) := by decide +kernel
theorem dX0_plus_88 : decode cX0_plus 88 = .ok (.lload 10, 2) := by decide +kernel
theorem dX0_plus_90 : decode cX0_plus 90 = .ok (.iload 9, 2) := by decide +kernel
theorem dX0_plus_92 : decode cX0_plus 92 = .ok (.invokevirtual 64, 3) := by decide +kernel
theorem dX0_plus_95 : decode cX0_plus 95 = .ok (.lreturn, 1) := by decide +kernel
theorem dX0_apart_0 : decode cX0_apart 0 = .ok (.aload_n 0, 1) := by decide +kernel
theorem dX0_apart_1 : decode cX0_apart 1 = .ok (.lload_n 1, 1) := by decide +kernel
theorem dX0_apart_2 : decode cX0_apart 2 = .ok (.invokevirtual 40, 3) := by decide +kernel
theorem dX0_apart_5 : decode cX0_apart 5 = .ok (.lstore 5, 2) := by decide +kernel
theorem dX0_apart_7 : decode cX0_apart 7 = .ok (.aload_n 0, 1) := by decide +kernel
theorem dX0_apart_8 : decode cX0_apart 8 = .ok (.lload_n 3, 1) := by decide +kernel
theorem dX0_apart_9 : decode cX0_apart 9 = .ok (.invokevirtual 40, 3) := by decide +kernel
theorem dX0_apart_12 : decode cX0_apart 12 = .ok (.lstore 7, 2) := by decide +kernel
theorem dX0_apart_14 : decode cX0_apart 14 = .ok (.lload_n 1, 1) := by decide +kernel
theorem dX0_apart_15 : decode cX0_apart 15 = .ok (.lconst 0, 1) := by decide +kernel
theorem dX0_apart_16 : decode cX0_apart 16 = .ok (.lcmp, 1) := by decide +kernel
theorem dX0_apart_17 : decode cX0_apart 17 = .ok (.ifCond .ge 7, 3) := by decide +kernel
theorem dX0_apart_20 : decode cX0_apart 20 = .ok (.iconst 1, 1) := by decide +kernel
theorem dX0_apart_21 : decode cX0_apart 21 = .ok (.goto 4, 3) := by decide +kernel
theorem dX0_apart_24 : decode cX0_apart 24 = .ok (.iconst 0, 1) := by decide +kernel
theorem dX0_apart_25 : decode cX0_apart 25 = .ok (.lload_n 3, 1) := by decide +kernel
theorem dX0_apart_26 : decode cX0_apart 26 = .ok (.lconst 0, 1) := by decide +kernel
theorem dX0_apart_27 : decode cX0_apart 27 = .ok (.lcmp, 1) := by decide +kernel
theorem dX0_apart_28 : decode cX0_apart 28 = .ok (.ifCond .ge 7, 3) := by decide +kernel
theorem dX0_apart_31 : decode cX0_apart 31 = .ok (.iconst 1, 1) := by decide +kernel
theorem dX0_apart_32 : decode cX0_apart 32 = .ok (.goto 4, 3) := by decide +kernel
theorem dX0_apart_35 : decode cX0_apart 35 = .ok (.iconst 0, 1) := by decide +kernel
theorem dX0_apart_36 : decode cX0_apart 36 = .ok (.if_icmp .eq 12, 3) := by decide +kernel
theorem dX0_apart_39 : decode cX0_apart 39 = .ok (.aload_n 0, 1) := by decide +kernel
theorem dX0_apart_40 : decode cX0_apart 40 = .ok (.lload 5, 2) := by decide +kernel
theorem dX0_apart_42 : decode cX0_apart 42 = .ok (.lload 7, 2) := by decide +kernel
theorem dX0_apart_44 : decode cX0_apart 44 = .ok (.invokevirtual 67, 3) := by decide +kernel
theorem dX0_apart_47 : decode cX0_apart 47 = .ok (.lreturn, 1) := by decide +kernel
theorem dX0_apart_48 : decode cX0_apart 48 = .ok (.aload_n 0, 1) := by decide +kernel
theorem dX0_apart_49 : decode cX0_apart 49 = .ok (.lload 5, 2) := by decide +kernel
theorem dX0_apart_51 : decode cX0_apart 51 = .ok (.lload 7, 2) := by decide +kernel
theorem dX0_apart_53 : decode cX0_apart 53 = .ok (.invokestatic 44, 3) := by decide +kernel
theorem dX0_apart_56 : decode cX0_apart 56 = .ok (.lload 5, 2) := by decide +kernel
theorem dX0_apart_58 : decode cX0_apart 58 = .ok (.lload 7, 2) := by decide +kernel
theorem dX0_apart_60 : decode cX0_apart 60 = .ok (.invokestatic 50, 3) := by decide +kernel
theorem dX0_apart_63 : decode cX0_apart 63 = .ok (.invokevirtual 70, 3) := by decide +kernel
theorem dX0_apart_66 : decode cX0_apart 66 = .ok (.lreturn, 1) := by decide +kernel
theorem dX0_toInt_0 : decode cX0_toInt 0 = .ok (.aload_n 0, 1) := by decide +kernel
theorem dX0_toInt_1 : decode cX0_toInt 1 = .ok (.lload_n 1, 1) := by decide +kernel
theorem dX0_toInt_2 : decode cX0_toInt 2 = .ok (.invokevirtual 40, 3) := by decide +kernel
theorem dX0_toInt_5 : decode cX0_toInt 5 = .ok (.lstore_n 3, 1) := by decide +kernel
theorem dX0_toInt_6 : decode cX0_toInt 6 = .ok (.lload_n 3, 1) := by decide +kernel
theorem dX0_toInt_7 : decode cX0_toInt 7 = .ok (.aload_n 0, 1) := by decide +kernel
theorem dX0_toInt_8 : decode cX0_toInt 8 = .ok (.getfield 31, 3) := by decide +kernel
theorem dX0_toInt_11 : decode cX0_toInt 11 = .ok (.lcmp, 1) := by decide +kernel
theorem dX0_toInt_12 : decode cX0_toInt 12 = .ok (.ifCond .ge 5, 3) := by decide +kernel
theorem dX0_toInt_15 : decode cX0_toInt 15 = .ok (.iconst 0, 1) := by decide +kernel
theorem dX0_toInt_16 : decode cX0_toInt 16 = .ok (.ireturn, 1) := by decide +kernel
theorem dX0_toInt_17 : decode cX0_toInt 17 = .ok (.aload_n 0, 1) := by decide +kernel
theorem dX0_toInt_18 : decode cX0_toInt 18 = .ok (.lload_n 3, 1) := by decide +kernel
theorem dX0_toInt_19 : decode cX0_toInt 19 = .ok (.invokevirtual 53, 3) := by decide +kernel
theorem dX0_toInt_22 : decode cX0_toInt 22 = .ok (.aload_n 0, 1) := by decide +kernel
theorem dX0_toInt_23 : decode cX0_toInt 23 = .ok (.getfield 28, 3) := by decide +kernel
theorem dX0_toInt_26 : decode cX0_toInt 26 = .ok (.isub, 1) := by decide +kernel
theorem dX0_toInt_27 : decode cX0_toInt 27 = .ok (.istore 5, 2) := by decide +kernel
theorem dX0_toInt_29 : decode cX0_toInt 29 = .ok (.iload 5, 2) := by decide +kernel
theorem dX0_toInt_31 : decode cX0_toInt 31 = .ok (.bipush 30, 2) := by decide +kernel
theorem dX0_toInt_33 : decode cX0_toInt 33 = .ok (.if_icmp .le 17, 3) := by decide +kernel
theorem dX0_toInt_36 : decode cX0_toInt 36 = .ok (.lload_n 1, 1) := by decide +kernel
theorem dX0_toInt_37 : decode cX0_toInt 37 = .ok (.lconst 0, 1) := by decide +kernel
theorem dX0_toInt_38 : decode cX0_toInt 38 = .ok (.lcmp, 1) := by decide +kernel
theorem dX0_toInt_39 : decode cX0_toInt 39 = .ok (.ifCond .ge 8, 3) := by decide +kernel
theorem dX0_toInt_42 : decode cX0_toInt 42 = .ok (.ldc 75, 2) := by decide +kernel
theorem dX0_toInt_44 : decode cX0_toInt 44 = .ok (.goto 5, 3) := by decide +kernel
theorem dX0_toInt_47 : decode cX0_toInt 47 = .ok (.ldc 76, 2) := by decide +kernel
theorem dX0_toInt_49 : decode cX0_toInt 49 = .ok (.ireturn, 1) := by decide +kernel
theorem dX0_toInt_50 : decode cX0_toInt 50 = .ok (.aload_n 0, 1) := by decide +kernel
theorem dX0_toInt_51 : decode cX0_toInt 51 = .ok (.getfield 37, 3) := by decide +kernel
theorem dX0_toInt_54 : decode cX0_toInt 54 = .ok (.lload_n 3, 1) := by decide +kernel
theorem dX0_toInt_55 : decode cX0_toInt 55 = .ok (.aload_n 0, 1) := by decide +kernel
theorem dX0_toInt_56 : decode cX0_toInt 56 = .ok (.getfield 37, 3) := by decide +kernel
theorem dX0_toInt_59 : decode cX0_toInt 59 = .ok (.lconst 1, 1) := by decide +kernel
theorem dX0_toInt_60 : decode cX0_toInt 60 = .ok (.lsub, 1) := by decide +kernel
theorem dX0_toInt_61 : decode cX0_toInt 61 = .ok (.land, 1) := by decide +kernel
theorem dX0_toInt_62 : decode cX0_toInt 62 = .ok (.lor, 1) := by decide +kernel
theorem dX0_toInt_63 : decode cX0_toInt 63 = .ok (.lstore 6, 2) := by decide +kernel
theorem dX0_toInt_65 : decode cX0_toInt 65 = .ok (.iload 5, 2) := by decide +kernel
theorem dX0_toInt_67 : decode cX0_toInt 67 = .ok (.aload_n 0, 1) := by decide +kernel
theorem dX0_toInt_68 : decode cX0_toInt 68 = .ok (.getfield 17, 3) := by decide +kernel
theorem dX0_toInt_71 : decode cX0_toInt 71 = .ok (.if_icmp .gt 16, 3) := by decide +kernel
theorem dX0_toInt_74 : decode cX0_toInt 74 = .ok (.lload 6, 2) := by decide +kernel
theorem dX0_toInt_76 : decode cX0_toInt 76 = .ok (.aload_n 0, 1) := by decide +kernel
theorem dX0_toInt_77 : decode cX0_toInt 77 = .ok (.getfield 17, 3) := by decide +kernel
theorem dX0_toInt_80 : decode cX0_toInt 80 = .ok (.iload 5, 2) := by decide +kernel
theorem dX0_toInt_82 : decode cX0_toInt 82 = .ok (.isub, 1) := by decide +kernel
theorem dX0_toInt_83 : decode cX0_toInt 83 = .ok (.lushr, 1) := by decide +kernel
theorem dX0_toInt_84 : decode cX0_toInt 84 = .ok (.goto 13, 3) := by decide +kernel
theorem dX0_toInt_87 : decode cX0_toInt 87 = .ok (.lload 6, 2) := by decide +kernel
theorem dX0_toInt_89 : decode cX0_toInt 89 = .ok (.iload 5, 2) := by decide +kernel
theorem dX0_toInt_91 : decode cX0_toInt 91 = .ok (.aload_n 0, 1) := by decide +kernel
theorem dX0_toInt_92 : decode cX0_toInt 92 = .ok (.getfield 17, 3) := by decide +kernel
theorem dX0_toInt_95 : decode cX0_toInt 95 = .ok (.isub, 1) := by decide +kernel
theorem dX0_toInt_96 : decode cX0_toInt 96 = .ok (.lshl, 1) := by decide +kernel
theorem dX0_toInt_97 : decode cX0_toInt 97 = .ok (.l2i, 1) := by decide +kernel
theorem dX0_toInt_98 : decode cX0_toInt 98 = .ok (.istore 8, 2) := by decide +kernel
theorem dX0_toInt_100 : decode cX0_toInt 100 = .ok (.lload_n 1, 1) := by decide +kernel
theorem dX0_toInt_101 : decode cX0_toInt 101 = .ok (.lconst 0, 1) := by decide +kernel
theorem dX0_toInt_102 : decode cX0_toInt 102 = .ok (.lcmp, 1) := by decide +kernel
theorem dX0_toInt_103 : decode cX0_toInt 103 = .ok (.ifCond .ge 9, 3) := by decide +kernel
theorem dX0_toInt_106 : decode cX0_toInt 106 = .ok (.iload 8, 2) := by decide +kernel
theorem dX0_toInt_108 : decode cX0_toInt 108 = .ok (.ineg, 1) := by decide +kernel
theorem dX0_toInt_109 : decode cX0_toInt 109 = .ok (.goto 5, 3) := by decide +kernel
theorem dX0_toInt_112 : decode cX0_toInt 112 = .ok (.iload 8, 2) := by decide +kernel
theorem dX0_toInt_114 : decode cX0_toInt 114 = .ok (.ireturn, 1) := by decide +kernel
theorem dX0_rank_0 : decode cX0_rank 0 = .ok (.lload_n 1, 1) := by decide +kernel
theorem dX0_rank_1 : decode cX0_rank 1 = .ok (.lconst 0, 1) := by decide +kernel
theorem dX0_rank_2 : decode cX0_rank 2 = .ok (.lcmp, 1) := by decide +kernel
theorem dX0_rank_3 : decode cX0_rank 3 = .ok (.ifCond .ge 15, 3) := by decide +kernel
theorem dX0_rank_6 : decode cX0_rank 6 = .ok (.ldc2_w 3, 3) := by decide +kernel
theorem dX0_rank_9 : decode cX0_rank 9 = .ok (.aload_n 0, 1) := by decide +kernel
theorem dX0_rank_10 : decode cX0_rank 10 = .ok (.lload_n 1, 1) := by decide +kernel
theorem dX0_rank_11 : decode cX0_rank 11 = .ok (.invokevirtual 40, 3) := by decide +kernel
theorem dX0_rank_14 : decode cX0_rank 14 = .ok (.lsub, 1) := by decide +kernel
theorem dX0_rank_15 : decode cX0_rank 15 = .ok (.goto 4, 3) := by decide +kernel
theorem dX0_rank_18 : decode cX0_rank 18 = .ok (.lload_n 1, 1) := by decide +kernel
theorem dX0_rank_19 : decode cX0_rank 19 = .ok (.lreturn, 1) := by decide +kernel
theorem dX0_level_0 : decode cX0_level 0 = .ok (.lload_n 1, 1) := by decide +kernel
theorem dX0_level_1 : decode cX0_level 1 = .ok (.lconst 0, 1) := by decide +kernel
theorem dX0_level_2 : decode cX0_level 2 = .ok (.lcmp, 1) := by decide +kernel
theorem dX0_level_3 : decode cX0_level 3 = .ok (.ifCond .ge 12, 3) := by decide +kernel
theorem dX0_level_6 : decode cX0_level 6 = .ok (.aload_n 0, 1) := by decide +kernel
theorem dX0_level_7 : decode cX0_level 7 = .ok (.lload_n 1, 1) := by decide +kernel
theorem dX0_level_8 : decode cX0_level 8 = .ok (.invokevirtual 40, 3) := by decide +kernel
theorem dX0_level_11 : decode cX0_level 11 = .ok (.lneg, 1) := by decide +kernel
theorem dX0_level_12 : decode cX0_level 12 = .ok (.goto 4, 3) := by decide +kernel
theorem dX0_level_15 : decode cX0_level 15 = .ok (.lload_n 1, 1) := by decide +kernel
theorem dX0_level_16 : decode cX0_level 16 = .ok (.lreturn, 1) := by decide +kernel
theorem dX0_furtherStepped_0 : decode cX0_furtherStepped 0 = .ok (.aload_n 0, 1) := by decide +kernel
theorem dX0_furtherStepped_1 : decode cX0_furtherStepped 1 = .ok (.lload_n 2, 1) := by decide +kernel
theorem dX0_furtherStepped_2 : decode cX0_furtherStepped 2 = .ok (.invokevirtual 40, 3) := by decide +kernel
theorem dX0_furtherStepped_5 : decode cX0_furtherStepped 5 = .ok (.lstore 6, 2) := by decide +kernel
theorem dX0_furtherStepped_7 : decode cX0_furtherStepped 7 = .ok (.iload_n 1, 1) := by decide +kernel
theorem dX0_furtherStepped_8 : decode cX0_furtherStepped 8 = .ok (.tableswitch 132 3 7 #[36, 63, 90, 102, 123], 36) := by decide +kernel
theorem dX0_furtherStepped_44 : decode cX0_furtherStepped 44 = .ok (.aload_n 0, 1) := by decide +kernel
theorem dX0_furtherStepped_45 : decode cX0_furtherStepped 45 = .ok (.lload_n 2, 1) := by decide +kernel
theorem dX0_furtherStepped_46 : decode cX0_furtherStepped 46 = .ok (.lload_n 2, 1) := by decide +kernel
theorem dX0_furtherStepped_47 : decode cX0_furtherStepped 47 = .ok (.lconst 0, 1) := by decide +kernel
theorem dX0_furtherStepped_48 : decode cX0_furtherStepped 48 = .ok (.lcmp, 1) := by decide +kernel
theorem dX0_furtherStepped_49 : decode cX0_furtherStepped 49 = .ok (.ifCond .ge 12, 3) := by decide +kernel
theorem dX0_furtherStepped_52 : decode cX0_furtherStepped 52 = .ok (.aload_n 0, 1) := by decide +kernel
theorem dX0_furtherStepped_53 : decode cX0_furtherStepped 53 = .ok (.lload 6, 2) := by decide +kernel
theorem dX0_furtherStepped_55 : decode cX0_furtherStepped 55 = .ok (.invokevirtual 77, 3) := by decide +kernel
theorem dX0_furtherStepped_58 : decode cX0_furtherStepped 58 = .ok (.goto 9, 3) := by decide +kernel
theorem dX0_furtherStepped_61 : decode cX0_furtherStepped 61 = .ok (.aload_n 0, 1) := by decide +kernel
theorem dX0_furtherStepped_62 : decode cX0_furtherStepped 62 = .ok (.lload 6, 2) := by decide +kernel
theorem dX0_furtherStepped_64 : decode cX0_furtherStepped 64 = .ok (.invokevirtual 80, 3) := by decide +kernel
theorem dX0_furtherStepped_67 : decode cX0_furtherStepped 67 = .ok (.invokevirtual 83, 3) := by decide +kernel
theorem dX0_furtherStepped_70 : decode cX0_furtherStepped 70 = .ok (.lreturn, 1) := by decide +kernel
theorem dX0_furtherStepped_71 : decode cX0_furtherStepped 71 = .ok (.aload_n 0, 1) := by decide +kernel
theorem dX0_furtherStepped_72 : decode cX0_furtherStepped 72 = .ok (.lload_n 2, 1) := by decide +kernel
theorem dX0_furtherStepped_73 : decode cX0_furtherStepped 73 = .ok (.lload_n 2, 1) := by decide +kernel
theorem dX0_furtherStepped_74 : decode cX0_furtherStepped 74 = .ok (.lconst 0, 1) := by decide +kernel
theorem dX0_furtherStepped_75 : decode cX0_furtherStepped 75 = .ok (.lcmp, 1) := by decide +kernel
theorem dX0_furtherStepped_76 : decode cX0_furtherStepped 76 = .ok (.ifCond .ge 12, 3) := by decide +kernel
theorem dX0_furtherStepped_79 : decode cX0_furtherStepped 79 = .ok (.aload_n 0, 1) := by decide +kernel
theorem dX0_furtherStepped_80 : decode cX0_furtherStepped 80 = .ok (.lload 6, 2) := by decide +kernel
theorem dX0_furtherStepped_82 : decode cX0_furtherStepped 82 = .ok (.invokevirtual 80, 3) := by decide +kernel
theorem dX0_furtherStepped_85 : decode cX0_furtherStepped 85 = .ok (.goto 9, 3) := by decide +kernel
theorem dX0_furtherStepped_88 : decode cX0_furtherStepped 88 = .ok (.aload_n 0, 1) := by decide +kernel
theorem dX0_furtherStepped_89 : decode cX0_furtherStepped 89 = .ok (.lload 6, 2) := by decide +kernel
theorem dX0_furtherStepped_91 : decode cX0_furtherStepped 91 = .ok (.invokevirtual 77, 3) := by decide +kernel
theorem dX0_furtherStepped_94 : decode cX0_furtherStepped 94 = .ok (.invokevirtual 83, 3) := by decide +kernel
theorem dX0_furtherStepped_97 : decode cX0_furtherStepped 97 = .ok (.lreturn, 1) := by decide +kernel
theorem dX0_furtherStepped_98 : decode cX0_furtherStepped 98 = .ok (.aload_n 0, 1) := by decide +kernel
theorem dX0_furtherStepped_99 : decode cX0_furtherStepped 99 = .ok (.lload_n 2, 1) := by decide +kernel
theorem dX0_furtherStepped_100 : decode cX0_furtherStepped 100 = .ok (.aload_n 0, 1) := by decide +kernel
theorem dX0_furtherStepped_101 : decode cX0_furtherStepped 101 = .ok (.lload 6, 2) := by decide +kernel
theorem dX0_furtherStepped_103 : decode cX0_furtherStepped 103 = .ok (.invokevirtual 86, 3) := by decide +kernel
theorem dX0_furtherStepped_106 : decode cX0_furtherStepped 106 = .ok (.invokevirtual 83, 3) := by decide +kernel
theorem dX0_furtherStepped_109 : decode cX0_furtherStepped 109 = .ok (.lreturn, 1) := by decide +kernel
theorem dX0_furtherStepped_110 : decode cX0_furtherStepped 110 = .ok (.lload 6, 2) := by decide +kernel
theorem dX0_furtherStepped_112 : decode cX0_furtherStepped 112 = .ok (.lconst 0, 1) := by decide +kernel
theorem dX0_furtherStepped_113 : decode cX0_furtherStepped 113 = .ok (.lcmp, 1) := by decide +kernel
theorem dX0_furtherStepped_114 : decode cX0_furtherStepped 114 = .ok (.ifCond .ne 7, 3) := by decide +kernel
theorem dX0_furtherStepped_117 : decode cX0_furtherStepped 117 = .ok (.lload_n 2, 1) := by decide +kernel
theorem dX0_furtherStepped_118 : decode cX0_furtherStepped 118 = .ok (.goto 12, 3) := by decide +kernel
theorem dX0_furtherStepped_121 : decode cX0_furtherStepped 121 = .ok (.aload_n 0, 1) := by decide +kernel
theorem dX0_furtherStepped_122 : decode cX0_furtherStepped 122 = .ok (.lload_n 2, 1) := by decide +kernel
theorem dX0_furtherStepped_123 : decode cX0_furtherStepped 123 = .ok (.aload_n 0, 1) := by decide +kernel
theorem dX0_furtherStepped_124 : decode cX0_furtherStepped 124 = .ok (.getfield 31, 3) := by decide +kernel
theorem dX0_furtherStepped_127 : decode cX0_furtherStepped 127 = .ok (.invokevirtual 83, 3) := by decide +kernel
theorem dX0_furtherStepped_130 : decode cX0_furtherStepped 130 = .ok (.lreturn, 1) := by decide +kernel
theorem dX0_furtherStepped_131 : decode cX0_furtherStepped 131 = .ok (.aload_n 0, 1) := by decide +kernel
theorem dX0_furtherStepped_132 : decode cX0_furtherStepped 132 = .ok (.lload 4, 2) := by decide +kernel
theorem dX0_furtherStepped_134 : decode cX0_furtherStepped 134 = .ok (.lload 6, 2) := by decide +kernel
theorem dX0_furtherStepped_136 : decode cX0_furtherStepped 136 = .ok (.invokevirtual 83, 3) := by decide +kernel
theorem dX0_furtherStepped_139 : decode cX0_furtherStepped 139 = .ok (.lreturn, 1) := by decide +kernel
theorem dX0_furtherStepped_140 : decode cX0_furtherStepped 140 = .ok (.lload_n 2, 1) := by decide +kernel
theorem dX0_furtherStepped_141 : decode cX0_furtherStepped 141 = .ok (.lreturn, 1) := by decide +kernel
theorem dX0_withSignOf_0 : decode cX0_withSignOf 0 = .ok (.lload_n 1, 1) := by decide +kernel
theorem dX0_withSignOf_1 : decode cX0_withSignOf 1 = .ok (.lconst 0, 1) := by decide +kernel
theorem dX0_withSignOf_2 : decode cX0_withSignOf 2 = .ok (.lcmp, 1) := by decide +kernel
theorem dX0_withSignOf_3 : decode cX0_withSignOf 3 = .ok (.ifCond .ge 12, 3) := by decide +kernel
theorem dX0_withSignOf_6 : decode cX0_withSignOf 6 = .ok (.lload_n 3, 1) := by decide +kernel
theorem dX0_withSignOf_7 : decode cX0_withSignOf 7 = .ok (.aload_n 0, 1) := by decide +kernel
theorem dX0_withSignOf_8 : decode cX0_withSignOf 8 = .ok (.getfield 21, 3) := by decide +kernel
theorem dX0_withSignOf_11 : decode cX0_withSignOf 11 = .ok (.lor, 1) := by decide +kernel
theorem dX0_withSignOf_12 : decode cX0_withSignOf 12 = .ok (.goto 4, 3) := by decide +kernel
theorem dX0_withSignOf_15 : decode cX0_withSignOf 15 = .ok (.lload_n 3, 1) := by decide +kernel
theorem dX0_withSignOf_16 : decode cX0_withSignOf 16 = .ok (.lreturn, 1) := by decide +kernel
theorem dX0_bitsBehindPoint_0 : decode cX0_bitsBehindPoint 0 = .ok (.aload_n 0, 1) := by decide +kernel
theorem dX0_bitsBehindPoint_1 : decode cX0_bitsBehindPoint 1 = .ok (.getfield 17, 3) := by decide +kernel
theorem dX0_bitsBehindPoint_4 : decode cX0_bitsBehindPoint 4 = .ok (.aload_n 0, 1) := by decide +kernel
theorem dX0_bitsBehindPoint_5 : decode cX0_bitsBehindPoint 5 = .ok (.getfield 28, 3) := by decide +kernel
theorem dX0_bitsBehindPoint_8 : decode cX0_bitsBehindPoint 8 = .ok (.iadd, 1) := by decide +kernel
theorem dX0_bitsBehindPoint_9 : decode cX0_bitsBehindPoint 9 = .ok (.aload_n 0, 1) := by decide +kernel
theorem dX0_bitsBehindPoint_10 : decode cX0_bitsBehindPoint 10 = .ok (.lload_n 1, 1) := by decide +kernel
theorem dX0_bitsBehindPoint_11 : decode cX0_bitsBehindPoint 11 = .ok (.invokevirtual 53, 3) := by decide +kernel
theorem dX0_bitsBehindPoint_14 : decode cX0_bitsBehindPoint 14 = .ok (.isub, 1) := by decide +kernel
theorem dX0_bitsBehindPoint_15 : decode cX0_bitsBehindPoint 15 = .ok (.ireturn, 1) := by decide +kernel
theorem dX0_cut_0 : decode cX0_cut 0 = .ok (.lload_n 1, 1) := by decide +kernel
theorem dX0_cut_1 : decode cX0_cut 1 = .ok (.aload_n 0, 1) := by decide +kernel
theorem dX0_cut_2 : decode cX0_cut 2 = .ok (.getfield 31, 3) := by decide +kernel
theorem dX0_cut_5 : decode cX0_cut 5 = .ok (.lcmp, 1) := by decide +kernel
theorem dX0_cut_6 : decode cX0_cut 6 = .ok (.ifCond .ge 5, 3) := by decide +kernel
theorem dX0_cut_9 : decode cX0_cut 9 = .ok (.lconst 0, 1) := by decide +kernel
theorem dX0_cut_10 : decode cX0_cut 10 = .ok (.lreturn, 1) := by decide +kernel
theorem dX0_cut_11 : decode cX0_cut 11 = .ok (.aload_n 0, 1) := by decide +kernel
theorem dX0_cut_12 : decode cX0_cut 12 = .ok (.lload_n 1, 1) := by decide +kernel
theorem dX0_cut_13 : decode cX0_cut 13 = .ok (.invokevirtual 89, 3) := by decide +kernel
theorem dX0_cut_16 : decode cX0_cut 16 = .ok (.istore_n 3, 1) := by decide +kernel
theorem dX0_cut_17 : decode cX0_cut 17 = .ok (.iload_n 3, 1) := by decide +kernel
theorem dX0_cut_18 : decode cX0_cut 18 = .ok (.ifCond .gt 7, 3) := by decide +kernel
theorem dX0_cut_21 : decode cX0_cut 21 = .ok (.lload_n 1, 1) := by decide +kernel
theorem dX0_cut_22 : decode cX0_cut 22 = .ok (.goto 10, 3) := by decide +kernel
theorem dX0_cut_25 : decode cX0_cut 25 = .ok (.lload_n 1, 1) := by decide +kernel
theorem dX0_cut_26 : decode cX0_cut 26 = .ok (.ldc2_w 3, 3) := by decide +kernel
theorem dX0_cut_29 : decode cX0_cut 29 = .ok (.iload_n 3, 1) := by decide +kernel
theorem dX0_cut_30 : decode cX0_cut 30 = .ok (.lshl, 1) := by decide +kernel
theorem dX0_cut_31 : decode cX0_cut 31 = .ok (.land, 1) := by decide +kernel
theorem dX0_cut_32 : decode cX0_cut 32 = .ok (.lreturn, 1) := by decide +kernel
theorem dX0_raised_0 : decode cX0_raised 0 = .ok (.aload_n 0, 1) := by decide +kernel
theorem dX0_raised_1 : decode cX0_raised 1 = .ok (.lload_n 1, 1) := by decide +kernel
theorem dX0_raised_2 : decode cX0_raised 2 = .ok (.invokevirtual 80, 3) := by decide +kernel
theorem dX0_raised_5 : decode cX0_raised 5 = .ok (.lstore_n 3, 1) := by decide +kernel
theorem dX0_raised_6 : decode cX0_raised 6 = .ok (.lload_n 3, 1) := by decide +kernel
theorem dX0_raised_7 : decode cX0_raised 7 = .ok (.lload_n 1, 1) := by decide +kernel
theorem dX0_raised_8 : decode cX0_raised 8 = .ok (.lcmp, 1) := by decide +kernel
theorem dX0_raised_9 : decode cX0_raised 9 = .ok (.ifCond .ne 7, 3) := by decide +kernel
theorem dX0_raised_12 : decode cX0_raised 12 = .ok (.lload_n 1, 1) := by decide +kernel
theorem dX0_raised_13 : decode cX0_raised 13 = .ok (.goto 9, 3) := by decide +kernel
theorem dX0_raised_16 : decode cX0_raised 16 = .ok (.aload_n 0, 1) := by decide +kernel
theorem dX0_raised_17 : decode cX0_raised 17 = .ok (.lload_n 3, 1) := by decide +kernel
theorem dX0_raised_18 : decode cX0_raised 18 = .ok (.lload_n 1, 1) := by decide +kernel
theorem dX0_raised_19 : decode cX0_raised 19 = .ok (.invokevirtual 92, 3) := by decide +kernel
theorem dX0_raised_22 : decode cX0_raised 22 = .ok (.lreturn, 1) := by decide +kernel
theorem dX0_nearest_0 : decode cX0_nearest 0 = .ok (.lload_n 1, 1) := by decide +kernel
theorem dX0_nearest_1 : decode cX0_nearest 1 = .ok (.aload_n 0, 1) := by decide +kernel
theorem dX0_nearest_2 : decode cX0_nearest 2 = .ok (.getfield 31, 3) := by decide +kernel
theorem dX0_nearest_5 : decode cX0_nearest 5 = .ok (.lcmp, 1) := by decide +kernel
theorem dX0_nearest_6 : decode cX0_nearest 6 = .ok (.ifCond .ge 21, 3) := by decide +kernel
theorem dX0_nearest_9 : decode cX0_nearest 9 = .ok (.lload_n 1, 1) := by decide +kernel
theorem dX0_nearest_10 : decode cX0_nearest 10 = .ok (.aload_n 0, 1) := by decide +kernel
theorem dX0_nearest_11 : decode cX0_nearest 11 = .ok (.getfield 34, 3) := by decide +kernel
theorem dX0_nearest_14 : decode cX0_nearest 14 = .ok (.lcmp, 1) := by decide +kernel
theorem dX0_nearest_15 : decode cX0_nearest 15 = .ok (.ifCond .le 10, 3) := by decide +kernel
theorem dX0_nearest_18 : decode cX0_nearest 18 = .ok (.aload_n 0, 1) := by decide +kernel
theorem dX0_nearest_19 : decode cX0_nearest 19 = .ok (.getfield 31, 3) := by decide +kernel
theorem dX0_nearest_22 : decode cX0_nearest 22 = .ok (.goto 4, 3) := by decide +kernel
theorem dX0_nearest_25 : decode cX0_nearest 25 = .ok (.lconst 0, 1) := by decide +kernel
theorem dX0_nearest_26 : decode cX0_nearest 26 = .ok (.lreturn, 1) := by decide +kernel
theorem dX0_nearest_27 : decode cX0_nearest 27 = .ok (.aload_n 0, 1) := by decide +kernel
theorem dX0_nearest_28 : decode cX0_nearest 28 = .ok (.lload_n 1, 1) := by decide +kernel
theorem dX0_nearest_29 : decode cX0_nearest 29 = .ok (.invokevirtual 80, 3) := by decide +kernel
theorem dX0_nearest_32 : decode cX0_nearest 32 = .ok (.lstore_n 3, 1) := by decide +kernel
theorem dX0_nearest_33 : decode cX0_nearest 33 = .ok (.lload_n 3, 1) := by decide +kernel
theorem dX0_nearest_34 : decode cX0_nearest 34 = .ok (.lload_n 1, 1) := by decide +kernel
theorem dX0_nearest_35 : decode cX0_nearest 35 = .ok (.lcmp, 1) := by decide +kernel
theorem dX0_nearest_36 : decode cX0_nearest 36 = .ok (.ifCond .ne 5, 3) := by decide +kernel
theorem dX0_nearest_39 : decode cX0_nearest 39 = .ok (.lload_n 1, 1) := by decide +kernel
theorem dX0_nearest_40 : decode cX0_nearest 40 = .ok (.lreturn, 1) := by decide +kernel
theorem dX0_nearest_41 : decode cX0_nearest 41 = .ok (.aload_n 0, 1) := by decide +kernel
theorem dX0_nearest_42 : decode cX0_nearest 42 = .ok (.lload_n 1, 1) := by decide +kernel
theorem dX0_nearest_43 : decode cX0_nearest 43 = .ok (.invokevirtual 89, 3) := by decide +kernel
theorem dX0_nearest_46 : decode cX0_nearest 46 = .ok (.istore 5, 2) := by decide +kernel
theorem dX0_nearest_48 : decode cX0_nearest 48 = .ok (.lload_n 1, 1) := by decide +kernel
theorem dX0_nearest_49 : decode cX0_nearest 49 = .ok (.lload_n 3, 1) := by decide +kernel
theorem dX0_nearest_50 : decode cX0_nearest 50 = .ok (.lsub, 1) := by decide +kernel
theorem dX0_nearest_51 : decode cX0_nearest 51 = .ok (.lstore 6, 2) := by decide +kernel
theorem dX0_nearest_53 : decode cX0_nearest 53 = .ok (.lconst 1, 1) := by decide +kernel
theorem dX0_nearest_54 : decode cX0_nearest 54 = .ok (.iload 5, 2) := by decide +kernel
theorem dX0_nearest_56 : decode cX0_nearest 56 = .ok (.iconst 1, 1) := by decide +kernel
theorem dX0_nearest_57 : decode cX0_nearest 57 = .ok (.isub, 1) := by decide +kernel
theorem dX0_nearest_58 : decode cX0_nearest 58 = .ok (.lshl, 1) := by decide +kernel
theorem dX0_nearest_59 : decode cX0_nearest 59 = .ok (.lstore 8, 2) := by decide +kernel
theorem dX0_nearest_61 : decode cX0_nearest 61 = .ok (.lload_n 3, 1) := by decide +kernel
theorem dX0_nearest_62 : decode cX0_nearest 62 = .ok (.iload 5, 2) := by decide +kernel
theorem dX0_nearest_64 : decode cX0_nearest 64 = .ok (.lushr, 1) := by decide +kernel
theorem dX0_nearest_65 : decode cX0_nearest 65 = .ok (.lconst 1, 1) := by decide +kernel
theorem dX0_nearest_66 : decode cX0_nearest 66 = .ok (.land, 1) := by decide +kernel
theorem dX0_nearest_67 : decode cX0_nearest 67 = .ok (.lconst 1, 1) := by decide +kernel
theorem dX0_nearest_68 : decode cX0_nearest 68 = .ok (.lcmp, 1) := by decide +kernel
theorem dX0_nearest_69 : decode cX0_nearest 69 = .ok (.ifCond .ne 7, 3) := by decide +kernel
theorem dX0_nearest_72 : decode cX0_nearest 72 = .ok (.iconst 1, 1) := by decide +kernel
theorem dX0_nearest_73 : decode cX0_nearest 73 = .ok (.goto 4, 3) := by decide +kernel
theorem dX0_nearest_76 : decode cX0_nearest 76 = .ok (.iconst 0, 1) := by decide +kernel
theorem dX0_nearest_77 : decode cX0_nearest 77 = .ok (.istore 10, 2) := by decide +kernel
theorem dX0_nearest_79 : decode cX0_nearest 79 = .ok (.lload 6, 2) := by decide +kernel
theorem dX0_nearest_81 : decode cX0_nearest 81 = .ok (.lload 8, 2) := by decide +kernel
theorem dX0_nearest_83 : decode cX0_nearest 83 = .ok (.lcmp, 1) := by decide +kernel
theorem dX0_nearest_84 : decode cX0_nearest 84 = .ok (.ifCond .gt 16, 3) := by decide +kernel
theorem dX0_nearest_87 : decode cX0_nearest 87 = .ok (.lload 6, 2) := by decide +kernel
theorem dX0_nearest_89 : decode cX0_nearest 89 = .ok (.lload 8, 2) := by decide +kernel
theorem dX0_nearest_91 : decode cX0_nearest 91 = .ok (.lcmp, 1) := by decide +kernel
theorem dX0_nearest_92 : decode cX0_nearest 92 = .ok (.ifCond .ne 17, 3) := by decide +kernel
theorem dX0_nearest_95 : decode cX0_nearest 95 = .ok (.iload 10, 2) := by decide +kernel
theorem dX0_nearest_97 : decode cX0_nearest 97 = .ok (.ifCond .eq 12, 3) := by decide +kernel
theorem dX0_nearest_100 : decode cX0_nearest 100 = .ok (.aload_n 0, 1) := by decide +kernel
theorem dX0_nearest_101 : decode cX0_nearest 101 = .ok (.lload_n 3, 1) := by decide +kernel
theorem dX0_nearest_102 : decode cX0_nearest 102 = .ok (.lload_n 1, 1) := by decide +kernel
theorem dX0_nearest_103 : decode cX0_nearest 103 = .ok (.invokevirtual 92, 3) := by decide +kernel
theorem dX0_nearest_106 : decode cX0_nearest 106 = .ok (.goto 4, 3) := by decide +kernel
theorem dX0_nearest_109 : decode cX0_nearest 109 = .ok (.lload_n 3, 1) := by decide +kernel
theorem dX0_nearest_110 : decode cX0_nearest 110 = .ok (.lreturn, 1) := by decide +kernel
theorem dX0_nextWhole_0 : decode cX0_nextWhole 0 = .ok (.lload_n 3, 1) := by decide +kernel
theorem dX0_nextWhole_1 : decode cX0_nextWhole 1 = .ok (.aload_n 0, 1) := by decide +kernel
theorem dX0_nextWhole_2 : decode cX0_nextWhole 2 = .ok (.getfield 31, 3) := by decide +kernel
theorem dX0_nextWhole_5 : decode cX0_nextWhole 5 = .ok (.lcmp, 1) := by decide +kernel
theorem dX0_nextWhole_6 : decode cX0_nextWhole 6 = .ok (.ifCond .ge 10, 3) := by decide +kernel
theorem dX0_nextWhole_9 : decode cX0_nextWhole 9 = .ok (.aload_n 0, 1) := by decide +kernel
theorem dX0_nextWhole_10 : decode cX0_nextWhole 10 = .ok (.getfield 31, 3) := by decide +kernel
theorem dX0_nextWhole_13 : decode cX0_nextWhole 13 = .ok (.goto 12, 3) := by decide +kernel
theorem dX0_nextWhole_16 : decode cX0_nextWhole 16 = .ok (.lload_n 1, 1) := by decide +kernel
theorem dX0_nextWhole_17 : decode cX0_nextWhole 17 = .ok (.lconst 1, 1) := by decide +kernel
theorem dX0_nextWhole_18 : decode cX0_nextWhole 18 = .ok (.aload_n 0, 1) := by decide +kernel
theorem dX0_nextWhole_19 : decode cX0_nextWhole 19 = .ok (.lload_n 3, 1) := by decide +kernel
theorem dX0_nextWhole_20 : decode cX0_nextWhole 20 = .ok (.invokevirtual 89, 3) := by decide +kernel
theorem dX0_nextWhole_23 : decode cX0_nextWhole 23 = .ok (.lshl, 1) := by decide +kernel
theorem dX0_nextWhole_24 : decode cX0_nextWhole 24 = .ok (.ladd, 1) := by decide +kernel
theorem dX0_nextWhole_25 : decode cX0_nextWhole 25 = .ok (.lreturn, 1) := by decide +kernel
theorem dX0_exponentOf_0 : decode cX0_exponentOf 0 = .ok (.lconst 1, 1) := by decide +kernel
theorem dX0_exponentOf_1 : decode cX0_exponentOf 1 = .ok (.lload_n 1, 1) := by decide +kernel
theorem dX0_exponentOf_2 : decode cX0_exponentOf 2 = .ok (.aload_n 0, 1) := by decide +kernel
theorem dX0_exponentOf_3 : decode cX0_exponentOf 3 = .ok (.getfield 17, 3) := by decide +kernel
theorem dX0_exponentOf_6 : decode cX0_exponentOf 6 = .ok (.lushr, 1) := by decide +kernel
theorem dX0_exponentOf_7 : decode cX0_exponentOf 7 = .ok (.invokestatic 44, 3) := by decide +kernel
theorem dX0_exponentOf_10 : decode cX0_exponentOf 10 = .ok (.l2i, 1) := by decide +kernel
theorem dX0_exponentOf_11 : decode cX0_exponentOf 11 = .ok (.ireturn, 1) := by decide +kernel
theorem dX0_significandOf_0 : decode cX0_significandOf 0 = .ok (.lload_n 1, 1) := by decide +kernel
theorem dX0_significandOf_1 : decode cX0_significandOf 1 = .ok (.aload_n 0, 1) := by decide +kernel
theorem dX0_significandOf_2 : decode cX0_significandOf 2 = .ok (.getfield 37, 3) := by decide +kernel
theorem dX0_significandOf_5 : decode cX0_significandOf 5 = .ok (.lconst 1, 1) := by decide +kernel
theorem dX0_significandOf_6 : decode cX0_significandOf 6 = .ok (.lsub, 1) := by decide +kernel
theorem dX0_significandOf_7 : decode cX0_significandOf 7 = .ok (.land, 1) := by decide +kernel
theorem dX0_significandOf_8 : decode cX0_significandOf 8 = .ok (.lstore_n 3, 1) := by decide +kernel
theorem dX0_significandOf_9 : decode cX0_significandOf 9 = .ok (.lload_n 1, 1) := by decide +kernel
theorem dX0_significandOf_10 : decode cX0_significandOf 10 = .ok (.aload_n 0, 1) := by decide +kernel
theorem dX0_significandOf_11 : decode cX0_significandOf 11 = .ok (.getfield 37, 3) := by decide +kernel
theorem dX0_significandOf_14 : decode cX0_significandOf 14 = .ok (.lcmp, 1) := by decide +kernel
theorem dX0_significandOf_15 : decode cX0_significandOf 15 = .ok (.ifCond .ge 7, 3) := by decide +kernel
theorem dX0_significandOf_18 : decode cX0_significandOf 18 = .ok (.lload_n 3, 1) := by decide +kernel
theorem dX0_significandOf_19 : decode cX0_significandOf 19 = .ok (.goto 9, 3) := by decide +kernel
theorem dX0_significandOf_22 : decode cX0_significandOf 22 = .ok (.lload_n 3, 1) := by decide +kernel
theorem dX0_significandOf_23 : decode cX0_significandOf 23 = .ok (.aload_n 0, 1) := by decide +kernel
theorem dX0_significandOf_24 : decode cX0_significandOf 24 = .ok (.getfield 37, 3) := by decide +kernel
theorem dX0_significandOf_27 : decode cX0_significandOf 27 = .ok (.lor, 1) := by decide +kernel
theorem dX0_significandOf_28 : decode cX0_significandOf 28 = .ok (.iconst 3, 1) := by decide +kernel
theorem dX0_significandOf_29 : decode cX0_significandOf 29 = .ok (.lshl, 1) := by decide +kernel
theorem dX0_significandOf_30 : decode cX0_significandOf 30 = .ok (.lreturn, 1) := by decide +kernel
theorem dX0_shiftedRight_0 : decode cX0_shiftedRight 0 = .ok (.iload_n 2, 1) := by decide +kernel
theorem dX0_shiftedRight_1 : decode cX0_shiftedRight 1 = .ok (.bipush 63, 2) := by decide +kernel
theorem dX0_shiftedRight_3 : decode cX0_shiftedRight 3 = .ok (.invokestatic 95, 3) := by decide +kernel
theorem dX0_shiftedRight_6 : decode cX0_shiftedRight 6 = .ok (.istore_n 3, 1) := by decide +kernel
theorem dX0_shiftedRight_7 : decode cX0_shiftedRight 7 = .ok (.lload_n 0, 1) := by decide +kernel
theorem dX0_shiftedRight_8 : decode cX0_shiftedRight 8 = .ok (.iload_n 3, 1) := by decide +kernel
theorem dX0_shiftedRight_9 : decode cX0_shiftedRight 9 = .ok (.lushr, 1) := by decide +kernel
theorem dX0_shiftedRight_10 : decode cX0_shiftedRight 10 = .ok (.lstore 4, 2) := by decide +kernel
theorem dX0_shiftedRight_12 : decode cX0_shiftedRight 12 = .ok (.lload 4, 2) := by decide +kernel
theorem dX0_shiftedRight_14 : decode cX0_shiftedRight 14 = .ok (.iload_n 3, 1) := by decide +kernel
theorem dX0_shiftedRight_15 : decode cX0_shiftedRight 15 = .ok (.lshl, 1) := by decide +kernel
theorem dX0_shiftedRight_16 : decode cX0_shiftedRight 16 = .ok (.lload_n 0, 1) := by decide +kernel
theorem dX0_shiftedRight_17 : decode cX0_shiftedRight 17 = .ok (.lcmp, 1) := by decide +kernel
theorem dX0_shiftedRight_18 : decode cX0_shiftedRight 18 = .ok (.ifCond .ne 8, 3) := by decide +kernel
theorem dX0_shiftedRight_21 : decode cX0_shiftedRight 21 = .ok (.lload 4, 2) := by decide +kernel
theorem dX0_shiftedRight_23 : decode cX0_shiftedRight 23 = .ok (.goto 7, 3) := by decide +kernel
theorem dX0_shiftedRight_26 : decode cX0_shiftedRight 26 = .ok (.lload 4, 2) := by decide +kernel
theorem dX0_shiftedRight_28 : decode cX0_shiftedRight 28 = .ok (.lconst 1, 1) := by decide +kernel
theorem dX0_shiftedRight_29 : decode cX0_shiftedRight 29 = .ok (.lor, 1) := by decide +kernel
theorem dX0_shiftedRight_30 : decode cX0_shiftedRight 30 = .ok (.lreturn, 1) := by decide +kernel
theorem dX0_minus_0 : decode cX0_minus 0 = .ok (.lload_n 1, 1) := by decide +kernel
theorem dX0_minus_1 : decode cX0_minus 1 = .ok (.lload_n 3, 1) := by decide +kernel
theorem dX0_minus_2 : decode cX0_minus 2 = .ok (.lcmp, 1) := by decide +kernel
theorem dX0_minus_3 : decode cX0_minus 3 = .ok (.ifCond .ne 5, 3) := by decide +kernel
theorem dX0_minus_6 : decode cX0_minus 6 = .ok (.lconst 0, 1) := by decide +kernel
theorem dX0_minus_7 : decode cX0_minus 7 = .ok (.lreturn, 1) := by decide +kernel
theorem dX0_minus_8 : decode cX0_minus 8 = .ok (.lload_n 1, 1) := by decide +kernel
theorem dX0_minus_9 : decode cX0_minus 9 = .ok (.aload_n 0, 1) := by decide +kernel
theorem dX0_minus_10 : decode cX0_minus 10 = .ok (.getfield 25, 3) := by decide +kernel
theorem dX0_minus_13 : decode cX0_minus 13 = .ok (.lcmp, 1) := by decide +kernel
theorem dX0_minus_14 : decode cX0_minus 14 = .ok (.ifCond .ne 8, 3) := by decide +kernel
theorem dX0_minus_17 : decode cX0_minus 17 = .ok (.aload_n 0, 1) := by decide +kernel
theorem dX0_minus_18 : decode cX0_minus 18 = .ok (.getfield 25, 3) := by decide +kernel
theorem dX0_minus_21 : decode cX0_minus 21 = .ok (.lreturn, 1) := by decide +kernel
theorem dX0_minus_22 : decode cX0_minus 22 = .ok (.aload_n 0, 1) := by decide +kernel
theorem dX0_minus_23 : decode cX0_minus 23 = .ok (.lload_n 1, 1) := by decide +kernel
theorem dX0_minus_24 : decode cX0_minus 24 = .ok (.invokevirtual 53, 3) := by decide +kernel
theorem dX0_minus_27 : decode cX0_minus 27 = .ok (.istore 5, 2) := by decide +kernel
theorem dX0_minus_29 : decode cX0_minus 29 = .ok (.aload_n 0, 1) := by decide +kernel
theorem dX0_minus_30 : decode cX0_minus 30 = .ok (.lload_n 1, 1) := by decide +kernel
theorem dX0_minus_31 : decode cX0_minus 31 = .ok (.invokevirtual 57, 3) := by decide +kernel
theorem dX0_minus_34 : decode cX0_minus 34 = .ok (.aload_n 0, 1) := by decide +kernel
theorem dX0_minus_35 : decode cX0_minus 35 = .ok (.lload_n 3, 1) := by decide +kernel
theorem dX0_minus_36 : decode cX0_minus 36 = .ok (.invokevirtual 57, 3) := by decide +kernel
theorem dX0_minus_39 : decode cX0_minus 39 = .ok (.iload 5, 2) := by decide +kernel
theorem dX0_minus_41 : decode cX0_minus 41 = .ok (.aload_n 0, 1) := by decide +kernel
theorem dX0_minus_42 : decode cX0_minus 42 = .ok (.lload_n 3, 1) := by decide +kernel
theorem dX0_minus_43 : decode cX0_minus 43 = .ok (.invokevirtual 53, 3) := by decide +kernel
theorem dX0_minus_46 : decode cX0_minus 46 = .ok (.isub, 1) := by decide +kernel
theorem dX0_minus_47 : decode cX0_minus 47 = .ok (.invokestatic 60, 3) := by decide +kernel
theorem dX0_minus_50 : decode cX0_minus 50 = .ok (.lsub, 1) := by decide +kernel
theorem dX0_minus_51 : decode cX0_minus 51 = .ok (.lstore 6, 2) := by decide +kernel
theorem dX0_minus_53 : decode cX0_minus 53 = .ok (.iload 5, 2) := by decide +kernel
theorem dX0_minus_55 : decode cX0_minus 55 = .ok (.iconst 1, 1) := by decide +kernel
theorem dX0_minus_56 : decode cX0_minus 56 = .ok (.if_icmp .le 27, 3) := by decide +kernel
theorem dX0_minus_59 : decode cX0_minus 59 = .ok (.lload 6, 2) := by decide +kernel
theorem dX0_minus_61 : decode cX0_minus 61 = .ok (.aload_n 0, 1) := by decide +kernel
theorem dX0_minus_62 : decode cX0_minus 62 = .ok (.getfield 37, 3) := by decide +kernel
theorem dX0_minus_65 : decode cX0_minus 65 = .ok (.iconst 3, 1) := by decide +kernel
theorem dX0_minus_66 : decode cX0_minus 66 = .ok (.lshl, 1) := by decide +kernel
theorem dX0_minus_67 : decode cX0_minus 67 = .ok (.lcmp, 1) := by decide +kernel
theorem dX0_minus_68 : decode cX0_minus 68 = .ok (.ifCond .ge 15, 3) := by decide +kernel
theorem dX0_minus_71 : decode cX0_minus 71 = .ok (.lload 6, 2) := by decide +kernel
theorem dX0_minus_73 : decode cX0_minus 73 = .ok (.iconst 1, 1) := by decide +kernel
theorem dX0_minus_74 : decode cX0_minus 74 = .ok (.lshl, 1) := by decide +kernel
theorem dX0_minus_75 : decode cX0_minus 75 = .ok (.lstore 6, 2) := by decide +kernel
theorem dX0_minus_77 : decode cX0_minus 77 = .ok (.iinc 5 (-1), 3) := by decide +kernel
theorem dX0_minus_80 : decode cX0_minus 80 = .ok (.goto (-27), 3) := by decide +kernel
theorem dX0_minus_83 : decode cX0_minus 83 = .ok (.aload_n 0, 1) := by decide +kernel
theorem dX0_minus_84 : decode cX0_minus 84 = .ok (.lload 6, 2) := by decide +kernel
theorem dX0_minus_86 : decode cX0_minus 86 = .ok (.iload 5, 2) := by decide +kernel
theorem dX0_minus_88 : decode cX0_minus 88 = .ok (.invokevirtual 64, 3) := by decide +kernel
theorem dX0_minus_91 : decode cX0_minus 91 = .ok (.lreturn, 1) := by decide +kernel
theorem dX0_rounded_0 : decode cX0_rounded 0 = .ok (.iload_n 3, 1) := by decide +kernel
theorem dX0_rounded_1 : decode cX0_rounded 1 = .ok (.aload_n 0, 1) := by decide +kernel
theorem dX0_rounded_2 : decode cX0_rounded 2 = .ok (.aload_n 0, 1) := by decide +kernel
theorem dX0_rounded_3 : decode cX0_rounded 3 = .ok (.getfield 25, 3) := by decide +kernel
theorem dX0_rounded_6 : decode cX0_rounded 6 = .ok (.invokevirtual 53, 3) := by decide +kernel
theorem dX0_rounded_9 : decode cX0_rounded 9 = .ok (.if_icmp .lt 8, 3) := by decide +kernel
theorem dX0_rounded_12 : decode cX0_rounded 12 = .ok (.aload_n 0, 1) := by decide +kernel
theorem dX0_rounded_13 : decode cX0_rounded 13 = .ok (.getfield 25, 3) := by decide +kernel
theorem dX0_rounded_16 : decode cX0_rounded 16 = .ok (.lreturn, 1) := by decide +kernel
theorem dX0_rounded_17 : decode cX0_rounded 17 = .ok (.lload_n 1, 1) := by decide +kernel
theorem dX0_rounded_18 : decode cX0_rounded 18 = .ok (.iconst 3, 1) := by decide +kernel
theorem dX0_rounded_19 : decode cX0_rounded 19 = .ok (.lushr, 1) := by decide +kernel
theorem dX0_rounded_20 : decode cX0_rounded 20 = .ok (.lstore 4, 2) := by decide +kernel
theorem dX0_rounded_22 : decode cX0_rounded 22 = .ok (.lload_n 1, 1) := by decide +kernel
theorem dX0_rounded_23 : decode cX0_rounded 23 = .ok (.ldc2_w 98, 3) := by decide +kernel
theorem dX0_rounded_26 : decode cX0_rounded 26 = .ok (.land, 1) := by decide +kernel
theorem dX0_rounded_27 : decode cX0_rounded 27 = .ok (.lstore 6, 2) := by decide +kernel
theorem dX0_rounded_29 : decode cX0_rounded 29 = .ok (.lload 6, 2) := by decide +kernel
theorem dX0_rounded_31 : decode cX0_rounded 31 = .ok (.ldc2_w 100, 3) := by decide +kernel
theorem dX0_rounded_34 : decode cX0_rounded 34 = .ok (.lcmp, 1) := by decide +kernel
theorem dX0_rounded_35 : decode cX0_rounded 35 = .ok (.ifCond .gt 21, 3) := by decide +kernel
theorem dX0_rounded_38 : decode cX0_rounded 38 = .ok (.lload 6, 2) := by decide +kernel
theorem dX0_rounded_40 : decode cX0_rounded 40 = .ok (.ldc2_w 100, 3) := by decide +kernel
theorem dX0_rounded_43 : decode cX0_rounded 43 = .ok (.lcmp, 1) := by decide +kernel
theorem dX0_rounded_44 : decode cX0_rounded 44 = .ok (.ifCond .ne 18, 3) := by decide +kernel
theorem dX0_rounded_47 : decode cX0_rounded 47 = .ok (.lload 4, 2) := by decide +kernel
theorem dX0_rounded_49 : decode cX0_rounded 49 = .ok (.lconst 1, 1) := by decide +kernel
theorem dX0_rounded_50 : decode cX0_rounded 50 = .ok (.land, 1) := by decide +kernel
theorem dX0_rounded_51 : decode cX0_rounded 51 = .ok (.lconst 1, 1) := by decide +kernel
theorem dX0_rounded_52 : decode cX0_rounded 52 = .ok (.lcmp, 1) := by decide +kernel
theorem dX0_rounded_53 : decode cX0_rounded 53 = .ok (.ifCond .ne 9, 3) := by decide +kernel
theorem dX0_rounded_56 : decode cX0_rounded 56 = .ok (.lload 4, 2) := by decide +kernel
theorem dX0_rounded_58 : decode cX0_rounded 58 = .ok (.lconst 1, 1) := by decide +kernel
theorem dX0_rounded_59 : decode cX0_rounded 59 = .ok (.ladd, 1) := by decide +kernel
theorem dX0_rounded_60 : decode cX0_rounded 60 = .ok (.lstore 4, 2) := by decide +kernel
theorem dX0_rounded_62 : decode cX0_rounded 62 = .ok (.iload_n 3, 1) := by decide +kernel
theorem dX0_rounded_63 : decode cX0_rounded 63 = .ok (.iconst 1, 1) := by decide +kernel
theorem dX0_rounded_64 : decode cX0_rounded 64 = .ok (.isub, 1) := by decide +kernel
theorem dX0_rounded_65 : decode cX0_rounded 65 = .ok (.i2l, 1) := by decide +kernel
theorem dX0_rounded_66 : decode cX0_rounded 66 = .ok (.aload_n 0, 1) := by decide +kernel
theorem dX0_rounded_67 : decode cX0_rounded 67 = .ok (.getfield 17, 3) := by decide +kernel
theorem dX0_rounded_70 : decode cX0_rounded 70 = .ok (.lshl, 1) := by decide +kernel
theorem dX0_rounded_71 : decode cX0_rounded 71 = .ok (.lload 4, 2) := by decide +kernel
theorem dX0_rounded_73 : decode cX0_rounded 73 = .ok (.ladd, 1) := by decide +kernel
theorem dX0_rounded_74 : decode cX0_rounded 74 = .ok (.lreturn, 1) := by decide +kernel
theorem dX1_init_0 : decode cX1_init 0 = .ok (.aload_n 0, 1) := by decide +kernel
theorem dX1_init_1 : decode cX1_init 1 = .ok (.invokespecial 3, 3) := by decide +kernel
theorem dX1_init_4 : decode cX1_init 4 = .ok (.aload_n 0, 1) := by decide +kernel
theorem dX1_init_5 : decode cX1_init 5 = .ok (.iload_n 1, 1) := by decide +kernel
theorem dX1_init_6 : decode cX1_init 6 = .ok (.putfield 9, 3) := by decide +kernel
theorem dX1_init_9 : decode cX1_init 9 = .ok (.aload_n 0, 1) := by decide +kernel
theorem dX1_init_10 : decode cX1_init 10 = .ok (.aload_n 2, 1) := by decide +kernel
theorem dX1_init_11 : decode cX1_init 11 = .ok (.putfield 15, 3) := by decide +kernel
theorem dX1_init_14 : decode cX1_init 14 = .ok (.aload_n 0, 1) := by decide +kernel
theorem dX1_init_15 : decode cX1_init 15 = .ok (.aload_n 2, 1) := by decide +kernel
theorem dX1_init_16 : decode cX1_init 16 = .ok (.getfield 19, 3) := by decide +kernel
theorem dX1_init_19 : decode cX1_init 19 = .ok (.putfield 25, 3) := by decide +kernel
theorem dX1_init_22 : decode cX1_init 22 = .ok (.aload_n 0, 1) := by decide +kernel
theorem dX1_init_23 : decode cX1_init 23 = .ok (.aload_n 2, 1) := by decide +kernel
theorem dX1_init_24 : decode cX1_init 24 = .ok (.getfield 28, 3) := by decide +kernel
theorem dX1_init_27 : decode cX1_init 27 = .ok (.putfield 31, 3) := by decide +kernel
theorem dX1_init_30 : decode cX1_init 30 = .ok (.aload_n 0, 1) := by decide +kernel
theorem dX1_init_31 : decode cX1_init 31 = .ok (.bipush 6, 2) := by decide +kernel
theorem dX1_init_33 : decode cX1_init 33 = .ok (.newarray .int, 2) := by decide +kernel
theorem dX1_init_35 : decode cX1_init 35 = .ok (.putfield 34, 3) := by decide +kernel
theorem dX1_init_38 : decode cX1_init 38 = .ok (.aload_n 0, 1) := by decide +kernel
theorem dX1_init_39 : decode cX1_init 39 = .ok (.bipush 6, 2) := by decide +kernel
theorem dX1_init_41 : decode cX1_init 41 = .ok (.newarray .long, 2) := by decide +kernel
theorem dX1_init_43 : decode cX1_init 43 = .ok (.putfield 38, 3) := by decide +kernel
theorem dX1_init_46 : decode cX1_init 46 = .ok (.aload_n 0, 1) := by decide +kernel
theorem dX1_init_47 : decode cX1_init 47 = .ok (.bipush 6, 2) := by decide +kernel
theorem dX1_init_49 : decode cX1_init 49 = .ok (.anewarray 10, 3) := by decide +kernel
theorem dX1_init_52 : decode cX1_init 52 = .ok (.putfield 42, 3) := by decide +kernel
theorem dX1_init_55 : decode cX1_init 55 = .ok (.aload_n 0, 1) := by decide +kernel
theorem dX1_init_56 : decode cX1_init 56 = .ok (.bipush 16, 2) := by decide +kernel
theorem dX1_init_58 : decode cX1_init 58 = .ok (.newarray .long, 2) := by decide +kernel
theorem dX1_init_60 : decode cX1_init 60 = .ok (.putfield 46, 3) := by decide +kernel
theorem dX1_init_63 : decode cX1_init 63 = .ok (.return_, 1) := by decide +kernel
theorem dX1_chainIsFull_0 : decode cX1_chainIsFull 0 = .ok (.aload_n 0, 1) := by decide +kernel
theorem dX1_chainIsFull_1 : decode cX1_chainIsFull 1 = .ok (.getfield 49, 3) := by decide +kernel
theorem dX1_chainIsFull_4 : decode cX1_chainIsFull 4 = .ok (.bipush 6, 2) := by decide +kernel
theorem dX1_chainIsFull_6 : decode cX1_chainIsFull 6 = .ok (.if_icmp .lt 7, 3) := by decide +kernel
theorem dX1_chainIsFull_9 : decode cX1_chainIsFull 9 = .ok (.iconst 1, 1) := by decide +kernel
theorem dX1_chainIsFull_10 : decode cX1_chainIsFull 10 = .ok (.goto 4, 3) := by decide +kernel
theorem dX1_chainIsFull_13 : decode cX1_chainIsFull 13 = .ok (.iconst 0, 1) := by decide +kernel
theorem dX1_chainIsFull_14 : decode cX1_chainIsFull 14 = .ok (.ireturn, 1) := by decide +kernel
theorem dX1_addStep_0 : decode cX1_addStep 0 = .ok (.aload_n 0, 1) := by decide +kernel
theorem dX1_addStep_1 : decode cX1_addStep 1 = .ok (.getfield 34, 3) := by decide +kernel
theorem dX1_addStep_4 : decode cX1_addStep 4 = .ok (.aload_n 0, 1) := by decide +kernel
theorem dX1_addStep_5 : decode cX1_addStep 5 = .ok (.getfield 49, 3) := by decide +kernel
theorem dX1_addStep_8 : decode cX1_addStep 8 = .ok (.iload_n 1, 1) := by decide +kernel
theorem dX1_addStep_9 : decode cX1_addStep 9 = .ok (.iastore, 1) := by decide +kernel
theorem dX1_addStep_10 : decode cX1_addStep 10 = .ok (.aload_n 0, 1) := by decide +kernel
theorem dX1_addStep_11 : decode cX1_addStep 11 = .ok (.getfield 38, 3) := by decide +kernel
theorem dX1_addStep_14 : decode cX1_addStep 14 = .ok (.aload_n 0, 1) := by decide +kernel
theorem dX1_addStep_15 : decode cX1_addStep 15 = .ok (.getfield 49, 3) := by decide +kernel
theorem dX1_addStep_18 : decode cX1_addStep 18 = .ok (.lload_n 2, 1) := by decide +kernel
theorem dX1_addStep_19 : decode cX1_addStep 19 = .ok (.lastore, 1) := by decide +kernel
theorem dX1_addStep_20 : decode cX1_addStep 20 = .ok (.aload_n 0, 1) := by decide +kernel
theorem dX1_addStep_21 : decode cX1_addStep 21 = .ok (.getfield 42, 3) := by decide +kernel
theorem dX1_addStep_24 : decode cX1_addStep 24 = .ok (.aload_n 0, 1) := by decide +kernel
theorem dX1_addStep_25 : decode cX1_addStep 25 = .ok (.getfield 49, 3) := by decide +kernel
theorem dX1_addStep_28 : decode cX1_addStep 28 = .ok (.aload 4, 2) := by decide +kernel
theorem dX1_addStep_30 : decode cX1_addStep 30 = .ok (.aastore, 1) := by decide +kernel
theorem dX1_addStep_31 : decode cX1_addStep 31 = .ok (.aload_n 0, 1) := by decide +kernel
theorem dX1_addStep_32 : decode cX1_addStep 32 = .ok (.dup, 1) := by decide +kernel
theorem dX1_addStep_33 : decode cX1_addStep 33 = .ok (.getfield 49, 3) := by decide +kernel
theorem dX1_addStep_36 : decode cX1_addStep 36 = .ok (.iconst 1, 1) := by decide +kernel
theorem dX1_addStep_37 : decode cX1_addStep 37 = .ok (.iadd, 1) := by decide +kernel
theorem dX1_addStep_38 : decode cX1_addStep 38 = .ok (.putfield 49, 3) := by decide +kernel
theorem dX1_addStep_41 : decode cX1_addStep 41 = .ok (.aload_n 0, 1) := by decide +kernel
theorem dX1_addStep_42 : decode cX1_addStep 42 = .ok (.getfield 49, 3) := by decide +kernel
theorem dX1_addStep_45 : decode cX1_addStep 45 = .ok (.ireturn, 1) := by decide +kernel
theorem dX1_throughChain_0 : decode cX1_throughChain 0 = .ok (.lload_n 1, 1) := by decide +kernel
theorem dX1_throughChain_1 : decode cX1_throughChain 1 = .ok (.lstore_n 3, 1) := by decide +kernel
theorem dX1_throughChain_2 : decode cX1_throughChain 2 = .ok (.iconst 0, 1) := by decide +kernel
theorem dX1_throughChain_3 : decode cX1_throughChain 3 = .ok (.istore 5, 2) := by decide +kernel
theorem dX1_throughChain_5 : decode cX1_throughChain 5 = .ok (.iload 5, 2) := by decide +kernel
theorem dX1_throughChain_7 : decode cX1_throughChain 7 = .ok (.aload_n 0, 1) := by decide +kernel
theorem dX1_throughChain_8 : decode cX1_throughChain 8 = .ok (.getfield 49, 3) := by decide +kernel
theorem dX1_throughChain_11 : decode cX1_throughChain 11 = .ok (.if_icmp .ge 58, 3) := by decide +kernel
theorem dX1_throughChain_14 : decode cX1_throughChain 14 = .ok (.aload_n 0, 1) := by decide +kernel
theorem dX1_throughChain_15 : decode cX1_throughChain 15 = .ok (.getfield 42, 3) := by decide +kernel
theorem dX1_throughChain_18 : decode cX1_throughChain 18 = .ok (.iload 5, 2) := by decide +kernel
theorem dX1_throughChain_20 : decode cX1_throughChain 20 = .ok (.aaload, 1) := by decide +kernel
theorem dX1_throughChain_21 : decode cX1_throughChain 21 = .ok (.astore 6, 2) := by decide +kernel
theorem dX1_throughChain_23 : decode cX1_throughChain 23 = .ok (.aload 6, 2) := by decide +kernel
theorem dX1_throughChain_25 : decode cX1_throughChain 25 = .ok (.ifnonnull 13, 3) := by decide +kernel
theorem dX1_throughChain_28 : decode cX1_throughChain 28 = .ok (.aload_n 0, 1) := by decide +kernel
theorem dX1_throughChain_29 : decode cX1_throughChain 29 = .ok (.getfield 38, 3) := by decide +kernel
theorem dX1_throughChain_32 : decode cX1_throughChain 32 = .ok (.iload 5, 2) := by decide +kernel
theorem dX1_throughChain_34 : decode cX1_throughChain 34 = .ok (.laload, 1) := by decide +kernel
theorem dX1_throughChain_35 : decode cX1_throughChain 35 = .ok (.goto 8, 3) := by decide +kernel
theorem dX1_throughChain_38 : decode cX1_throughChain 38 = .ok (.aload 6, 2) := by decide +kernel
theorem dX1_throughChain_40 : decode cX1_throughChain 40 = .ok (.invokevirtual 52, 3) := by decide +kernel
theorem dX1_throughChain_43 : decode cX1_throughChain 43 = .ok (.lstore 7, 2) := by decide +kernel
theorem dX1_throughChain_45 : decode cX1_throughChain 45 = .ok (.aload_n 0, 1) := by decide +kernel
theorem dX1_throughChain_46 : decode cX1_throughChain 46 = .ok (.getfield 15, 3) := by decide +kernel
theorem dX1_throughChain_49 : decode cX1_throughChain 49 = .ok (.aload_n 0, 1) := by decide +kernel
theorem dX1_throughChain_50 : decode cX1_throughChain 50 = .ok (.getfield 34, 3) := by decide +kernel
theorem dX1_throughChain_53 : decode cX1_throughChain 53 = .ok (.iload 5, 2) := by decide +kernel
theorem dX1_throughChain_55 : decode cX1_throughChain 55 = .ok (.iaload, 1) := by decide +kernel
theorem dX1_throughChain_56 : decode cX1_throughChain 56 = .ok (.lload_n 3, 1) := by decide +kernel
theorem dX1_throughChain_57 : decode cX1_throughChain 57 = .ok (.lload 7, 2) := by decide +kernel
theorem dX1_throughChain_59 : decode cX1_throughChain 59 = .ok (.invokevirtual 56, 3) := by decide +kernel
theorem dX1_throughChain_62 : decode cX1_throughChain 62 = .ok (.lstore_n 3, 1) := by decide +kernel
theorem dX1_throughChain_63 : decode cX1_throughChain 63 = .ok (.iinc 5 1, 3) := by decide +kernel
theorem dX1_throughChain_66 : decode cX1_throughChain 66 = .ok (.goto (-61), 3) := by decide +kernel
theorem dX1_throughChain_69 : decode cX1_throughChain 69 = .ok (.lload_n 3, 1) := by decide +kernel
theorem dX1_throughChain_70 : decode cX1_throughChain 70 = .ok (.lreturn, 1) := by decide +kernel
theorem dX1_keep_0 : decode cX1_keep 0 = .ok (.aload_n 0, 1) := by decide +kernel
theorem dX1_keep_1 : decode cX1_keep 1 = .ok (.invokevirtual 60, 3) := by decide +kernel
theorem dX1_keep_4 : decode cX1_keep 4 = .ok (.ifCond .eq 78, 3) := by decide +kernel
theorem dX1_keep_7 : decode cX1_keep 7 = .ok (.aload_n 0, 1) := by decide +kernel
theorem dX1_keep_8 : decode cX1_keep 8 = .ok (.aload_n 0, 1) := by decide +kernel
theorem dX1_keep_9 : decode cX1_keep 9 = .ok (.getfield 15, 3) := by decide +kernel
theorem dX1_keep_12 : decode cX1_keep 12 = .ok (.aload_n 0, 1) := by decide +kernel
theorem dX1_keep_13 : decode cX1_keep 13 = .ok (.getfield 64, 3) := by decide +kernel
theorem dX1_keep_16 : decode cX1_keep 16 = .ok (.lload_n 1, 1) := by decide +kernel
theorem dX1_keep_17 : decode cX1_keep 17 = .ok (.invokevirtual 67, 3) := by decide +kernel
theorem dX1_keep_20 : decode cX1_keep 20 = .ok (.putfield 64, 3) := by decide +kernel
theorem dX1_keep_23 : decode cX1_keep 23 = .ok (.aload_n 0, 1) := by decide +kernel
theorem dX1_keep_24 : decode cX1_keep 24 = .ok (.aload_n 0, 1) := by decide +kernel
theorem dX1_keep_25 : decode cX1_keep 25 = .ok (.getfield 15, 3) := by decide +kernel
theorem dX1_keep_28 : decode cX1_keep 28 = .ok (.aload_n 0, 1) := by decide +kernel
theorem dX1_keep_29 : decode cX1_keep 29 = .ok (.getfield 71, 3) := by decide +kernel
theorem dX1_keep_32 : decode cX1_keep 32 = .ok (.lload_n 1, 1) := by decide +kernel
theorem dX1_keep_33 : decode cX1_keep 33 = .ok (.invokevirtual 74, 3) := by decide +kernel
theorem dX1_keep_36 : decode cX1_keep 36 = .ok (.putfield 71, 3) := by decide +kernel
theorem dX1_keep_39 : decode cX1_keep 39 = .ok (.aload_n 0, 1) := by decide +kernel
theorem dX1_keep_40 : decode cX1_keep 40 = .ok (.aload_n 0, 1) := by decide +kernel
theorem dX1_keep_41 : decode cX1_keep 41 = .ok (.getfield 15, 3) := by decide +kernel
theorem dX1_keep_44 : decode cX1_keep 44 = .ok (.lload_n 1, 1) := by decide +kernel
theorem dX1_keep_45 : decode cX1_keep 45 = .ok (.aload_n 0, 1) := by decide +kernel
theorem dX1_keep_46 : decode cX1_keep 46 = .ok (.iconst 0, 1) := by decide +kernel
theorem dX1_keep_47 : decode cX1_keep 47 = .ok (.invokevirtual 77, 3) := by decide +kernel
theorem dX1_keep_50 : decode cX1_keep 50 = .ok (.invokevirtual 81, 3) := by decide +kernel
theorem dX1_keep_53 : decode cX1_keep 53 = .ok (.putfield 84, 3) := by decide +kernel
theorem dX1_keep_56 : decode cX1_keep 56 = .ok (.aload_n 0, 1) := by decide +kernel
theorem dX1_keep_57 : decode cX1_keep 57 = .ok (.aload_n 0, 1) := by decide +kernel
theorem dX1_keep_58 : decode cX1_keep 58 = .ok (.getfield 15, 3) := by decide +kernel
theorem dX1_keep_61 : decode cX1_keep 61 = .ok (.aload_n 0, 1) := by decide +kernel
theorem dX1_keep_62 : decode cX1_keep 62 = .ok (.getfield 87, 3) := by decide +kernel
theorem dX1_keep_65 : decode cX1_keep 65 = .ok (.aload_n 0, 1) := by decide +kernel
theorem dX1_keep_66 : decode cX1_keep 66 = .ok (.getfield 15, 3) := by decide +kernel
theorem dX1_keep_69 : decode cX1_keep 69 = .ok (.lload_n 1, 1) := by decide +kernel
theorem dX1_keep_70 : decode cX1_keep 70 = .ok (.invokevirtual 90, 3) := by decide +kernel
theorem dX1_keep_73 : decode cX1_keep 73 = .ok (.invokevirtual 94, 3) := by decide +kernel
theorem dX1_keep_76 : decode cX1_keep 76 = .ok (.putfield 87, 3) := by decide +kernel
theorem dX1_keep_79 : decode cX1_keep 79 = .ok (.goto 30, 3) := by decide +kernel
theorem dX1_keep_82 : decode cX1_keep 82 = .ok (.aload_n 0, 1) := by decide +kernel
theorem dX1_keep_83 : decode cX1_keep 83 = .ok (.lload_n 1, 1) := by decide +kernel
theorem dX1_keep_84 : decode cX1_keep 84 = .ok (.putfield 64, 3) := by decide +kernel
theorem dX1_keep_87 : decode cX1_keep 87 = .ok (.aload_n 0, 1) := by decide +kernel
theorem dX1_keep_88 : decode cX1_keep 88 = .ok (.lload_n 1, 1) := by decide +kernel
theorem dX1_keep_89 : decode cX1_keep 89 = .ok (.putfield 71, 3) := by decide +kernel
theorem dX1_keep_92 : decode cX1_keep 92 = .ok (.aload_n 0, 1) := by decide +kernel
theorem dX1_keep_93 : decode cX1_keep 93 = .ok (.lconst 0, 1) := by decide +kernel
theorem dX1_keep_94 : decode cX1_keep 94 = .ok (.putfield 84, 3) := by decide +kernel
theorem dX1_keep_97 : decode cX1_keep 97 = .ok (.aload_n 0, 1) := by decide +kernel
theorem dX1_keep_98 : decode cX1_keep 98 = .ok (.aload_n 0, 1) := by decide +kernel
theorem dX1_keep_99 : decode cX1_keep 99 = .ok (.getfield 15, 3) := by decide +kernel
theorem dX1_keep_102 : decode cX1_keep 102 = .ok (.lload_n 1, 1) := by decide +kernel
theorem dX1_keep_103 : decode cX1_keep 103 = .ok (.invokevirtual 90, 3) := by decide +kernel
theorem dX1_keep_106 : decode cX1_keep 106 = .ok (.putfield 87, 3) := by decide +kernel
theorem dX1_keep_109 : decode cX1_keep 109 = .ok (.aload_n 0, 1) := by decide +kernel
theorem dX1_keep_110 : decode cX1_keep 110 = .ok (.getfield 46, 3) := by decide +kernel
theorem dX1_keep_113 : decode cX1_keep 113 = .ok (.aload_n 0, 1) := by decide +kernel
theorem dX1_keep_114 : decode cX1_keep 114 = .ok (.getfield 97, 3) := by decide +kernel
theorem dX1_keep_117 : decode cX1_keep 117 = .ok (.bipush 15, 2) := by decide +kernel
theorem dX1_keep_119 : decode cX1_keep 119 = .ok (.iand, 1) := by decide +kernel
theorem dX1_keep_120 : decode cX1_keep 120 = .ok (.lload_n 1, 1) := by decide +kernel
theorem dX1_keep_121 : decode cX1_keep 121 = .ok (.lastore, 1) := by decide +kernel
theorem dX1_keep_122 : decode cX1_keep 122 = .ok (.aload_n 0, 1) := by decide +kernel
theorem dX1_keep_123 : decode cX1_keep 123 = .ok (.dup, 1) := by decide +kernel
theorem dX1_keep_124 : decode cX1_keep 124 = .ok (.getfield 97, 3) := by decide +kernel
theorem dX1_keep_127 : decode cX1_keep 127 = .ok (.iconst 1, 1) := by decide +kernel
theorem dX1_keep_128 : decode cX1_keep 128 = .ok (.iadd, 1) := by decide +kernel
theorem dX1_keep_129 : decode cX1_keep 129 = .ok (.putfield 97, 3) := by decide +kernel
theorem dX1_keep_132 : decode cX1_keep 132 = .ok (.return_, 1) := by decide +kernel
theorem dX1_isBeyondLimits_0 : decode cX1_isBeyondLimits 0 = .ok (.aload_n 0, 1) := by decide +kernel
theorem dX1_isBeyondLimits_1 : decode cX1_isBeyondLimits 1 = .ok (.getfield 15, 3) := by decide +kernel
theorem dX1_isBeyondLimits_4 : decode cX1_isBeyondLimits 4 = .ok (.aload_n 0, 1) := by decide +kernel
theorem dX1_isBeyondLimits_5 : decode cX1_isBeyondLimits 5 = .ok (.getfield 25, 3) := by decide +kernel
theorem dX1_isBeyondLimits_8 : decode cX1_isBeyondLimits 8 = .ok (.lload_n 1, 1) := by decide +kernel
theorem dX1_isBeyondLimits_9 : decode cX1_isBeyondLimits 9 = .ok (.invokevirtual 100, 3) := by decide +kernel
theorem dX1_isBeyondLimits_12 : decode cX1_isBeyondLimits 12 = .ok (.ifCond .ne 18, 3) := by decide +kernel
theorem dX1_isBeyondLimits_15 : decode cX1_isBeyondLimits 15 = .ok (.aload_n 0, 1) := by decide +kernel
theorem dX1_isBeyondLimits_16 : decode cX1_isBeyondLimits 16 = .ok (.getfield 15, 3) := by decide +kernel
theorem dX1_isBeyondLimits_19 : decode cX1_isBeyondLimits 19 = .ok (.lload_n 1, 1) := by decide +kernel
theorem dX1_isBeyondLimits_20 : decode cX1_isBeyondLimits 20 = .ok (.aload_n 0, 1) := by decide +kernel
theorem dX1_isBeyondLimits_21 : decode cX1_isBeyondLimits 21 = .ok (.getfield 31, 3) := by decide +kernel
theorem dX1_isBeyondLimits_24 : decode cX1_isBeyondLimits 24 = .ok (.invokevirtual 100, 3) := by decide +kernel
theorem dX1_isBeyondLimits_27 : decode cX1_isBeyondLimits 27 = .ok (.ifCond .eq 7, 3) := by decide +kernel
theorem dX1_isBeyondLimits_30 : decode cX1_isBeyondLimits 30 = .ok (.iconst 1, 1) := by decide +kernel
theorem dX1_isBeyondLimits_31 : decode cX1_isBeyondLimits 31 = .ok (.goto 4, 3) := by decide +kernel
theorem dX1_isBeyondLimits_34 : decode cX1_isBeyondLimits 34 = .ok (.iconst 0, 1) := by decide +kernel
theorem dX1_isBeyondLimits_35 : decode cX1_isBeyondLimits 35 = .ok (.ireturn, 1) := by decide +kernel
theorem dX1_hasRead_0 : decode cX1_hasRead 0 = .ok (.aload_n 0, 1) := by decide +kernel
theorem dX1_hasRead_1 : decode cX1_hasRead 1 = .ok (.getfield 97, 3) := by decide +kernel
theorem dX1_hasRead_4 : decode cX1_hasRead 4 = .ok (.ifCond .eq 7, 3) := by decide +kernel
theorem dX1_hasRead_7 : decode cX1_hasRead 7 = .ok (.iconst 1, 1) := by decide +kernel
theorem dX1_hasRead_8 : decode cX1_hasRead 8 = .ok (.goto 4, 3) := by decide +kernel
theorem dX1_hasRead_11 : decode cX1_hasRead 11 = .ok (.iconst 0, 1) := by decide +kernel
theorem dX1_hasRead_12 : decode cX1_hasRead 12 = .ok (.ireturn, 1) := by decide +kernel
theorem dX1_keeps_0 : decode cX1_keeps 0 = .ok (.iload_n 1, 1) := by decide +kernel
theorem dX1_keeps_1 : decode cX1_keeps 1 = .ok (.ifCond .lt 21, 3) := by decide +kernel
theorem dX1_keeps_4 : decode cX1_keeps 4 = .ok (.iload_n 1, 1) := by decide +kernel
theorem dX1_keeps_5 : decode cX1_keeps 5 = .ok (.bipush 16, 2) := by decide +kernel
theorem dX1_keeps_7 : decode cX1_keeps 7 = .ok (.if_icmp .ge 15, 3) := by decide +kernel
theorem dX1_keeps_10 : decode cX1_keeps 10 = .ok (.iload_n 1, 1) := by decide +kernel
theorem dX1_keeps_11 : decode cX1_keeps 11 = .ok (.aload_n 0, 1) := by decide +kernel
theorem dX1_keeps_12 : decode cX1_keeps 12 = .ok (.getfield 97, 3) := by decide +kernel
theorem dX1_keeps_15 : decode cX1_keeps 15 = .ok (.if_icmp .ge 7, 3) := by decide +kernel
theorem dX1_keeps_18 : decode cX1_keeps 18 = .ok (.iconst 1, 1) := by decide +kernel
theorem dX1_keeps_19 : decode cX1_keeps 19 = .ok (.goto 4, 3) := by decide +kernel
theorem dX1_keeps_22 : decode cX1_keeps 22 = .ok (.iconst 0, 1) := by decide +kernel
theorem dX1_keeps_23 : decode cX1_keeps 23 = .ok (.ireturn, 1) := by decide +kernel
theorem dX1_latest_0 : decode cX1_latest 0 = .ok (.aload_n 0, 1) := by decide +kernel
theorem dX1_latest_1 : decode cX1_latest 1 = .ok (.getfield 46, 3) := by decide +kernel
theorem dX1_latest_4 : decode cX1_latest 4 = .ok (.aload_n 0, 1) := by decide +kernel
theorem dX1_latest_5 : decode cX1_latest 5 = .ok (.getfield 97, 3) := by decide +kernel
theorem dX1_latest_8 : decode cX1_latest 8 = .ok (.iconst 1, 1) := by decide +kernel
theorem dX1_latest_9 : decode cX1_latest 9 = .ok (.isub, 1) := by decide +kernel
theorem dX1_latest_10 : decode cX1_latest 10 = .ok (.iload_n 1, 1) := by decide +kernel
theorem dX1_latest_11 : decode cX1_latest 11 = .ok (.isub, 1) := by decide +kernel
theorem dX1_latest_12 : decode cX1_latest 12 = .ok (.bipush 15, 2) := by decide +kernel
theorem dX1_latest_14 : decode cX1_latest 14 = .ok (.iand, 1) := by decide +kernel
theorem dX1_latest_15 : decode cX1_latest 15 = .ok (.laload, 1) := by decide +kernel
theorem dX1_latest_16 : decode cX1_latest 16 = .ok (.lreturn, 1) := by decide +kernel
theorem dX1_latestOrZero_0 : decode cX1_latestOrZero 0 = .ok (.aload_n 0, 1) := by decide +kernel
theorem dX1_latestOrZero_1 : decode cX1_latestOrZero 1 = .ok (.invokevirtual 60, 3) := by decide +kernel
theorem dX1_latestOrZero_4 : decode cX1_latestOrZero 4 = .ok (.ifCond .eq 11, 3) := by decide +kernel
theorem dX1_latestOrZero_7 : decode cX1_latestOrZero 7 = .ok (.aload_n 0, 1) := by decide +kernel
theorem dX1_latestOrZero_8 : decode cX1_latestOrZero 8 = .ok (.iconst 0, 1) := by decide +kernel
theorem dX1_latestOrZero_9 : decode cX1_latestOrZero 9 = .ok (.invokevirtual 77, 3) := by decide +kernel
theorem dX1_latestOrZero_12 : decode cX1_latestOrZero 12 = .ok (.goto 4, 3) := by decide +kernel
theorem dX1_latestOrZero_15 : decode cX1_latestOrZero 15 = .ok (.lconst 0, 1) := by decide +kernel
theorem dX1_latestOrZero_16 : decode cX1_latestOrZero 16 = .ok (.lreturn, 1) := by decide +kernel
theorem dX1_dropReadings_0 : decode cX1_dropReadings 0 = .ok (.aload_n 0, 1) := by decide +kernel
theorem dX1_dropReadings_1 : decode cX1_dropReadings 1 = .ok (.getfield 97, 3) := by decide +kernel
theorem dX1_dropReadings_4 : decode cX1_dropReadings 4 = .ok (.istore_n 1, 1) := by decide +kernel
theorem dX1_dropReadings_5 : decode cX1_dropReadings 5 = .ok (.aload_n 0, 1) := by decide +kernel
theorem dX1_dropReadings_6 : decode cX1_dropReadings 6 = .ok (.iconst 0, 1) := by decide +kernel
theorem dX1_dropReadings_7 : decode cX1_dropReadings 7 = .ok (.putfield 97, 3) := by decide +kernel
theorem dX1_dropReadings_10 : decode cX1_dropReadings 10 = .ok (.iload_n 1, 1) := by decide +kernel
theorem dX1_dropReadings_11 : decode cX1_dropReadings 11 = .ok (.ireturn, 1) := by decide +kernel
theorem dX2_init_0 : decode cX2_init 0 = .ok (.aload_n 0, 1) := by decide +kernel
theorem dX2_init_1 : decode cX2_init 1 = .ok (.invokespecial 3, 3) := by decide +kernel
theorem dX2_init_4 : decode cX2_init 4 = .ok (.aload_n 0, 1) := by decide +kernel
theorem dX2_init_5 : decode cX2_init 5 = .ok (.iload_n 1, 1) := by decide +kernel
theorem dX2_init_6 : decode cX2_init 6 = .ok (.putfield 9, 3) := by decide +kernel
theorem dX2_init_9 : decode cX2_init 9 = .ok (.aload_n 0, 1) := by decide +kernel
theorem dX2_init_10 : decode cX2_init 10 = .ok (.iload_n 2, 1) := by decide +kernel
theorem dX2_init_11 : decode cX2_init 11 = .ok (.putfield 15, 3) := by decide +kernel
theorem dX2_init_14 : decode cX2_init 14 = .ok (.aload_n 0, 1) := by decide +kernel
theorem dX2_init_15 : decode cX2_init 15 = .ok (.lload_n 3, 1) := by decide +kernel
theorem dX2_init_16 : decode cX2_init 16 = .ok (.putfield 18, 3) := by decide +kernel
theorem dX2_init_19 : decode cX2_init 19 = .ok (.aload_n 0, 1) := by decide +kernel
theorem dX2_init_20 : decode cX2_init 20 = .ok (.lload 5, 2) := by decide +kernel
theorem dX2_init_22 : decode cX2_init 22 = .ok (.putfield 22, 3) := by decide +kernel
theorem dX2_init_25 : decode cX2_init 25 = .ok (.return_, 1) := by decide +kernel
theorem dX2_ofWidth_0 : decode cX2_ofWidth 0 = .ok (.aload_n 0, 1) := by decide +kernel
theorem dX2_ofWidth_1 : decode cX2_ofWidth 1 = .ok (.getfield 9, 3) := by decide +kernel
theorem dX2_ofWidth_4 : decode cX2_ofWidth 4 = .ok (.bipush 32, 2) := by decide +kernel
theorem dX2_ofWidth_6 : decode cX2_ofWidth 6 = .ok (.if_icmp .ne 9, 3) := by decide +kernel
theorem dX2_ofWidth_9 : decode cX2_ofWidth 9 = .ok (.lload_n 1, 1) := by decide +kernel
theorem dX2_ofWidth_10 : decode cX2_ofWidth 10 = .ok (.l2i, 1) := by decide +kernel
theorem dX2_ofWidth_11 : decode cX2_ofWidth 11 = .ok (.i2l, 1) := by decide +kernel
theorem dX2_ofWidth_12 : decode cX2_ofWidth 12 = .ok (.goto 4, 3) := by decide +kernel
theorem dX2_ofWidth_15 : decode cX2_ofWidth 15 = .ok (.lload_n 1, 1) := by decide +kernel
theorem dX2_ofWidth_16 : decode cX2_ofWidth 16 = .ok (.lreturn, 1) := by decide +kernel
theorem dX2_hasStep_0 : decode cX2_hasStep 0 = .ok (.iload_n 1, 1) := by decide +kernel
theorem dX2_hasStep_1 : decode cX2_hasStep 1 = .ok (.ifCond .lt 15, 3) := by decide +kernel
theorem dX2_hasStep_4 : decode cX2_hasStep 4 = .ok (.iload_n 1, 1) := by decide +kernel
theorem dX2_hasStep_5 : decode cX2_hasStep 5 = .ok (.aload_n 0, 1) := by decide +kernel
theorem dX2_hasStep_6 : decode cX2_hasStep 6 = .ok (.getfield 15, 3) := by decide +kernel
theorem dX2_hasStep_9 : decode cX2_hasStep 9 = .ok (.if_icmp .gt 7, 3) := by decide +kernel
theorem dX2_hasStep_12 : decode cX2_hasStep 12 = .ok (.iconst 1, 1) := by decide +kernel
theorem dX2_hasStep_13 : decode cX2_hasStep 13 = .ok (.goto 4, 3) := by decide +kernel
theorem dX2_hasStep_16 : decode cX2_hasStep 16 = .ok (.iconst 0, 1) := by decide +kernel
theorem dX2_hasStep_17 : decode cX2_hasStep 17 = .ok (.ireturn, 1) := by decide +kernel
theorem dX2_stepped_0 : decode cX2_stepped 0 = .ok (.iload_n 1, 1) := by decide +kernel
theorem dX2_stepped_1 : decode cX2_stepped 1 = .ok (.tableswitch 49 0 2 #[27, 33, 41], 27) := by decide +kernel
theorem dX2_stepped_28 : decode cX2_stepped 28 = .ok (.aload_n 0, 1) := by decide +kernel
theorem dX2_stepped_29 : decode cX2_stepped 29 = .ok (.lload_n 2, 1) := by decide +kernel
theorem dX2_stepped_30 : decode cX2_stepped 30 = .ok (.invokevirtual 25, 3) := by decide +kernel
theorem dX2_stepped_33 : decode cX2_stepped 33 = .ok (.lreturn, 1) := by decide +kernel
theorem dX2_stepped_34 : decode cX2_stepped 34 = .ok (.aload_n 0, 1) := by decide +kernel
theorem dX2_stepped_35 : decode cX2_stepped 35 = .ok (.lload_n 2, 1) := by decide +kernel
theorem dX2_stepped_36 : decode cX2_stepped 36 = .ok (.lload 4, 2) := by decide +kernel
theorem dX2_stepped_38 : decode cX2_stepped 38 = .ok (.invokevirtual 29, 3) := by decide +kernel
theorem dX2_stepped_41 : decode cX2_stepped 41 = .ok (.lreturn, 1) := by decide +kernel
theorem dX2_stepped_42 : decode cX2_stepped 42 = .ok (.aload_n 0, 1) := by decide +kernel
theorem dX2_stepped_43 : decode cX2_stepped 43 = .ok (.lload_n 2, 1) := by decide +kernel
theorem dX2_stepped_44 : decode cX2_stepped 44 = .ok (.lload 4, 2) := by decide +kernel
theorem dX2_stepped_46 : decode cX2_stepped 46 = .ok (.invokevirtual 33, 3) := by decide +kernel
theorem dX2_stepped_49 : decode cX2_stepped 49 = .ok (.lreturn, 1) := by decide +kernel
theorem dX2_stepped_50 : decode cX2_stepped 50 = .ok (.aload_n 0, 1) := by decide +kernel
theorem dX2_stepped_51 : decode cX2_stepped 51 = .ok (.iload_n 1, 1) := by decide +kernel
theorem dX2_stepped_52 : decode cX2_stepped 52 = .ok (.lload_n 2, 1) := by decide +kernel
theorem dX2_stepped_53 : decode cX2_stepped 53 = .ok (.lload 4, 2) := by decide +kernel
theorem dX2_stepped_55 : decode cX2_stepped 55 = .ok (.invokevirtual 36, 3) := by decide +kernel
theorem dX2_stepped_58 : decode cX2_stepped 58 = .ok (.lreturn, 1) := by decide +kernel
theorem dX2_greater_0 : decode cX2_greater 0 = .ok (.aload_n 0, 1) := by decide +kernel
theorem dX2_greater_1 : decode cX2_greater 1 = .ok (.lload_n 1, 1) := by decide +kernel
theorem dX2_greater_2 : decode cX2_greater 2 = .ok (.invokevirtual 40, 3) := by decide +kernel
theorem dX2_greater_5 : decode cX2_greater 5 = .ok (.aload_n 0, 1) := by decide +kernel
theorem dX2_greater_6 : decode cX2_greater 6 = .ok (.lload_n 3, 1) := by decide +kernel
theorem dX2_greater_7 : decode cX2_greater 7 = .ok (.invokevirtual 40, 3) := by decide +kernel
theorem dX2_greater_10 : decode cX2_greater 10 = .ok (.lcmp, 1) := by decide +kernel
theorem dX2_greater_11 : decode cX2_greater 11 = .ok (.ifCond .lt 7, 3) := by decide +kernel
theorem dX2_greater_14 : decode cX2_greater 14 = .ok (.lload_n 1, 1) := by decide +kernel
theorem dX2_greater_15 : decode cX2_greater 15 = .ok (.goto 4, 3) := by decide +kernel
theorem dX2_greater_18 : decode cX2_greater 18 = .ok (.lload_n 3, 1) := by decide +kernel
theorem dX2_greater_19 : decode cX2_greater 19 = .ok (.lreturn, 1) := by decide +kernel
theorem dX2_lesser_0 : decode cX2_lesser 0 = .ok (.aload_n 0, 1) := by decide +kernel
theorem dX2_lesser_1 : decode cX2_lesser 1 = .ok (.lload_n 1, 1) := by decide +kernel
theorem dX2_lesser_2 : decode cX2_lesser 2 = .ok (.invokevirtual 40, 3) := by decide +kernel
theorem dX2_lesser_5 : decode cX2_lesser 5 = .ok (.aload_n 0, 1) := by decide +kernel
theorem dX2_lesser_6 : decode cX2_lesser 6 = .ok (.lload_n 3, 1) := by decide +kernel
theorem dX2_lesser_7 : decode cX2_lesser 7 = .ok (.invokevirtual 40, 3) := by decide +kernel
theorem dX2_lesser_10 : decode cX2_lesser 10 = .ok (.lcmp, 1) := by decide +kernel
theorem dX2_lesser_11 : decode cX2_lesser 11 = .ok (.ifCond .gt 7, 3) := by decide +kernel
theorem dX2_lesser_14 : decode cX2_lesser 14 = .ok (.lload_n 1, 1) := by decide +kernel
theorem dX2_lesser_15 : decode cX2_lesser 15 = .ok (.goto 4, 3) := by decide +kernel
theorem dX2_lesser_18 : decode cX2_lesser 18 = .ok (.lload_n 3, 1) := by decide +kernel
theorem dX2_lesser_19 : decode cX2_lesser 19 = .ok (.lreturn, 1) := by decide +kernel
theorem dX2_isAbove_0 : decode cX2_isAbove 0 = .ok (.aload_n 0, 1) := by decide +kernel
theorem dX2_isAbove_1 : decode cX2_isAbove 1 = .ok (.lload_n 1, 1) := by decide +kernel
theorem dX2_isAbove_2 : decode cX2_isAbove 2 = .ok (.invokevirtual 43, 3) := by decide +kernel
theorem dX2_isAbove_5 : decode cX2_isAbove 5 = .ok (.aload_n 0, 1) := by decide +kernel
theorem dX2_isAbove_6 : decode cX2_isAbove 6 = .ok (.lload_n 3, 1) := by decide +kernel
theorem dX2_isAbove_7 : decode cX2_isAbove 7 = .ok (.invokevirtual 43, 3) := by decide +kernel
theorem dX2_isAbove_10 : decode cX2_isAbove 10 = .ok (.lcmp, 1) := by decide +kernel
theorem dX2_isAbove_11 : decode cX2_isAbove 11 = .ok (.ifCond .le 7, 3) := by decide +kernel
theorem dX2_isAbove_14 : decode cX2_isAbove 14 = .ok (.iconst 1, 1) := by decide +kernel
theorem dX2_isAbove_15 : decode cX2_isAbove 15 = .ok (.goto 4, 3) := by decide +kernel
theorem dX2_isAbove_18 : decode cX2_isAbove 18 = .ok (.iconst 0, 1) := by decide +kernel
theorem dX2_isAbove_19 : decode cX2_isAbove 19 = .ok (.ireturn, 1) := by decide +kernel
theorem dX3_init_0 : decode cX3_init 0 = .ok (.aload_n 0, 1) := by decide +kernel
theorem dX3_init_1 : decode cX3_init 1 = .ok (.iload_n 1, 1) := by decide +kernel
theorem dX3_init_2 : decode cX3_init 2 = .ok (.iconst 2, 1) := by decide +kernel
theorem dX3_init_3 : decode cX3_init 3 = .ok (.ldc2_w 3, 3) := by decide +kernel
theorem dX3_init_6 : decode cX3_init 6 = .ok (.iload_n 1, 1) := by decide +kernel
theorem dX3_init_7 : decode cX3_init 7 = .ok (.iconst 1, 1) := by decide +kernel
theorem dX3_init_8 : decode cX3_init 8 = .ok (.isub, 1) := by decide +kernel
theorem dX3_init_9 : decode cX3_init 9 = .ok (.lshl, 1) := by decide +kernel
theorem dX3_init_10 : decode cX3_init 10 = .ok (.ldc2_w 3, 3) := by decide +kernel
theorem dX3_init_13 : decode cX3_init 13 = .ok (.iload_n 1, 1) := by decide +kernel
theorem dX3_init_14 : decode cX3_init 14 = .ok (.iconst 1, 1) := by decide +kernel
theorem dX3_init_15 : decode cX3_init 15 = .ok (.isub, 1) := by decide +kernel
theorem dX3_init_16 : decode cX3_init 16 = .ok (.lshl, 1) := by decide +kernel
theorem dX3_init_17 : decode cX3_init 17 = .ok (.ldc2_w 3, 3) := by decide +kernel
theorem dX3_init_20 : decode cX3_init 20 = .ok (.lxor, 1) := by decide +kernel
theorem dX3_init_21 : decode cX3_init 21 = .ok (.invokespecial 5, 3) := by decide +kernel
theorem dX3_init_24 : decode cX3_init 24 = .ok (.return_, 1) := by decide +kernel
theorem dX3_isNumber_0 : decode cX3_isNumber 0 = .ok (.iconst 1, 1) := by decide +kernel
theorem dX3_isNumber_1 : decode cX3_isNumber 1 = .ok (.ireturn, 1) := by decide +kernel
theorem dX3_amount_0 : decode cX3_amount 0 = .ok (.lload_n 1, 1) := by decide +kernel
theorem dX3_amount_1 : decode cX3_amount 1 = .ok (.lconst 0, 1) := by decide +kernel
theorem dX3_amount_2 : decode cX3_amount 2 = .ok (.lcmp, 1) := by decide +kernel
theorem dX3_amount_3 : decode cX3_amount 3 = .ok (.ifCond .ge 12, 3) := by decide +kernel
theorem dX3_amount_6 : decode cX3_amount 6 = .ok (.aload_n 0, 1) := by decide +kernel
theorem dX3_amount_7 : decode cX3_amount 7 = .ok (.lload_n 1, 1) := by decide +kernel
theorem dX3_amount_8 : decode cX3_amount 8 = .ok (.lneg, 1) := by decide +kernel
theorem dX3_amount_9 : decode cX3_amount 9 = .ok (.invokevirtual 11, 3) := by decide +kernel
theorem dX3_amount_12 : decode cX3_amount 12 = .ok (.goto 4, 3) := by decide +kernel
theorem dX3_amount_15 : decode cX3_amount 15 = .ok (.lload_n 1, 1) := by decide +kernel
theorem dX3_amount_16 : decode cX3_amount 16 = .ok (.lreturn, 1) := by decide +kernel
theorem dX3_plus_0 : decode cX3_plus 0 = .ok (.aload_n 0, 1) := by decide +kernel
theorem dX3_plus_1 : decode cX3_plus 1 = .ok (.lload_n 1, 1) := by decide +kernel
theorem dX3_plus_2 : decode cX3_plus 2 = .ok (.lload_n 3, 1) := by decide +kernel
theorem dX3_plus_3 : decode cX3_plus 3 = .ok (.ladd, 1) := by decide +kernel
theorem dX3_plus_4 : decode cX3_plus 4 = .ok (.invokevirtual 11, 3) := by decide +kernel
theorem dX3_plus_7 : decode cX3_plus 7 = .ok (.lreturn, 1) := by decide +kernel
theorem dX3_apart_0 : decode cX3_apart 0 = .ok (.aload_n 0, 1) := by decide +kernel
theorem dX3_apart_1 : decode cX3_apart 1 = .ok (.aload_n 0, 1) := by decide +kernel
theorem dX3_apart_2 : decode cX3_apart 2 = .ok (.lload_n 1, 1) := by decide +kernel
theorem dX3_apart_3 : decode cX3_apart 3 = .ok (.lload_n 3, 1) := by decide +kernel
theorem dX3_apart_4 : decode cX3_apart 4 = .ok (.lsub, 1) := by decide +kernel
theorem dX3_apart_5 : decode cX3_apart 5 = .ok (.invokevirtual 11, 3) := by decide +kernel
theorem dX3_apart_8 : decode cX3_apart 8 = .ok (.invokevirtual 17, 3) := by decide +kernel
theorem dX3_apart_11 : decode cX3_apart 11 = .ok (.lreturn, 1) := by decide +kernel
theorem dX3_toInt_0 : decode cX3_toInt 0 = .ok (.ldc2_w 22, 3) := by decide +kernel
theorem dX3_toInt_3 : decode cX3_toInt 3 = .ok (.ldc2_w 24, 3) := by decide +kernel
theorem dX3_toInt_6 : decode cX3_toInt 6 = .ok (.lload_n 1, 1) := by decide +kernel
theorem dX3_toInt_7 : decode cX3_toInt 7 = .ok (.invokestatic 26, 3) := by decide +kernel
theorem dX3_toInt_10 : decode cX3_toInt 10 = .ok (.invokestatic 32, 3) := by decide +kernel
theorem dX3_toInt_13 : decode cX3_toInt 13 = .ok (.l2i, 1) := by decide +kernel
theorem dX3_toInt_14 : decode cX3_toInt 14 = .ok (.ireturn, 1) := by decide +kernel
theorem dX3_rank_0 : decode cX3_rank 0 = .ok (.lload_n 1, 1) := by decide +kernel
theorem dX3_rank_1 : decode cX3_rank 1 = .ok (.lreturn, 1) := by decide +kernel
theorem dX3_level_0 : decode cX3_level 0 = .ok (.lload_n 1, 1) := by decide +kernel
theorem dX3_level_1 : decode cX3_level 1 = .ok (.lreturn, 1) := by decide +kernel
theorem dX3_furtherStepped_0 : decode cX3_furtherStepped 0 = .ok (.lload_n 2, 1) := by decide +kernel
theorem dX3_furtherStepped_1 : decode cX3_furtherStepped 1 = .ok (.lreturn, 1) := by decide +kernel
theorem dX4_init_0 : decode cX4_init 0 = .ok (.aload_n 0, 1) := by decide +kernel
theorem dX4_init_1 : decode cX4_init 1 = .ok (.invokespecial 1, 3) := by decide +kernel
theorem dX4_init_4 : decode cX4_init 4 = .ok (.aload_n 0, 1) := by decide +kernel
theorem dX4_init_5 : decode cX4_init 5 = .ok (.bipush 8, 2) := by decide +kernel
theorem dX4_init_7 : decode cX4_init 7 = .ok (.anewarray 9, 3) := by decide +kernel
theorem dX4_init_10 : decode cX4_init 10 = .ok (.putfield 11, 3) := by decide +kernel
theorem dX4_init_13 : decode cX4_init 13 = .ok (.return_, 1) := by decide +kernel
theorem dX4_mount_0 : decode cX4_mount 0 = .ok (.iload_n 1, 1) := by decide +kernel
theorem dX4_mount_1 : decode cX4_mount 1 = .ok (.invokestatic 15, 3) := by decide +kernel
theorem dX4_mount_4 : decode cX4_mount 4 = .ok (.ifCond .ne 13, 3) := by decide +kernel
theorem dX4_mount_7 : decode cX4_mount 7 = .ok (.new 19, 3) := by decide +kernel
theorem dX4_mount_10 : decode cX4_mount 10 = .ok (.dup, 1) := by decide +kernel
theorem dX4_mount_11 : decode cX4_mount 11 = .ok (.ldc 21, 2) := by decide +kernel
theorem dX4_mount_13 : decode cX4_mount 13 = .ok (.invokespecial 23, 3) := by decide +kernel
theorem dX4_mount_16 : decode cX4_mount 16 = .ok (.athrow, 1) := by decide +kernel
theorem dX4_mount_17 : decode cX4_mount 17 = .ok (.aload_n 0, 1) := by decide +kernel
theorem dX4_mount_18 : decode cX4_mount 18 = .ok (.getfield 26, 3) := by decide +kernel
theorem dX4_mount_21 : decode cX4_mount 21 = .ok (.bipush 8, 2) := by decide +kernel
theorem dX4_mount_23 : decode cX4_mount 23 = .ok (.if_icmp .lt 13, 3) := by decide +kernel
theorem dX4_mount_26 : decode cX4_mount 26 = .ok (.new 30, 3) := by decide +kernel
theorem dX4_mount_29 : decode cX4_mount 29 = .ok (.dup, 1) := by decide +kernel
theorem dX4_mount_30 : decode cX4_mount 30 = .ok (.ldc 32, 2) := by decide +kernel
theorem dX4_mount_32 : decode cX4_mount 32 = .ok (.invokespecial 34, 3) := by decide +kernel
theorem dX4_mount_35 : decode cX4_mount 35 = .ok (.athrow, 1) := by decide +kernel
theorem dX4_mount_36 : decode cX4_mount 36 = .ok (.aload_n 0, 1) := by decide +kernel
theorem dX4_mount_37 : decode cX4_mount 37 = .ok (.getfield 26, 3) := by decide +kernel
theorem dX4_mount_40 : decode cX4_mount 40 = .ok (.istore_n 2, 1) := by decide +kernel
theorem dX4_mount_41 : decode cX4_mount 41 = .ok (.aload_n 0, 1) := by decide +kernel
theorem dX4_mount_42 : decode cX4_mount 42 = .ok (.getfield 11, 3) := by decide +kernel
theorem dX4_mount_45 : decode cX4_mount 45 = .ok (.iload_n 2, 1) := by decide +kernel
theorem dX4_mount_46 : decode cX4_mount 46 = .ok (.new 9, 3) := by decide +kernel
theorem dX4_mount_49 : decode cX4_mount 49 = .ok (.dup, 1) := by decide +kernel
theorem dX4_mount_50 : decode cX4_mount 50 = .ok (.iload_n 1, 1) := by decide +kernel
theorem dX4_mount_51 : decode cX4_mount 51 = .ok (.iload_n 1, 1) := by decide +kernel
theorem dX4_mount_52 : decode cX4_mount 52 = .ok (.invokestatic 35, 3) := by decide +kernel
theorem dX4_mount_55 : decode cX4_mount 55 = .ok (.invokespecial 39, 3) := by decide +kernel
theorem dX4_mount_58 : decode cX4_mount 58 = .ok (.aastore, 1) := by decide +kernel
theorem dX4_mount_59 : decode cX4_mount 59 = .ok (.aload_n 0, 1) := by decide +kernel
theorem dX4_mount_60 : decode cX4_mount 60 = .ok (.iload_n 2, 1) := by decide +kernel
theorem dX4_mount_61 : decode cX4_mount 61 = .ok (.iconst 1, 1) := by decide +kernel
theorem dX4_mount_62 : decode cX4_mount 62 = .ok (.iadd, 1) := by decide +kernel
theorem dX4_mount_63 : decode cX4_mount 63 = .ok (.putfield 26, 3) := by decide +kernel
theorem dX4_mount_66 : decode cX4_mount 66 = .ok (.iload_n 2, 1) := by decide +kernel
theorem dX4_mount_67 : decode cX4_mount 67 = .ok (.ireturn, 1) := by decide +kernel
theorem dX4_step_0 : decode cX4_step 0 = .ok (.aload_n 0, 1) := by decide +kernel
theorem dX4_step_1 : decode cX4_step 1 = .ok (.iload_n 1, 1) := by decide +kernel
theorem dX4_step_2 : decode cX4_step 2 = .ok (.invokevirtual 42, 3) := by decide +kernel
theorem dX4_step_5 : decode cX4_step 5 = .ok (.astore 5, 2) := by decide +kernel
theorem dX4_step_7 : decode cX4_step 7 = .ok (.aload 5, 2) := by decide +kernel
theorem dX4_step_9 : decode cX4_step 9 = .ok (.getfield 46, 3) := by decide +kernel
theorem dX4_step_12 : decode cX4_step 12 = .ok (.astore 6, 2) := by decide +kernel
theorem dX4_step_14 : decode cX4_step 14 = .ok (.aload 6, 2) := by decide +kernel
theorem dX4_step_16 : decode cX4_step 16 = .ok (.iload_n 2, 1) := by decide +kernel
theorem dX4_step_17 : decode cX4_step 17 = .ok (.invokevirtual 50, 3) := by decide +kernel
theorem dX4_step_20 : decode cX4_step 20 = .ok (.ifCond .ne 13, 3) := by decide +kernel
theorem dX4_step_23 : decode cX4_step 23 = .ok (.new 19, 3) := by decide +kernel
theorem dX4_step_26 : decode cX4_step 26 = .ok (.dup, 1) := by decide +kernel
theorem dX4_step_27 : decode cX4_step 27 = .ok (.ldc 55, 2) := by decide +kernel
theorem dX4_step_29 : decode cX4_step 29 = .ok (.invokespecial 23, 3) := by decide +kernel
theorem dX4_step_32 : decode cX4_step 32 = .ok (.athrow, 1) := by decide +kernel
theorem dX4_step_33 : decode cX4_step 33 = .ok (.aload 6, 2) := by decide +kernel
theorem dX4_step_35 : decode cX4_step 35 = .ok (.lload_n 3, 1) := by decide +kernel
theorem dX4_step_36 : decode cX4_step 36 = .ok (.invokevirtual 57, 3) := by decide +kernel
theorem dX4_step_39 : decode cX4_step 39 = .ok (.lstore 7, 2) := by decide +kernel
theorem dX4_step_41 : decode cX4_step 41 = .ok (.iload_n 2, 1) := by decide +kernel
theorem dX4_step_42 : decode cX4_step 42 = .ok (.invokestatic 61, 3) := by decide +kernel
theorem dX4_step_45 : decode cX4_step 45 = .ok (.ifCond .eq 23, 3) := by decide +kernel
theorem dX4_step_48 : decode cX4_step 48 = .ok (.aload 6, 2) := by decide +kernel
theorem dX4_step_50 : decode cX4_step 50 = .ok (.lload 7, 2) := by decide +kernel
theorem dX4_step_52 : decode cX4_step 52 = .ok (.invokevirtual 64, 3) := by decide +kernel
theorem dX4_step_55 : decode cX4_step 55 = .ok (.ifCond .ne 13, 3) := by decide +kernel
theorem dX4_step_58 : decode cX4_step 58 = .ok (.new 19, 3) := by decide +kernel
theorem dX4_step_61 : decode cX4_step 61 = .ok (.dup, 1) := by decide +kernel
theorem dX4_step_62 : decode cX4_step 62 = .ok (.ldc 68, 2) := by decide +kernel
theorem dX4_step_64 : decode cX4_step 64 = .ok (.invokespecial 23, 3) := by decide +kernel
theorem dX4_step_67 : decode cX4_step 67 = .ok (.athrow, 1) := by decide +kernel
theorem dX4_step_68 : decode cX4_step 68 = .ok (.aload 5, 2) := by decide +kernel
theorem dX4_step_70 : decode cX4_step 70 = .ok (.invokevirtual 70, 3) := by decide +kernel
theorem dX4_step_73 : decode cX4_step 73 = .ok (.ifCond .eq 13, 3) := by decide +kernel
theorem dX4_step_76 : decode cX4_step 76 = .ok (.new 74, 3) := by decide +kernel
theorem dX4_step_79 : decode cX4_step 79 = .ok (.dup, 1) := by decide +kernel
theorem dX4_step_80 : decode cX4_step 80 = .ok (.ldc 76, 2) := by decide +kernel
theorem dX4_step_82 : decode cX4_step 82 = .ok (.invokespecial 78, 3) := by decide +kernel
theorem dX4_step_85 : decode cX4_step 85 = .ok (.athrow, 1) := by decide +kernel
theorem dX4_step_86 : decode cX4_step 86 = .ok (.aload 5, 2) := by decide +kernel
theorem dX4_step_88 : decode cX4_step 88 = .ok (.iload_n 2, 1) := by decide +kernel
theorem dX4_step_89 : decode cX4_step 89 = .ok (.lload 7, 2) := by decide +kernel
theorem dX4_step_91 : decode cX4_step 91 = .ok (.aconst_null, 1) := by decide +kernel
theorem dX4_step_92 : decode cX4_step 92 = .ok (.invokevirtual 79, 3) := by decide +kernel
theorem dX4_step_95 : decode cX4_step 95 = .ok (.ireturn, 1) := by decide +kernel
theorem dX4_follow_0 : decode cX4_follow 0 = .ok (.aload_n 0, 1) := by decide +kernel
theorem dX4_follow_1 : decode cX4_follow 1 = .ok (.iload_n 1, 1) := by decide +kernel
theorem dX4_follow_2 : decode cX4_follow 2 = .ok (.invokevirtual 42, 3) := by decide +kernel
theorem dX4_follow_5 : decode cX4_follow 5 = .ok (.astore 4, 2) := by decide +kernel
theorem dX4_follow_7 : decode cX4_follow 7 = .ok (.aload_n 0, 1) := by decide +kernel
theorem dX4_follow_8 : decode cX4_follow 8 = .ok (.iload_n 3, 1) := by decide +kernel
theorem dX4_follow_9 : decode cX4_follow 9 = .ok (.invokevirtual 42, 3) := by decide +kernel
theorem dX4_follow_12 : decode cX4_follow 12 = .ok (.astore 5, 2) := by decide +kernel
theorem dX4_follow_14 : decode cX4_follow 14 = .ok (.aload 4, 2) := by decide +kernel
theorem dX4_follow_16 : decode cX4_follow 16 = .ok (.getfield 46, 3) := by decide +kernel
theorem dX4_follow_19 : decode cX4_follow 19 = .ok (.iload_n 2, 1) := by decide +kernel
theorem dX4_follow_20 : decode cX4_follow 20 = .ok (.invokevirtual 50, 3) := by decide +kernel
theorem dX4_follow_23 : decode cX4_follow 23 = .ok (.ifCond .eq 10, 3) := by decide +kernel
theorem dX4_follow_26 : decode cX4_follow 26 = .ok (.iload_n 2, 1) := by decide +kernel
theorem dX4_follow_27 : decode cX4_follow 27 = .ok (.invokestatic 61, 3) := by decide +kernel
theorem dX4_follow_30 : decode cX4_follow 30 = .ok (.ifCond .ne 13, 3) := by decide +kernel
theorem dX4_follow_33 : decode cX4_follow 33 = .ok (.new 19, 3) := by decide +kernel
theorem dX4_follow_36 : decode cX4_follow 36 = .ok (.dup, 1) := by decide +kernel
theorem dX4_follow_37 : decode cX4_follow 37 = .ok (.ldc 83, 2) := by decide +kernel
theorem dX4_follow_39 : decode cX4_follow 39 = .ok (.invokespecial 23, 3) := by decide +kernel
theorem dX4_follow_42 : decode cX4_follow 42 = .ok (.athrow, 1) := by decide +kernel
theorem dX4_follow_43 : decode cX4_follow 43 = .ok (.aload 4, 2) := by decide +kernel
theorem dX4_follow_45 : decode cX4_follow 45 = .ok (.getfield 85, 3) := by decide +kernel
theorem dX4_follow_48 : decode cX4_follow 48 = .ok (.aload 5, 2) := by decide +kernel
theorem dX4_follow_50 : decode cX4_follow 50 = .ok (.getfield 85, 3) := by decide +kernel
theorem dX4_follow_53 : decode cX4_follow 53 = .ok (.if_icmp .eq 13, 3) := by decide +kernel
theorem dX4_follow_56 : decode cX4_follow 56 = .ok (.new 19, 3) := by decide +kernel
theorem dX4_follow_59 : decode cX4_follow 59 = .ok (.dup, 1) := by decide +kernel
theorem dX4_follow_60 : decode cX4_follow 60 = .ok (.ldc 88, 2) := by decide +kernel
theorem dX4_follow_62 : decode cX4_follow 62 = .ok (.invokespecial 23, 3) := by decide +kernel
theorem dX4_follow_65 : decode cX4_follow 65 = .ok (.athrow, 1) := by decide +kernel
theorem dX4_follow_66 : decode cX4_follow 66 = .ok (.aload 4, 2) := by decide +kernel
theorem dX4_follow_68 : decode cX4_follow 68 = .ok (.invokevirtual 70, 3) := by decide +kernel
theorem dX4_follow_71 : decode cX4_follow 71 = .ok (.ifCond .eq 13, 3) := by decide +kernel
theorem dX4_follow_74 : decode cX4_follow 74 = .ok (.new 74, 3) := by decide +kernel
theorem dX4_follow_77 : decode cX4_follow 77 = .ok (.dup, 1) := by decide +kernel
theorem dX4_follow_78 : decode cX4_follow 78 = .ok (.ldc 76, 2) := by decide +kernel
theorem dX4_follow_80 : decode cX4_follow 80 = .ok (.invokespecial 78, 3) := by decide +kernel
theorem dX4_follow_83 : decode cX4_follow 83 = .ok (.athrow, 1) := by decide +kernel
theorem dX4_follow_84 : decode cX4_follow 84 = .ok (.aload 4, 2) := by decide +kernel
theorem dX4_follow_86 : decode cX4_follow 86 = .ok (.iload_n 2, 1) := by decide +kernel
theorem dX4_follow_87 : decode cX4_follow 87 = .ok (.lconst 0, 1) := by decide +kernel
theorem dX4_follow_88 : decode cX4_follow 88 = .ok (.aload 5, 2) := by decide +kernel
theorem dX4_follow_90 : decode cX4_follow 90 = .ok (.invokevirtual 79, 3) := by decide +kernel
theorem dX4_follow_93 : decode cX4_follow 93 = .ok (.ireturn, 1) := by decide +kernel
theorem dX4_read_0 : decode cX4_read 0 = .ok (.aload_n 0, 1) := by decide +kernel
theorem dX4_read_1 : decode cX4_read 1 = .ok (.iload_n 1, 1) := by decide +kernel
theorem dX4_read_2 : decode cX4_read 2 = .ok (.invokevirtual 42, 3) := by decide +kernel
theorem dX4_read_5 : decode cX4_read 5 = .ok (.astore 4, 2) := by decide +kernel
theorem dX4_read_7 : decode cX4_read 7 = .ok (.aload 4, 2) := by decide +kernel
theorem dX4_read_9 : decode cX4_read 9 = .ok (.getfield 46, 3) := by decide +kernel
theorem dX4_read_12 : decode cX4_read 12 = .ok (.lload_n 2, 1) := by decide +kernel
theorem dX4_read_13 : decode cX4_read 13 = .ok (.invokevirtual 57, 3) := by decide +kernel
theorem dX4_read_16 : decode cX4_read 16 = .ok (.lstore 5, 2) := by decide +kernel
theorem dX4_read_18 : decode cX4_read 18 = .ok (.aload 4, 2) := by decide +kernel
theorem dX4_read_20 : decode cX4_read 20 = .ok (.getfield 46, 3) := by decide +kernel
theorem dX4_read_23 : decode cX4_read 23 = .ok (.lload 5, 2) := by decide +kernel
theorem dX4_read_25 : decode cX4_read 25 = .ok (.invokevirtual 64, 3) := by decide +kernel
theorem dX4_read_28 : decode cX4_read 28 = .ok (.ifCond .ne 13, 3) := by decide +kernel
theorem dX4_read_31 : decode cX4_read 31 = .ok (.new 19, 3) := by decide +kernel
theorem dX4_read_34 : decode cX4_read 34 = .ok (.dup, 1) := by decide +kernel
theorem dX4_read_35 : decode cX4_read 35 = .ok (.ldc 90, 2) := by decide +kernel
theorem dX4_read_37 : decode cX4_read 37 = .ok (.invokespecial 23, 3) := by decide +kernel
theorem dX4_read_40 : decode cX4_read 40 = .ok (.athrow, 1) := by decide +kernel
theorem dX4_read_41 : decode cX4_read 41 = .ok (.aload 4, 2) := by decide +kernel
theorem dX4_read_43 : decode cX4_read 43 = .ok (.lload 5, 2) := by decide +kernel
theorem dX4_read_45 : decode cX4_read 45 = .ok (.invokevirtual 92, 3) := by decide +kernel
theorem dX4_read_48 : decode cX4_read 48 = .ok (.lstore 7, 2) := by decide +kernel
theorem dX4_read_50 : decode cX4_read 50 = .ok (.aload 4, 2) := by decide +kernel
theorem dX4_read_52 : decode cX4_read 52 = .ok (.lload 7, 2) := by decide +kernel
theorem dX4_read_54 : decode cX4_read 54 = .ok (.invokevirtual 95, 3) := by decide +kernel
theorem dX4_read_57 : decode cX4_read 57 = .ok (.aload_n 0, 1) := by decide +kernel
theorem dX4_read_58 : decode cX4_read 58 = .ok (.dup, 1) := by decide +kernel
theorem dX4_read_59 : decode cX4_read 59 = .ok (.getfield 99, 3) := by decide +kernel
theorem dX4_read_62 : decode cX4_read 62 = .ok (.iconst 1, 1) := by decide +kernel
theorem dX4_read_63 : decode cX4_read 63 = .ok (.iadd, 1) := by decide +kernel
theorem dX4_read_64 : decode cX4_read 64 = .ok (.putfield 99, 3) := by decide +kernel
theorem dX4_read_67 : decode cX4_read 67 = .ok (.aload_n 0, 1) := by decide +kernel
theorem dX4_read_68 : decode cX4_read 68 = .ok (.dup, 1) := by decide +kernel
theorem dX4_read_69 : decode cX4_read 69 = .ok (.getfield 102, 3) := by decide +kernel
theorem dX4_read_72 : decode cX4_read 72 = .ok (.aload 4, 2) := by decide +kernel
theorem dX4_read_74 : decode cX4_read 74 = .ok (.getfield 105, 3) := by decide +kernel
theorem dX4_read_77 : decode cX4_read 77 = .ok (.iadd, 1) := by decide +kernel
theorem dX4_read_78 : decode cX4_read 78 = .ok (.putfield 102, 3) := by decide +kernel
theorem dX4_read_81 : decode cX4_read 81 = .ok (.aload 4, 2) := by decide +kernel
theorem dX4_read_83 : decode cX4_read 83 = .ok (.lload 7, 2) := by decide +kernel
theorem dX4_read_85 : decode cX4_read 85 = .ok (.invokevirtual 108, 3) := by decide +kernel
theorem dX4_read_88 : decode cX4_read 88 = .ok (.ifCond .eq 24, 3) := by decide +kernel
theorem dX4_read_91 : decode cX4_read 91 = .ok (.aload 4, 2) := by decide +kernel
theorem dX4_read_93 : decode cX4_read 93 = .ok (.dup, 1) := by decide +kernel
theorem dX4_read_94 : decode cX4_read 94 = .ok (.getfield 111, 3) := by decide +kernel
theorem dX4_read_97 : decode cX4_read 97 = .ok (.iconst 1, 1) := by decide +kernel
theorem dX4_read_98 : decode cX4_read 98 = .ok (.iadd, 1) := by decide +kernel
theorem dX4_read_99 : decode cX4_read 99 = .ok (.putfield 111, 3) := by decide +kernel
theorem dX4_read_102 : decode cX4_read 102 = .ok (.aload_n 0, 1) := by decide +kernel
theorem dX4_read_103 : decode cX4_read 103 = .ok (.dup, 1) := by decide +kernel
theorem dX4_read_104 : decode cX4_read 104 = .ok (.getfield 114, 3) := by decide +kernel
theorem dX4_read_107 : decode cX4_read 107 = .ok (.iconst 1, 1) := by decide +kernel
theorem dX4_read_108 : decode cX4_read 108 = .ok (.iadd, 1) := by decide +kernel
theorem dX4_read_109 : decode cX4_read 109 = .ok (.putfield 114, 3) := by decide +kernel
theorem dX4_read_112 : decode cX4_read 112 = .ok (.lload 7, 2) := by decide +kernel
theorem dX4_read_114 : decode cX4_read 114 = .ok (.lreturn, 1) := by decide +kernel
theorem dX4_reading_0 : decode cX4_reading 0 = .ok (.aload_n 0, 1) := by decide +kernel
theorem dX4_reading_1 : decode cX4_reading 1 = .ok (.iload_n 1, 1) := by decide +kernel
theorem dX4_reading_2 : decode cX4_reading 2 = .ok (.invokevirtual 42, 3) := by decide +kernel
theorem dX4_reading_5 : decode cX4_reading 5 = .ok (.astore_n 3, 1) := by decide +kernel
theorem dX4_reading_6 : decode cX4_reading 6 = .ok (.aload_n 3, 1) := by decide +kernel
theorem dX4_reading_7 : decode cX4_reading 7 = .ok (.iload_n 2, 1) := by decide +kernel
theorem dX4_reading_8 : decode cX4_reading 8 = .ok (.invokevirtual 117, 3) := by decide +kernel
theorem dX4_reading_11 : decode cX4_reading 11 = .ok (.ifCond .ne 13, 3) := by decide +kernel
theorem dX4_reading_14 : decode cX4_reading 14 = .ok (.new 120, 3) := by decide +kernel
theorem dX4_reading_17 : decode cX4_reading 17 = .ok (.dup, 1) := by decide +kernel
theorem dX4_reading_18 : decode cX4_reading 18 = .ok (.ldc 122, 2) := by decide +kernel
theorem dX4_reading_20 : decode cX4_reading 20 = .ok (.invokespecial 124, 3) := by decide +kernel
theorem dX4_reading_23 : decode cX4_reading 23 = .ok (.athrow, 1) := by decide +kernel
theorem dX4_reading_24 : decode cX4_reading 24 = .ok (.aload_n 3, 1) := by decide +kernel
theorem dX4_reading_25 : decode cX4_reading 25 = .ok (.iload_n 2, 1) := by decide +kernel
theorem dX4_reading_26 : decode cX4_reading 26 = .ok (.invokevirtual 125, 3) := by decide +kernel
theorem dX4_reading_29 : decode cX4_reading 29 = .ok (.lreturn, 1) := by decide +kernel
theorem dX4_tell_0 : decode cX4_tell 0 = .ok (.aload_n 0, 1) := by decide +kernel
theorem dX4_tell_1 : decode cX4_tell 1 = .ok (.iload_n 1, 1) := by decide +kernel
theorem dX4_tell_2 : decode cX4_tell 2 = .ok (.invokevirtual 42, 3) := by decide +kernel
theorem dX4_tell_5 : decode cX4_tell 5 = .ok (.astore_n 3, 1) := by decide +kernel
theorem dX4_tell_6 : decode cX4_tell 6 = .ok (.iload_n 2, 1) := by decide +kernel
theorem dX4_tell_7 : decode cX4_tell 7 = .ok (.ifCond .lt 8, 3) := by decide +kernel
theorem dX4_tell_10 : decode cX4_tell 10 = .ok (.iload_n 2, 1) := by decide +kernel
theorem dX4_tell_11 : decode cX4_tell 11 = .ok (.iconst 3, 1) := by decide +kernel
theorem dX4_tell_12 : decode cX4_tell 12 = .ok (.if_icmp .le 13, 3) := by decide +kernel
theorem dX4_tell_15 : decode cX4_tell 15 = .ok (.new 19, 3) := by decide +kernel
theorem dX4_tell_18 : decode cX4_tell 18 = .ok (.dup, 1) := by decide +kernel
theorem dX4_tell_19 : decode cX4_tell 19 = .ok (.ldc 129, 2) := by decide +kernel
theorem dX4_tell_21 : decode cX4_tell 21 = .ok (.invokespecial 23, 3) := by decide +kernel
theorem dX4_tell_24 : decode cX4_tell 24 = .ok (.athrow, 1) := by decide +kernel
theorem dX4_tell_25 : decode cX4_tell 25 = .ok (.aload_n 3, 1) := by decide +kernel
theorem dX4_tell_26 : decode cX4_tell 26 = .ok (.invokevirtual 131, 3) := by decide +kernel
theorem dX4_tell_29 : decode cX4_tell 29 = .ok (.ifCond .ne 13, 3) := by decide +kernel
theorem dX4_tell_32 : decode cX4_tell 32 = .ok (.new 120, 3) := by decide +kernel
theorem dX4_tell_35 : decode cX4_tell 35 = .ok (.dup, 1) := by decide +kernel
theorem dX4_tell_36 : decode cX4_tell 36 = .ok (.ldc 134, 2) := by decide +kernel
theorem dX4_tell_38 : decode cX4_tell 38 = .ok (.invokespecial 124, 3) := by decide +kernel
theorem dX4_tell_41 : decode cX4_tell 41 = .ok (.athrow, 1) := by decide +kernel
theorem dX4_tell_42 : decode cX4_tell 42 = .ok (.iload_n 2, 1) := by decide +kernel
theorem dX4_tell_43 : decode cX4_tell 43 = .ok (.tableswitch 40 0 2 #[25, 30, 35], 25) := by decide +kernel
theorem dX4_tell_68 : decode cX4_tell 68 = .ok (.aload_n 3, 1) := by decide +kernel
theorem dX4_tell_69 : decode cX4_tell 69 = .ok (.getfield 136, 3) := by decide +kernel
theorem dX4_tell_72 : decode cX4_tell 72 = .ok (.lreturn, 1) := by decide +kernel
theorem dX4_tell_73 : decode cX4_tell 73 = .ok (.aload_n 3, 1) := by decide +kernel
theorem dX4_tell_74 : decode cX4_tell 74 = .ok (.getfield 140, 3) := by decide +kernel
theorem dX4_tell_77 : decode cX4_tell 77 = .ok (.lreturn, 1) := by decide +kernel
theorem dX4_tell_78 : decode cX4_tell 78 = .ok (.aload_n 3, 1) := by decide +kernel
theorem dX4_tell_79 : decode cX4_tell 79 = .ok (.getfield 143, 3) := by decide +kernel
theorem dX4_tell_82 : decode cX4_tell 82 = .ok (.lreturn, 1) := by decide +kernel
theorem dX4_tell_83 : decode cX4_tell 83 = .ok (.aload_n 3, 1) := by decide +kernel
theorem dX4_tell_84 : decode cX4_tell 84 = .ok (.getfield 146, 3) := by decide +kernel
theorem dX4_tell_87 : decode cX4_tell 87 = .ok (.lreturn, 1) := by decide +kernel
theorem dX4_whole_0 : decode cX4_whole 0 = .ok (.aload_n 0, 1) := by decide +kernel
theorem dX4_whole_1 : decode cX4_whole 1 = .ok (.iload_n 1, 1) := by decide +kernel
theorem dX4_whole_2 : decode cX4_whole 2 = .ok (.invokevirtual 42, 3) := by decide +kernel
theorem dX4_whole_5 : decode cX4_whole 5 = .ok (.astore_n 2, 1) := by decide +kernel
theorem dX4_whole_6 : decode cX4_whole 6 = .ok (.aload_n 2, 1) := by decide +kernel
theorem dX4_whole_7 : decode cX4_whole 7 = .ok (.invokevirtual 131, 3) := by decide +kernel
theorem dX4_whole_10 : decode cX4_whole 10 = .ok (.ifCond .ne 13, 3) := by decide +kernel
theorem dX4_whole_13 : decode cX4_whole 13 = .ok (.new 120, 3) := by decide +kernel
theorem dX4_whole_16 : decode cX4_whole 16 = .ok (.dup, 1) := by decide +kernel
theorem dX4_whole_17 : decode cX4_whole 17 = .ok (.ldc 134, 2) := by decide +kernel
theorem dX4_whole_19 : decode cX4_whole 19 = .ok (.invokespecial 124, 3) := by decide +kernel
theorem dX4_whole_22 : decode cX4_whole 22 = .ok (.athrow, 1) := by decide +kernel
theorem dX4_whole_23 : decode cX4_whole 23 = .ok (.aload_n 2, 1) := by decide +kernel
theorem dX4_whole_24 : decode cX4_whole 24 = .ok (.getfield 46, 3) := by decide +kernel
theorem dX4_whole_27 : decode cX4_whole 27 = .ok (.aload_n 2, 1) := by decide +kernel
theorem dX4_whole_28 : decode cX4_whole 28 = .ok (.iconst 0, 1) := by decide +kernel
theorem dX4_whole_29 : decode cX4_whole 29 = .ok (.invokevirtual 125, 3) := by decide +kernel
theorem dX4_whole_32 : decode cX4_whole 32 = .ok (.invokevirtual 149, 3) := by decide +kernel
theorem dX4_whole_35 : decode cX4_whole 35 = .ok (.ireturn, 1) := by decide +kernel
theorem dX4_limits_0 : decode cX4_limits 0 = .ok (.aload_n 0, 1) := by decide +kernel
theorem dX4_limits_1 : decode cX4_limits 1 = .ok (.iload_n 1, 1) := by decide +kernel
theorem dX4_limits_2 : decode cX4_limits 2 = .ok (.invokevirtual 42, 3) := by decide +kernel
theorem dX4_limits_5 : decode cX4_limits 5 = .ok (.astore 6, 2) := by decide +kernel
theorem dX4_limits_7 : decode cX4_limits 7 = .ok (.aload 6, 2) := by decide +kernel
theorem dX4_limits_9 : decode cX4_limits 9 = .ok (.getfield 46, 3) := by decide +kernel
theorem dX4_limits_12 : decode cX4_limits 12 = .ok (.astore 7, 2) := by decide +kernel
theorem dX4_limits_14 : decode cX4_limits 14 = .ok (.aload 7, 2) := by decide +kernel
theorem dX4_limits_16 : decode cX4_limits 16 = .ok (.lload_n 2, 1) := by decide +kernel
theorem dX4_limits_17 : decode cX4_limits 17 = .ok (.invokevirtual 57, 3) := by decide +kernel
theorem dX4_limits_20 : decode cX4_limits 20 = .ok (.lstore 8, 2) := by decide +kernel
theorem dX4_limits_22 : decode cX4_limits 22 = .ok (.aload 7, 2) := by decide +kernel
theorem dX4_limits_24 : decode cX4_limits 24 = .ok (.lload 4, 2) := by decide +kernel
theorem dX4_limits_26 : decode cX4_limits 26 = .ok (.invokevirtual 57, 3) := by decide +kernel
theorem dX4_limits_29 : decode cX4_limits 29 = .ok (.lstore 10, 2) := by decide +kernel
theorem dX4_limits_31 : decode cX4_limits 31 = .ok (.aload 7, 2) := by decide +kernel
theorem dX4_limits_33 : decode cX4_limits 33 = .ok (.lload 8, 2) := by decide +kernel
theorem dX4_limits_35 : decode cX4_limits 35 = .ok (.invokevirtual 64, 3) := by decide +kernel
theorem dX4_limits_38 : decode cX4_limits 38 = .ok (.ifCond .eq 13, 3) := by decide +kernel
theorem dX4_limits_41 : decode cX4_limits 41 = .ok (.aload 7, 2) := by decide +kernel
theorem dX4_limits_43 : decode cX4_limits 43 = .ok (.lload 10, 2) := by decide +kernel
theorem dX4_limits_45 : decode cX4_limits 45 = .ok (.invokevirtual 64, 3) := by decide +kernel
theorem dX4_limits_48 : decode cX4_limits 48 = .ok (.ifCond .ne 13, 3) := by decide +kernel
theorem dX4_limits_51 : decode cX4_limits 51 = .ok (.new 19, 3) := by decide +kernel
end
section
theorem dX4_limits_54 : decode cX4_limits 54 = .ok (.dup, 1) := by decide +kernel
theorem dX4_limits_55 : decode cX4_limits 55 = .ok (.ldc 153, 2) := by decide +kernel
theorem dX4_limits_57 : decode cX4_limits 57 = .ok (.invokespecial 23, 3) := by decide +kernel
theorem dX4_limits_60 : decode cX4_limits 60 = .ok (.athrow, 1) := by decide +kernel
theorem dX4_limits_61 : decode cX4_limits 61 = .ok (.aload 6, 2) := by decide +kernel
theorem dX4_limits_63 : decode cX4_limits 63 = .ok (.lload 8, 2) := by decide +kernel
theorem dX4_limits_65 : decode cX4_limits 65 = .ok (.putfield 155, 3) := by decide +kernel
theorem dX4_limits_68 : decode cX4_limits 68 = .ok (.aload 6, 2) := by decide +kernel
theorem dX4_limits_70 : decode cX4_limits 70 = .ok (.lload 10, 2) := by decide +kernel
theorem dX4_limits_72 : decode cX4_limits 72 = .ok (.putfield 158, 3) := by decide +kernel
theorem dX4_limits_75 : decode cX4_limits 75 = .ok (.aload 7, 2) := by decide +kernel
theorem dX4_limits_77 : decode cX4_limits 77 = .ok (.lload 8, 2) := by decide +kernel
theorem dX4_limits_79 : decode cX4_limits 79 = .ok (.lload 10, 2) := by decide +kernel
theorem dX4_limits_81 : decode cX4_limits 81 = .ok (.invokevirtual 161, 3) := by decide +kernel
theorem dX4_limits_84 : decode cX4_limits 84 = .ok (.ifCond .ne 7, 3) := by decide +kernel
theorem dX4_limits_87 : decode cX4_limits 87 = .ok (.iconst 1, 1) := by decide +kernel
theorem dX4_limits_88 : decode cX4_limits 88 = .ok (.goto 4, 3) := by decide +kernel
theorem dX4_limits_91 : decode cX4_limits 91 = .ok (.iconst 0, 1) := by decide +kernel
theorem dX4_limits_92 : decode cX4_limits 92 = .ok (.ireturn, 1) := by decide +kernel
theorem dX4_widest_0 : decode cX4_widest 0 = .ok (.iload_n 1, 1) := by decide +kernel
theorem dX4_widest_1 : decode cX4_widest 1 = .ok (.invokestatic 15, 3) := by decide +kernel
theorem dX4_widest_4 : decode cX4_widest 4 = .ok (.ifCond .ne 13, 3) := by decide +kernel
theorem dX4_widest_7 : decode cX4_widest 7 = .ok (.new 19, 3) := by decide +kernel
theorem dX4_widest_10 : decode cX4_widest 10 = .ok (.dup, 1) := by decide +kernel
theorem dX4_widest_11 : decode cX4_widest 11 = .ok (.ldc 21, 2) := by decide +kernel
theorem dX4_widest_13 : decode cX4_widest 13 = .ok (.invokespecial 23, 3) := by decide +kernel
theorem dX4_widest_16 : decode cX4_widest 16 = .ok (.athrow, 1) := by decide +kernel
theorem dX4_widest_17 : decode cX4_widest 17 = .ok (.iconst 0, 1) := by decide +kernel
theorem dX4_widest_18 : decode cX4_widest 18 = .ok (.istore_n 2, 1) := by decide +kernel
theorem dX4_widest_19 : decode cX4_widest 19 = .ok (.lconst 0, 1) := by decide +kernel
theorem dX4_widest_20 : decode cX4_widest 20 = .ok (.lstore_n 3, 1) := by decide +kernel
theorem dX4_widest_21 : decode cX4_widest 21 = .ok (.iconst 0, 1) := by decide +kernel
theorem dX4_widest_22 : decode cX4_widest 22 = .ok (.istore 5, 2) := by decide +kernel
theorem dX4_widest_24 : decode cX4_widest 24 = .ok (.iload 5, 2) := by decide +kernel
theorem dX4_widest_26 : decode cX4_widest 26 = .ok (.aload_n 0, 1) := by decide +kernel
theorem dX4_widest_27 : decode cX4_widest 27 = .ok (.getfield 26, 3) := by decide +kernel
theorem dX4_widest_30 : decode cX4_widest 30 = .ok (.if_icmp .ge 64, 3) := by decide +kernel
theorem dX4_widest_33 : decode cX4_widest 33 = .ok (.aload_n 0, 1) := by decide +kernel
theorem dX4_widest_34 : decode cX4_widest 34 = .ok (.getfield 11, 3) := by decide +kernel
theorem dX4_widest_37 : decode cX4_widest 37 = .ok (.iload 5, 2) := by decide +kernel
theorem dX4_widest_39 : decode cX4_widest 39 = .ok (.aaload, 1) := by decide +kernel
theorem dX4_widest_40 : decode cX4_widest 40 = .ok (.astore 6, 2) := by decide +kernel
theorem dX4_widest_42 : decode cX4_widest 42 = .ok (.aload 6, 2) := by decide +kernel
theorem dX4_widest_44 : decode cX4_widest 44 = .ok (.getfield 85, 3) := by decide +kernel
theorem dX4_widest_47 : decode cX4_widest 47 = .ok (.iload_n 1, 1) := by decide +kernel
theorem dX4_widest_48 : decode cX4_widest 48 = .ok (.if_icmp .ne 40, 3) := by decide +kernel
theorem dX4_widest_51 : decode cX4_widest 51 = .ok (.aload 6, 2) := by decide +kernel
theorem dX4_widest_53 : decode cX4_widest 53 = .ok (.invokevirtual 131, 3) := by decide +kernel
theorem dX4_widest_56 : decode cX4_widest 56 = .ok (.ifCond .eq 32, 3) := by decide +kernel
theorem dX4_widest_59 : decode cX4_widest 59 = .ok (.iload_n 2, 1) := by decide +kernel
theorem dX4_widest_60 : decode cX4_widest 60 = .ok (.ifCond .eq 20, 3) := by decide +kernel
theorem dX4_widest_63 : decode cX4_widest 63 = .ok (.aload 6, 2) := by decide +kernel
theorem dX4_widest_65 : decode cX4_widest 65 = .ok (.getfield 46, 3) := by decide +kernel
theorem dX4_widest_68 : decode cX4_widest 68 = .ok (.lload_n 3, 1) := by decide +kernel
theorem dX4_widest_69 : decode cX4_widest 69 = .ok (.aload 6, 2) := by decide +kernel
theorem dX4_widest_71 : decode cX4_widest 71 = .ok (.getfield 143, 3) := by decide +kernel
theorem dX4_widest_74 : decode cX4_widest 74 = .ok (.invokevirtual 165, 3) := by decide +kernel
theorem dX4_widest_77 : decode cX4_widest 77 = .ok (.goto 8, 3) := by decide +kernel
theorem dX4_widest_80 : decode cX4_widest 80 = .ok (.aload 6, 2) := by decide +kernel
theorem dX4_widest_82 : decode cX4_widest 82 = .ok (.getfield 143, 3) := by decide +kernel
theorem dX4_widest_85 : decode cX4_widest 85 = .ok (.lstore_n 3, 1) := by decide +kernel
theorem dX4_widest_86 : decode cX4_widest 86 = .ok (.iconst 1, 1) := by decide +kernel
theorem dX4_widest_87 : decode cX4_widest 87 = .ok (.istore_n 2, 1) := by decide +kernel
theorem dX4_widest_88 : decode cX4_widest 88 = .ok (.iinc 5 1, 3) := by decide +kernel
theorem dX4_widest_91 : decode cX4_widest 91 = .ok (.goto (-67), 3) := by decide +kernel
theorem dX4_widest_94 : decode cX4_widest 94 = .ok (.iload_n 2, 1) := by decide +kernel
theorem dX4_widest_95 : decode cX4_widest 95 = .ok (.ifCond .ne 13, 3) := by decide +kernel
theorem dX4_widest_98 : decode cX4_widest 98 = .ok (.new 120, 3) := by decide +kernel
theorem dX4_widest_101 : decode cX4_widest 101 = .ok (.dup, 1) := by decide +kernel
theorem dX4_widest_102 : decode cX4_widest 102 = .ok (.ldc 169, 2) := by decide +kernel
theorem dX4_widest_104 : decode cX4_widest 104 = .ok (.invokespecial 124, 3) := by decide +kernel
theorem dX4_widest_107 : decode cX4_widest 107 = .ok (.athrow, 1) := by decide +kernel
theorem dX4_widest_108 : decode cX4_widest 108 = .ok (.lload_n 3, 1) := by decide +kernel
theorem dX4_widest_109 : decode cX4_widest 109 = .ok (.lreturn, 1) := by decide +kernel
theorem dX4_forget_0 : decode cX4_forget 0 = .ok (.aload_n 0, 1) := by decide +kernel
theorem dX4_forget_1 : decode cX4_forget 1 = .ok (.iload_n 1, 1) := by decide +kernel
theorem dX4_forget_2 : decode cX4_forget 2 = .ok (.invokevirtual 42, 3) := by decide +kernel
theorem dX4_forget_5 : decode cX4_forget 5 = .ok (.invokevirtual 171, 3) := by decide +kernel
theorem dX4_forget_8 : decode cX4_forget 8 = .ok (.ireturn, 1) := by decide +kernel
theorem dX4_alarms_0 : decode cX4_alarms 0 = .ok (.aload_n 0, 1) := by decide +kernel
theorem dX4_alarms_1 : decode cX4_alarms 1 = .ok (.iload_n 1, 1) := by decide +kernel
theorem dX4_alarms_2 : decode cX4_alarms 2 = .ok (.invokevirtual 42, 3) := by decide +kernel
theorem dX4_alarms_5 : decode cX4_alarms 5 = .ok (.getfield 111, 3) := by decide +kernel
theorem dX4_alarms_8 : decode cX4_alarms 8 = .ok (.ireturn, 1) := by decide +kernel
theorem dX4_count_0 : decode cX4_count 0 = .ok (.iload_n 1, 1) := by decide +kernel
theorem dX4_count_1 : decode cX4_count 1 = .ok (.tableswitch 51 0 3 #[31, 36, 41, 46], 31) := by decide +kernel
theorem dX4_count_32 : decode cX4_count 32 = .ok (.aload_n 0, 1) := by decide +kernel
theorem dX4_count_33 : decode cX4_count 33 = .ok (.getfield 26, 3) := by decide +kernel
theorem dX4_count_36 : decode cX4_count 36 = .ok (.ireturn, 1) := by decide +kernel
theorem dX4_count_37 : decode cX4_count 37 = .ok (.aload_n 0, 1) := by decide +kernel
theorem dX4_count_38 : decode cX4_count 38 = .ok (.getfield 99, 3) := by decide +kernel
theorem dX4_count_41 : decode cX4_count 41 = .ok (.ireturn, 1) := by decide +kernel
theorem dX4_count_42 : decode cX4_count 42 = .ok (.aload_n 0, 1) := by decide +kernel
theorem dX4_count_43 : decode cX4_count 43 = .ok (.getfield 114, 3) := by decide +kernel
theorem dX4_count_46 : decode cX4_count 46 = .ok (.ireturn, 1) := by decide +kernel
theorem dX4_count_47 : decode cX4_count 47 = .ok (.aload_n 0, 1) := by decide +kernel
theorem dX4_count_48 : decode cX4_count 48 = .ok (.getfield 102, 3) := by decide +kernel
theorem dX4_count_51 : decode cX4_count 51 = .ok (.ireturn, 1) := by decide +kernel
theorem dX4_count_52 : decode cX4_count 52 = .ok (.iconst (-1), 1) := by decide +kernel
theorem dX4_count_53 : decode cX4_count 53 = .ok (.ireturn, 1) := by decide +kernel
theorem dX4_instrumentAt_0 : decode cX4_instrumentAt 0 = .ok (.iload_n 1, 1) := by decide +kernel
theorem dX4_instrumentAt_1 : decode cX4_instrumentAt 1 = .ok (.ifCond .lt 11, 3) := by decide +kernel
theorem dX4_instrumentAt_4 : decode cX4_instrumentAt 4 = .ok (.iload_n 1, 1) := by decide +kernel
theorem dX4_instrumentAt_5 : decode cX4_instrumentAt 5 = .ok (.aload_n 0, 1) := by decide +kernel
theorem dX4_instrumentAt_6 : decode cX4_instrumentAt 6 = .ok (.getfield 26, 3) := by decide +kernel
theorem dX4_instrumentAt_9 : decode cX4_instrumentAt 9 = .ok (.if_icmp .lt 13, 3) := by decide +kernel
theorem dX4_instrumentAt_12 : decode cX4_instrumentAt 12 = .ok (.new 175, 3) := by decide +kernel
theorem dX4_instrumentAt_15 : decode cX4_instrumentAt 15 = .ok (.dup, 1) := by decide +kernel
theorem dX4_instrumentAt_16 : decode cX4_instrumentAt 16 = .ok (.ldc 177, 2) := by decide +kernel
theorem dX4_instrumentAt_18 : decode cX4_instrumentAt 18 = .ok (.invokespecial 179, 3) := by decide +kernel
theorem dX4_instrumentAt_21 : decode cX4_instrumentAt 21 = .ok (.athrow, 1) := by decide +kernel
theorem dX4_instrumentAt_22 : decode cX4_instrumentAt 22 = .ok (.aload_n 0, 1) := by decide +kernel
theorem dX4_instrumentAt_23 : decode cX4_instrumentAt 23 = .ok (.getfield 11, 3) := by decide +kernel
theorem dX4_instrumentAt_26 : decode cX4_instrumentAt 26 = .ok (.iload_n 1, 1) := by decide +kernel
theorem dX4_instrumentAt_27 : decode cX4_instrumentAt 27 = .ok (.aaload, 1) := by decide +kernel
theorem dX4_instrumentAt_28 : decode cX4_instrumentAt 28 = .ok (.areturn, 1) := by decide +kernel
theorem dX4_isSort_0 : decode cX4_isSort 0 = .ok (.iload_n 0, 1) := by decide +kernel
theorem dX4_isSort_1 : decode cX4_isSort 1 = .ok (.ifCond .lt 12, 3) := by decide +kernel
theorem dX4_isSort_4 : decode cX4_isSort 4 = .ok (.iload_n 0, 1) := by decide +kernel
theorem dX4_isSort_5 : decode cX4_isSort 5 = .ok (.iconst 3, 1) := by decide +kernel
theorem dX4_isSort_6 : decode cX4_isSort 6 = .ok (.if_icmp .gt 7, 3) := by decide +kernel
theorem dX4_isSort_9 : decode cX4_isSort 9 = .ok (.iconst 1, 1) := by decide +kernel
theorem dX4_isSort_10 : decode cX4_isSort 10 = .ok (.goto 4, 3) := by decide +kernel
theorem dX4_isSort_13 : decode cX4_isSort 13 = .ok (.iconst 0, 1) := by decide +kernel
theorem dX4_isSort_14 : decode cX4_isSort 14 = .ok (.ireturn, 1) := by decide +kernel
theorem dX4_takesK_0 : decode cX4_takesK 0 = .ok (.iload_n 0, 1) := by decide +kernel
theorem dX4_takesK_1 : decode cX4_takesK 1 = .ok (.iconst 1, 1) := by decide +kernel
theorem dX4_takesK_2 : decode cX4_takesK 2 = .ok (.if_icmp .eq 14, 3) := by decide +kernel
theorem dX4_takesK_5 : decode cX4_takesK 5 = .ok (.iload_n 0, 1) := by decide +kernel
theorem dX4_takesK_6 : decode cX4_takesK 6 = .ok (.iconst 2, 1) := by decide +kernel
theorem dX4_takesK_7 : decode cX4_takesK 7 = .ok (.if_icmp .eq 9, 3) := by decide +kernel
theorem dX4_takesK_10 : decode cX4_takesK 10 = .ok (.iload_n 0, 1) := by decide +kernel
theorem dX4_takesK_11 : decode cX4_takesK 11 = .ok (.bipush 7, 2) := by decide +kernel
theorem dX4_takesK_13 : decode cX4_takesK 13 = .ok (.if_icmp .ne 7, 3) := by decide +kernel
theorem dX4_takesK_16 : decode cX4_takesK 16 = .ok (.iconst 1, 1) := by decide +kernel
theorem dX4_takesK_17 : decode cX4_takesK 17 = .ok (.goto 4, 3) := by decide +kernel
theorem dX4_takesK_20 : decode cX4_takesK 20 = .ok (.iconst 0, 1) := by decide +kernel
theorem dX4_takesK_21 : decode cX4_takesK 21 = .ok (.ireturn, 1) := by decide +kernel
theorem dX4_numbersOf_0 : decode cX4_numbersOf 0 = .ok (.iload_n 0, 1) := by decide +kernel
theorem dX4_numbersOf_1 : decode cX4_numbersOf 1 = .ok (.tableswitch 59 0 2 #[27, 37, 47], 27) := by decide +kernel
theorem dX4_numbersOf_28 : decode cX4_numbersOf 28 = .ok (.new 180, 3) := by decide +kernel
theorem dX4_numbersOf_31 : decode cX4_numbersOf 31 = .ok (.dup, 1) := by decide +kernel
theorem dX4_numbersOf_32 : decode cX4_numbersOf 32 = .ok (.bipush 32, 2) := by decide +kernel
theorem dX4_numbersOf_34 : decode cX4_numbersOf 34 = .ok (.invokespecial 182, 3) := by decide +kernel
theorem dX4_numbersOf_37 : decode cX4_numbersOf 37 = .ok (.areturn, 1) := by decide +kernel
theorem dX4_numbersOf_38 : decode cX4_numbersOf 38 = .ok (.new 180, 3) := by decide +kernel
theorem dX4_numbersOf_41 : decode cX4_numbersOf 41 = .ok (.dup, 1) := by decide +kernel
theorem dX4_numbersOf_42 : decode cX4_numbersOf 42 = .ok (.bipush 64, 2) := by decide +kernel
theorem dX4_numbersOf_44 : decode cX4_numbersOf 44 = .ok (.invokespecial 182, 3) := by decide +kernel
theorem dX4_numbersOf_47 : decode cX4_numbersOf 47 = .ok (.areturn, 1) := by decide +kernel
theorem dX4_numbersOf_48 : decode cX4_numbersOf 48 = .ok (.new 185, 3) := by decide +kernel
theorem dX4_numbersOf_51 : decode cX4_numbersOf 51 = .ok (.dup, 1) := by decide +kernel
theorem dX4_numbersOf_52 : decode cX4_numbersOf 52 = .ok (.bipush 32, 2) := by decide +kernel
theorem dX4_numbersOf_54 : decode cX4_numbersOf 54 = .ok (.bipush 23, 2) := by decide +kernel
theorem dX4_numbersOf_56 : decode cX4_numbersOf 56 = .ok (.invokespecial 187, 3) := by decide +kernel
theorem dX4_numbersOf_59 : decode cX4_numbersOf 59 = .ok (.areturn, 1) := by decide +kernel
theorem dX4_numbersOf_60 : decode cX4_numbersOf 60 = .ok (.new 185, 3) := by decide +kernel
theorem dX4_numbersOf_63 : decode cX4_numbersOf 63 = .ok (.dup, 1) := by decide +kernel
theorem dX4_numbersOf_64 : decode cX4_numbersOf 64 = .ok (.bipush 64, 2) := by decide +kernel
theorem dX4_numbersOf_66 : decode cX4_numbersOf 66 = .ok (.bipush 52, 2) := by decide +kernel
theorem dX4_numbersOf_68 : decode cX4_numbersOf 68 = .ok (.invokespecial 187, 3) := by decide +kernel
theorem dX4_numbersOf_71 : decode cX4_numbersOf 71 = .ok (.areturn, 1) := by decide +kernel
theorem dX5_init_0 : decode cX5_init 0 = .ok (.aload_n 0, 1) := by decide +kernel
theorem dX5_init_1 : decode cX5_init 1 = .ok (.invokespecial 1, 3) := by decide +kernel
theorem dX5_init_4 : decode cX5_init 4 = .ok (.aload_n 0, 1) := by decide +kernel
theorem dX5_init_5 : decode cX5_init 5 = .ok (.bipush 8, 2) := by decide +kernel
theorem dX5_init_7 : decode cX5_init 7 = .ok (.newarray .int, 2) := by decide +kernel
theorem dX5_init_9 : decode cX5_init 9 = .ok (.putfield 7, 3) := by decide +kernel
theorem dX5_init_12 : decode cX5_init 12 = .ok (.aload_n 0, 1) := by decide +kernel
theorem dX5_init_13 : decode cX5_init 13 = .ok (.bipush 8, 2) := by decide +kernel
theorem dX5_init_15 : decode cX5_init 15 = .ok (.newarray .int, 2) := by decide +kernel
theorem dX5_init_17 : decode cX5_init 17 = .ok (.putfield 13, 3) := by decide +kernel
theorem dX5_init_20 : decode cX5_init 20 = .ok (.aload_n 0, 1) := by decide +kernel
theorem dX5_init_21 : decode cX5_init 21 = .ok (.bipush 48, 2) := by decide +kernel
theorem dX5_init_23 : decode cX5_init 23 = .ok (.newarray .int, 2) := by decide +kernel
theorem dX5_init_25 : decode cX5_init 25 = .ok (.putfield 16, 3) := by decide +kernel
theorem dX5_init_28 : decode cX5_init 28 = .ok (.aload_n 0, 1) := by decide +kernel
theorem dX5_init_29 : decode cX5_init 29 = .ok (.bipush 48, 2) := by decide +kernel
theorem dX5_init_31 : decode cX5_init 31 = .ok (.newarray .int, 2) := by decide +kernel
theorem dX5_init_33 : decode cX5_init 33 = .ok (.putfield 19, 3) := by decide +kernel
theorem dX5_init_36 : decode cX5_init 36 = .ok (.aload_n 0, 1) := by decide +kernel
theorem dX5_init_37 : decode cX5_init 37 = .ok (.bipush 48, 2) := by decide +kernel
theorem dX5_init_39 : decode cX5_init 39 = .ok (.newarray .long, 2) := by decide +kernel
theorem dX5_init_41 : decode cX5_init 41 = .ok (.putfield 22, 3) := by decide +kernel
theorem dX5_init_44 : decode cX5_init 44 = .ok (.aload_n 0, 1) := by decide +kernel
theorem dX5_init_45 : decode cX5_init 45 = .ok (.bipush 8, 2) := by decide +kernel
theorem dX5_init_47 : decode cX5_init 47 = .ok (.newarray .long, 2) := by decide +kernel
theorem dX5_init_49 : decode cX5_init 49 = .ok (.putfield 26, 3) := by decide +kernel
theorem dX5_init_52 : decode cX5_init 52 = .ok (.aload_n 0, 1) := by decide +kernel
theorem dX5_init_53 : decode cX5_init 53 = .ok (.bipush 8, 2) := by decide +kernel
theorem dX5_init_55 : decode cX5_init 55 = .ok (.newarray .long, 2) := by decide +kernel
theorem dX5_init_57 : decode cX5_init 57 = .ok (.putfield 29, 3) := by decide +kernel
theorem dX5_init_60 : decode cX5_init 60 = .ok (.aload_n 0, 1) := by decide +kernel
theorem dX5_init_61 : decode cX5_init 61 = .ok (.bipush 8, 2) := by decide +kernel
theorem dX5_init_63 : decode cX5_init 63 = .ok (.newarray .int, 2) := by decide +kernel
theorem dX5_init_65 : decode cX5_init 65 = .ok (.putfield 32, 3) := by decide +kernel
theorem dX5_init_68 : decode cX5_init 68 = .ok (.aload_n 0, 1) := by decide +kernel
theorem dX5_init_69 : decode cX5_init 69 = .ok (.sipush 128, 3) := by decide +kernel
theorem dX5_init_72 : decode cX5_init 72 = .ok (.newarray .long, 2) := by decide +kernel
theorem dX5_init_74 : decode cX5_init 74 = .ok (.putfield 35, 3) := by decide +kernel
theorem dX5_init_77 : decode cX5_init 77 = .ok (.aload_n 0, 1) := by decide +kernel
theorem dX5_init_78 : decode cX5_init 78 = .ok (.bipush 8, 2) := by decide +kernel
theorem dX5_init_80 : decode cX5_init 80 = .ok (.newarray .long, 2) := by decide +kernel
theorem dX5_init_82 : decode cX5_init 82 = .ok (.putfield 38, 3) := by decide +kernel
theorem dX5_init_85 : decode cX5_init 85 = .ok (.aload_n 0, 1) := by decide +kernel
theorem dX5_init_86 : decode cX5_init 86 = .ok (.bipush 8, 2) := by decide +kernel
theorem dX5_init_88 : decode cX5_init 88 = .ok (.newarray .long, 2) := by decide +kernel
theorem dX5_init_90 : decode cX5_init 90 = .ok (.putfield 41, 3) := by decide +kernel
theorem dX5_init_93 : decode cX5_init 93 = .ok (.aload_n 0, 1) := by decide +kernel
theorem dX5_init_94 : decode cX5_init 94 = .ok (.bipush 8, 2) := by decide +kernel
theorem dX5_init_96 : decode cX5_init 96 = .ok (.newarray .long, 2) := by decide +kernel
theorem dX5_init_98 : decode cX5_init 98 = .ok (.putfield 44, 3) := by decide +kernel
theorem dX5_init_101 : decode cX5_init 101 = .ok (.aload_n 0, 1) := by decide +kernel
theorem dX5_init_102 : decode cX5_init 102 = .ok (.bipush 8, 2) := by decide +kernel
theorem dX5_init_104 : decode cX5_init 104 = .ok (.newarray .long, 2) := by decide +kernel
theorem dX5_init_106 : decode cX5_init 106 = .ok (.putfield 47, 3) := by decide +kernel
theorem dX5_init_109 : decode cX5_init 109 = .ok (.aload_n 0, 1) := by decide +kernel
theorem dX5_init_110 : decode cX5_init 110 = .ok (.bipush 8, 2) := by decide +kernel
theorem dX5_init_112 : decode cX5_init 112 = .ok (.newarray .int, 2) := by decide +kernel
theorem dX5_init_114 : decode cX5_init 114 = .ok (.putfield 50, 3) := by decide +kernel
theorem dX5_init_117 : decode cX5_init 117 = .ok (.return_, 1) := by decide +kernel
theorem dX5_thrown_0 : decode cX5_thrown 0 = .ok (.aload_n 0, 1) := by decide +kernel
theorem dX5_thrown_1 : decode cX5_thrown 1 = .ok (.getfield 53, 3) := by decide +kernel
theorem dX5_thrown_4 : decode cX5_thrown 4 = .ok (.ireturn, 1) := by decide +kernel
theorem dX5_fail_0 : decode cX5_fail 0 = .ok (.aload_n 0, 1) := by decide +kernel
theorem dX5_fail_1 : decode cX5_fail 1 = .ok (.iload_n 1, 1) := by decide +kernel
theorem dX5_fail_2 : decode cX5_fail 2 = .ok (.putfield 53, 3) := by decide +kernel
theorem dX5_fail_5 : decode cX5_fail 5 = .ok (.iconst 0, 1) := by decide +kernel
theorem dX5_fail_6 : decode cX5_fail 6 = .ok (.ireturn, 1) := by decide +kernel
theorem dX5_isInstrument_0 : decode cX5_isInstrument 0 = .ok (.iload_n 1, 1) := by decide +kernel
theorem dX5_isInstrument_1 : decode cX5_isInstrument 1 = .ok (.ifCond .lt 15, 3) := by decide +kernel
theorem dX5_isInstrument_4 : decode cX5_isInstrument 4 = .ok (.iload_n 1, 1) := by decide +kernel
theorem dX5_isInstrument_5 : decode cX5_isInstrument 5 = .ok (.aload_n 0, 1) := by decide +kernel
theorem dX5_isInstrument_6 : decode cX5_isInstrument 6 = .ok (.getfield 57, 3) := by decide +kernel
theorem dX5_isInstrument_9 : decode cX5_isInstrument 9 = .ok (.if_icmp .ge 7, 3) := by decide +kernel
theorem dX5_isInstrument_12 : decode cX5_isInstrument 12 = .ok (.iconst 1, 1) := by decide +kernel
theorem dX5_isInstrument_13 : decode cX5_isInstrument 13 = .ok (.goto 4, 3) := by decide +kernel
theorem dX5_isInstrument_16 : decode cX5_isInstrument 16 = .ok (.iconst 0, 1) := by decide +kernel
theorem dX5_isInstrument_17 : decode cX5_isInstrument 17 = .ok (.ireturn, 1) := by decide +kernel
theorem dX5_isReal_0 : decode cX5_isReal 0 = .ok (.iload_n 0, 1) := by decide +kernel
theorem dX5_isReal_1 : decode cX5_isReal 1 = .ok (.iconst 2, 1) := by decide +kernel
theorem dX5_isReal_2 : decode cX5_isReal 2 = .ok (.if_icmp .lt 7, 3) := by decide +kernel
theorem dX5_isReal_5 : decode cX5_isReal 5 = .ok (.iconst 1, 1) := by decide +kernel
theorem dX5_isReal_6 : decode cX5_isReal 6 = .ok (.goto 4, 3) := by decide +kernel
theorem dX5_isReal_9 : decode cX5_isReal 9 = .ok (.iconst 0, 1) := by decide +kernel
theorem dX5_isReal_10 : decode cX5_isReal 10 = .ok (.ireturn, 1) := by decide +kernel
theorem dX5_places_0 : decode cX5_places 0 = .ok (.iload_n 0, 1) := by decide +kernel
theorem dX5_places_1 : decode cX5_places 1 = .ok (.iconst 2, 1) := by decide +kernel
theorem dX5_places_2 : decode cX5_places 2 = .ok (.if_icmp .ne 8, 3) := by decide +kernel
theorem dX5_places_5 : decode cX5_places 5 = .ok (.bipush 23, 2) := by decide +kernel
theorem dX5_places_7 : decode cX5_places 7 = .ok (.goto 5, 3) := by decide +kernel
theorem dX5_places_10 : decode cX5_places 10 = .ok (.bipush 52, 2) := by decide +kernel
theorem dX5_places_12 : decode cX5_places 12 = .ok (.ireturn, 1) := by decide +kernel
theorem dX5_signBit_0 : decode cX5_signBit 0 = .ok (.iload_n 0, 1) := by decide +kernel
theorem dX5_signBit_1 : decode cX5_signBit 1 = .ok (.iconst 2, 1) := by decide +kernel
theorem dX5_signBit_2 : decode cX5_signBit 2 = .ok (.if_icmp .ne 9, 3) := by decide +kernel
theorem dX5_signBit_5 : decode cX5_signBit 5 = .ok (.ldc2_w 60, 3) := by decide +kernel
theorem dX5_signBit_8 : decode cX5_signBit 8 = .ok (.goto 6, 3) := by decide +kernel
theorem dX5_signBit_11 : decode cX5_signBit 11 = .ok (.ldc2_w 62, 3) := by decide +kernel
theorem dX5_signBit_14 : decode cX5_signBit 14 = .ok (.lreturn, 1) := by decide +kernel
theorem dX5_endless_0 : decode cX5_endless 0 = .ok (.iload_n 0, 1) := by decide +kernel
theorem dX5_endless_1 : decode cX5_endless 1 = .ok (.iconst 2, 1) := by decide +kernel
theorem dX5_endless_2 : decode cX5_endless 2 = .ok (.if_icmp .ne 9, 3) := by decide +kernel
theorem dX5_endless_5 : decode cX5_endless 5 = .ok (.ldc2_w 64, 3) := by decide +kernel
theorem dX5_endless_8 : decode cX5_endless 8 = .ok (.goto 6, 3) := by decide +kernel
theorem dX5_endless_11 : decode cX5_endless 11 = .ok (.ldc2_w 66, 3) := by decide +kernel
theorem dX5_endless_14 : decode cX5_endless 14 = .ok (.lreturn, 1) := by decide +kernel
theorem dX5_one_0 : decode cX5_one 0 = .ok (.iload_n 0, 1) := by decide +kernel
theorem dX5_one_1 : decode cX5_one 1 = .ok (.iconst 2, 1) := by decide +kernel
theorem dX5_one_2 : decode cX5_one 2 = .ok (.if_icmp .ne 9, 3) := by decide +kernel
theorem dX5_one_5 : decode cX5_one 5 = .ok (.ldc2_w 68, 3) := by decide +kernel
theorem dX5_one_8 : decode cX5_one 8 = .ok (.goto 6, 3) := by decide +kernel
theorem dX5_one_11 : decode cX5_one 11 = .ok (.ldc2_w 70, 3) := by decide +kernel
theorem dX5_one_14 : decode cX5_one 14 = .ok (.lreturn, 1) := by decide +kernel
theorem dX5_cut_0 : decode cX5_cut 0 = .ok (.iload_n 0, 1) := by decide +kernel
theorem dX5_cut_1 : decode cX5_cut 1 = .ok (.ifCond .eq 8, 3) := by decide +kernel
theorem dX5_cut_4 : decode cX5_cut 4 = .ok (.iload_n 0, 1) := by decide +kernel
theorem dX5_cut_5 : decode cX5_cut 5 = .ok (.iconst 2, 1) := by decide +kernel
theorem dX5_cut_6 : decode cX5_cut 6 = .ok (.if_icmp .ne 9, 3) := by decide +kernel
theorem dX5_cut_9 : decode cX5_cut 9 = .ok (.lload_n 1, 1) := by decide +kernel
theorem dX5_cut_10 : decode cX5_cut 10 = .ok (.l2i, 1) := by decide +kernel
theorem dX5_cut_11 : decode cX5_cut 11 = .ok (.i2l, 1) := by decide +kernel
theorem dX5_cut_12 : decode cX5_cut 12 = .ok (.goto 4, 3) := by decide +kernel
theorem dX5_cut_15 : decode cX5_cut 15 = .ok (.lload_n 1, 1) := by decide +kernel
theorem dX5_cut_16 : decode cX5_cut 16 = .ok (.lreturn, 1) := by decide +kernel
theorem dX5_form_0 : decode cX5_form 0 = .ok (.iload_n 0, 1) := by decide +kernel
theorem dX5_form_1 : decode cX5_form 1 = .ok (.iconst 2, 1) := by decide +kernel
theorem dX5_form_2 : decode cX5_form 2 = .ok (.if_icmp .ne 11, 3) := by decide +kernel
theorem dX5_form_5 : decode cX5_form 5 = .ok (.lload_n 1, 1) := by decide +kernel
theorem dX5_form_6 : decode cX5_form 6 = .ok (.ldc2_w 72, 3) := by decide +kernel
theorem dX5_form_9 : decode cX5_form 9 = .ok (.land, 1) := by decide +kernel
theorem dX5_form_10 : decode cX5_form 10 = .ok (.goto 4, 3) := by decide +kernel
theorem dX5_form_13 : decode cX5_form 13 = .ok (.lload_n 1, 1) := by decide +kernel
theorem dX5_form_14 : decode cX5_form 14 = .ok (.lreturn, 1) := by decide +kernel
theorem dX5_amountBits_0 : decode cX5_amountBits 0 = .ok (.iload_n 0, 1) := by decide +kernel
theorem dX5_amountBits_1 : decode cX5_amountBits 1 = .ok (.lload_n 1, 1) := by decide +kernel
theorem dX5_amountBits_2 : decode cX5_amountBits 2 = .ok (.invokestatic 74, 3) := by decide +kernel
theorem dX5_amountBits_5 : decode cX5_amountBits 5 = .ok (.iload_n 0, 1) := by decide +kernel
theorem dX5_amountBits_6 : decode cX5_amountBits 6 = .ok (.invokestatic 78, 3) := by decide +kernel
theorem dX5_amountBits_9 : decode cX5_amountBits 9 = .ok (.ldc2_w 82, 3) := by decide +kernel
theorem dX5_amountBits_12 : decode cX5_amountBits 12 = .ok (.lxor, 1) := by decide +kernel
theorem dX5_amountBits_13 : decode cX5_amountBits 13 = .ok (.land, 1) := by decide +kernel
theorem dX5_amountBits_14 : decode cX5_amountBits 14 = .ok (.lreturn, 1) := by decide +kernel
theorem dX5_isMinus_0 : decode cX5_isMinus 0 = .ok (.lload_n 1, 1) := by decide +kernel
theorem dX5_isMinus_1 : decode cX5_isMinus 1 = .ok (.lconst 0, 1) := by decide +kernel
theorem dX5_isMinus_2 : decode cX5_isMinus 2 = .ok (.lcmp, 1) := by decide +kernel
theorem dX5_isMinus_3 : decode cX5_isMinus 3 = .ok (.ifCond .ge 7, 3) := by decide +kernel
theorem dX5_isMinus_6 : decode cX5_isMinus 6 = .ok (.iconst 1, 1) := by decide +kernel
theorem dX5_isMinus_7 : decode cX5_isMinus 7 = .ok (.goto 4, 3) := by decide +kernel
theorem dX5_isMinus_10 : decode cX5_isMinus 10 = .ok (.iconst 0, 1) := by decide +kernel
theorem dX5_isMinus_11 : decode cX5_isMinus 11 = .ok (.ireturn, 1) := by decide +kernel
theorem dX5_isNone_0 : decode cX5_isNone 0 = .ok (.iload_n 0, 1) := by decide +kernel
theorem dX5_isNone_1 : decode cX5_isNone 1 = .ok (.invokestatic 84, 3) := by decide +kernel
theorem dX5_isNone_4 : decode cX5_isNone 4 = .ok (.ifCond .eq 24, 3) := by decide +kernel
theorem dX5_isNone_7 : decode cX5_isNone 7 = .ok (.iload_n 0, 1) := by decide +kernel
theorem dX5_isNone_8 : decode cX5_isNone 8 = .ok (.iload_n 0, 1) := by decide +kernel
theorem dX5_isNone_9 : decode cX5_isNone 9 = .ok (.lload_n 1, 1) := by decide +kernel
theorem dX5_isNone_10 : decode cX5_isNone 10 = .ok (.invokestatic 88, 3) := by decide +kernel
theorem dX5_isNone_13 : decode cX5_isNone 13 = .ok (.invokestatic 91, 3) := by decide +kernel
theorem dX5_isNone_16 : decode cX5_isNone 16 = .ok (.iload_n 0, 1) := by decide +kernel
theorem dX5_isNone_17 : decode cX5_isNone 17 = .ok (.invokestatic 94, 3) := by decide +kernel
theorem dX5_isNone_20 : decode cX5_isNone 20 = .ok (.lcmp, 1) := by decide +kernel
theorem dX5_isNone_21 : decode cX5_isNone 21 = .ok (.ifCond .le 7, 3) := by decide +kernel
theorem dX5_isNone_24 : decode cX5_isNone 24 = .ok (.iconst 1, 1) := by decide +kernel
theorem dX5_isNone_25 : decode cX5_isNone 25 = .ok (.goto 4, 3) := by decide +kernel
theorem dX5_isNone_28 : decode cX5_isNone 28 = .ok (.iconst 0, 1) := by decide +kernel
theorem dX5_isNone_29 : decode cX5_isNone 29 = .ok (.ireturn, 1) := by decide +kernel
theorem dX5_rank_0 : decode cX5_rank 0 = .ok (.iload_n 0, 1) := by decide +kernel
theorem dX5_rank_1 : decode cX5_rank 1 = .ok (.invokestatic 84, 3) := by decide +kernel
theorem dX5_rank_4 : decode cX5_rank 4 = .ok (.ifCond .ne 5, 3) := by decide +kernel
theorem dX5_rank_7 : decode cX5_rank 7 = .ok (.lload_n 1, 1) := by decide +kernel
theorem dX5_rank_8 : decode cX5_rank 8 = .ok (.lreturn, 1) := by decide +kernel
theorem dX5_rank_9 : decode cX5_rank 9 = .ok (.iload_n 0, 1) := by decide +kernel
theorem dX5_rank_10 : decode cX5_rank 10 = .ok (.lload_n 1, 1) := by decide +kernel
theorem dX5_rank_11 : decode cX5_rank 11 = .ok (.invokestatic 91, 3) := by decide +kernel
theorem dX5_rank_14 : decode cX5_rank 14 = .ok (.lstore_n 3, 1) := by decide +kernel
theorem dX5_rank_15 : decode cX5_rank 15 = .ok (.iload_n 0, 1) := by decide +kernel
theorem dX5_rank_16 : decode cX5_rank 16 = .ok (.lload_n 1, 1) := by decide +kernel
theorem dX5_rank_17 : decode cX5_rank 17 = .ok (.invokestatic 97, 3) := by decide +kernel
theorem dX5_rank_20 : decode cX5_rank 20 = .ok (.ifCond .eq 11, 3) := by decide +kernel
theorem dX5_rank_23 : decode cX5_rank 23 = .ok (.ldc2_w 82, 3) := by decide +kernel
theorem dX5_rank_26 : decode cX5_rank 26 = .ok (.lload_n 3, 1) := by decide +kernel
theorem dX5_rank_27 : decode cX5_rank 27 = .ok (.lsub, 1) := by decide +kernel
theorem dX5_rank_28 : decode cX5_rank 28 = .ok (.goto 4, 3) := by decide +kernel
theorem dX5_rank_31 : decode cX5_rank 31 = .ok (.lload_n 3, 1) := by decide +kernel
theorem dX5_rank_32 : decode cX5_rank 32 = .ok (.lreturn, 1) := by decide +kernel
theorem dX5_height_0 : decode cX5_height 0 = .ok (.iload_n 0, 1) := by decide +kernel
theorem dX5_height_1 : decode cX5_height 1 = .ok (.invokestatic 84, 3) := by decide +kernel
theorem dX5_height_4 : decode cX5_height 4 = .ok (.ifCond .eq 17, 3) := by decide +kernel
theorem dX5_height_7 : decode cX5_height 7 = .ok (.iload_n 0, 1) := by decide +kernel
theorem dX5_height_8 : decode cX5_height 8 = .ok (.lload_n 1, 1) := by decide +kernel
theorem dX5_height_9 : decode cX5_height 9 = .ok (.invokestatic 91, 3) := by decide +kernel
theorem dX5_height_12 : decode cX5_height 12 = .ok (.lconst 0, 1) := by decide +kernel
theorem dX5_height_13 : decode cX5_height 13 = .ok (.lcmp, 1) := by decide +kernel
theorem dX5_height_14 : decode cX5_height 14 = .ok (.ifCond .ne 7, 3) := by decide +kernel
theorem dX5_height_17 : decode cX5_height 17 = .ok (.lconst 0, 1) := by decide +kernel
theorem dX5_height_18 : decode cX5_height 18 = .ok (.goto 8, 3) := by decide +kernel
theorem dX5_height_21 : decode cX5_height 21 = .ok (.iload_n 0, 1) := by decide +kernel
theorem dX5_height_22 : decode cX5_height 22 = .ok (.lload_n 1, 1) := by decide +kernel
theorem dX5_height_23 : decode cX5_height 23 = .ok (.invokestatic 101, 3) := by decide +kernel
theorem dX5_height_26 : decode cX5_height 26 = .ok (.lreturn, 1) := by decide +kernel
theorem dX5_greater_0 : decode cX5_greater 0 = .ok (.iload_n 0, 1) := by decide +kernel
theorem dX5_greater_1 : decode cX5_greater 1 = .ok (.lload_n 1, 1) := by decide +kernel
theorem dX5_greater_2 : decode cX5_greater 2 = .ok (.invokestatic 101, 3) := by decide +kernel
theorem dX5_greater_5 : decode cX5_greater 5 = .ok (.iload_n 0, 1) := by decide +kernel
theorem dX5_greater_6 : decode cX5_greater 6 = .ok (.lload_n 3, 1) := by decide +kernel
theorem dX5_greater_7 : decode cX5_greater 7 = .ok (.invokestatic 101, 3) := by decide +kernel
theorem dX5_greater_10 : decode cX5_greater 10 = .ok (.lcmp, 1) := by decide +kernel
theorem dX5_greater_11 : decode cX5_greater 11 = .ok (.ifCond .ge 7, 3) := by decide +kernel
theorem dX5_greater_14 : decode cX5_greater 14 = .ok (.lload_n 3, 1) := by decide +kernel
theorem dX5_greater_15 : decode cX5_greater 15 = .ok (.goto 4, 3) := by decide +kernel
theorem dX5_greater_18 : decode cX5_greater 18 = .ok (.lload_n 1, 1) := by decide +kernel
theorem dX5_greater_19 : decode cX5_greater 19 = .ok (.lreturn, 1) := by decide +kernel
theorem dX5_lesser_0 : decode cX5_lesser 0 = .ok (.iload_n 0, 1) := by decide +kernel
theorem dX5_lesser_1 : decode cX5_lesser 1 = .ok (.lload_n 3, 1) := by decide +kernel
theorem dX5_lesser_2 : decode cX5_lesser 2 = .ok (.invokestatic 101, 3) := by decide +kernel
theorem dX5_lesser_5 : decode cX5_lesser 5 = .ok (.iload_n 0, 1) := by decide +kernel
theorem dX5_lesser_6 : decode cX5_lesser 6 = .ok (.lload_n 1, 1) := by decide +kernel
theorem dX5_lesser_7 : decode cX5_lesser 7 = .ok (.invokestatic 101, 3) := by decide +kernel
theorem dX5_lesser_10 : decode cX5_lesser 10 = .ok (.lcmp, 1) := by decide +kernel
theorem dX5_lesser_11 : decode cX5_lesser 11 = .ok (.ifCond .ge 7, 3) := by decide +kernel
theorem dX5_lesser_14 : decode cX5_lesser 14 = .ok (.lload_n 3, 1) := by decide +kernel
theorem dX5_lesser_15 : decode cX5_lesser 15 = .ok (.goto 4, 3) := by decide +kernel
theorem dX5_lesser_18 : decode cX5_lesser 18 = .ok (.lload_n 1, 1) := by decide +kernel
theorem dX5_lesser_19 : decode cX5_lesser 19 = .ok (.lreturn, 1) := by decide +kernel
theorem dX5_isAbove_0 : decode cX5_isAbove 0 = .ok (.iload_n 0, 1) := by decide +kernel
theorem dX5_isAbove_1 : decode cX5_isAbove 1 = .ok (.lload_n 1, 1) := by decide +kernel
theorem dX5_isAbove_2 : decode cX5_isAbove 2 = .ok (.invokestatic 104, 3) := by decide +kernel
theorem dX5_isAbove_5 : decode cX5_isAbove 5 = .ok (.iload_n 0, 1) := by decide +kernel
theorem dX5_isAbove_6 : decode cX5_isAbove 6 = .ok (.lload_n 3, 1) := by decide +kernel
theorem dX5_isAbove_7 : decode cX5_isAbove 7 = .ok (.invokestatic 104, 3) := by decide +kernel
theorem dX5_isAbove_10 : decode cX5_isAbove 10 = .ok (.lcmp, 1) := by decide +kernel
theorem dX5_isAbove_11 : decode cX5_isAbove 11 = .ok (.ifCond .le 7, 3) := by decide +kernel
theorem dX5_isAbove_14 : decode cX5_isAbove 14 = .ok (.iconst 1, 1) := by decide +kernel
theorem dX5_isAbove_15 : decode cX5_isAbove 15 = .ok (.goto 4, 3) := by decide +kernel
theorem dX5_isAbove_18 : decode cX5_isAbove 18 = .ok (.iconst 0, 1) := by decide +kernel
theorem dX5_isAbove_19 : decode cX5_isAbove 19 = .ok (.ireturn, 1) := by decide +kernel
theorem dX5_amount_0 : decode cX5_amount 0 = .ok (.iload_n 0, 1) := by decide +kernel
theorem dX5_amount_1 : decode cX5_amount 1 = .ok (.invokestatic 84, 3) := by decide +kernel
theorem dX5_amount_4 : decode cX5_amount 4 = .ok (.ifCond .eq 13, 3) := by decide +kernel
theorem dX5_amount_7 : decode cX5_amount 7 = .ok (.iload_n 0, 1) := by decide +kernel
theorem dX5_amount_8 : decode cX5_amount 8 = .ok (.iload_n 0, 1) := by decide +kernel
theorem dX5_amount_9 : decode cX5_amount 9 = .ok (.lload_n 1, 1) := by decide +kernel
theorem dX5_amount_10 : decode cX5_amount 10 = .ok (.invokestatic 91, 3) := by decide +kernel
theorem dX5_amount_13 : decode cX5_amount 13 = .ok (.invokestatic 88, 3) := by decide +kernel
theorem dX5_amount_16 : decode cX5_amount 16 = .ok (.lreturn, 1) := by decide +kernel
theorem dX5_amount_17 : decode cX5_amount 17 = .ok (.iload_n 0, 1) := by decide +kernel
theorem dX5_amount_18 : decode cX5_amount 18 = .ok (.lload_n 1, 1) := by decide +kernel
theorem dX5_amount_19 : decode cX5_amount 19 = .ok (.lconst 0, 1) := by decide +kernel
theorem dX5_amount_20 : decode cX5_amount 20 = .ok (.lcmp, 1) := by decide +kernel
theorem dX5_amount_21 : decode cX5_amount 21 = .ok (.ifCond .ge 8, 3) := by decide +kernel
theorem dX5_amount_24 : decode cX5_amount 24 = .ok (.lload_n 1, 1) := by decide +kernel
theorem dX5_amount_25 : decode cX5_amount 25 = .ok (.lneg, 1) := by decide +kernel
theorem dX5_amount_26 : decode cX5_amount 26 = .ok (.goto 4, 3) := by decide +kernel
theorem dX5_amount_29 : decode cX5_amount 29 = .ok (.lload_n 1, 1) := by decide +kernel
theorem dX5_amount_30 : decode cX5_amount 30 = .ok (.invokestatic 88, 3) := by decide +kernel
theorem dX5_amount_33 : decode cX5_amount 33 = .ok (.lreturn, 1) := by decide +kernel
theorem dX5_signed_0 : decode cX5_signed 0 = .ok (.iload_n 0, 1) := by decide +kernel
theorem dX5_signed_1 : decode cX5_signed 1 = .ok (.iload_n 3, 1) := by decide +kernel
theorem dX5_signed_2 : decode cX5_signed 2 = .ok (.ifCond .eq 12, 3) := by decide +kernel
theorem dX5_signed_5 : decode cX5_signed 5 = .ok (.lload_n 1, 1) := by decide +kernel
theorem dX5_signed_6 : decode cX5_signed 6 = .ok (.iload_n 0, 1) := by decide +kernel
theorem dX5_signed_7 : decode cX5_signed 7 = .ok (.invokestatic 78, 3) := by decide +kernel
theorem dX5_signed_10 : decode cX5_signed 10 = .ok (.lor, 1) := by decide +kernel
theorem dX5_signed_11 : decode cX5_signed 11 = .ok (.goto 4, 3) := by decide +kernel
theorem dX5_signed_14 : decode cX5_signed 14 = .ok (.lload_n 1, 1) := by decide +kernel
theorem dX5_signed_15 : decode cX5_signed 15 = .ok (.invokestatic 88, 3) := by decide +kernel
theorem dX5_signed_18 : decode cX5_signed 18 = .ok (.lreturn, 1) := by decide +kernel
theorem dX5_toWhole_0 : decode cX5_toWhole 0 = .ok (.iload_n 0, 1) := by decide +kernel
theorem dX5_toWhole_1 : decode cX5_toWhole 1 = .ok (.lload_n 1, 1) := by decide +kernel
theorem dX5_toWhole_2 : decode cX5_toWhole 2 = .ok (.invokestatic 97, 3) := by decide +kernel
theorem dX5_toWhole_5 : decode cX5_toWhole 5 = .ok (.istore 4, 2) := by decide +kernel
theorem dX5_toWhole_7 : decode cX5_toWhole 7 = .ok (.iload_n 0, 1) := by decide +kernel
theorem dX5_toWhole_8 : decode cX5_toWhole 8 = .ok (.lload_n 1, 1) := by decide +kernel
theorem dX5_toWhole_9 : decode cX5_toWhole 9 = .ok (.invokestatic 91, 3) := by decide +kernel
theorem dX5_toWhole_12 : decode cX5_toWhole 12 = .ok (.lstore 5, 2) := by decide +kernel
theorem dX5_toWhole_14 : decode cX5_toWhole 14 = .ok (.iload_n 0, 1) := by decide +kernel
theorem dX5_toWhole_15 : decode cX5_toWhole 15 = .ok (.invokestatic 107, 3) := by decide +kernel
theorem dX5_toWhole_18 : decode cX5_toWhole 18 = .ok (.istore 7, 2) := by decide +kernel
theorem dX5_toWhole_20 : decode cX5_toWhole 20 = .ok (.lload 5, 2) := by decide +kernel
theorem dX5_toWhole_22 : decode cX5_toWhole 22 = .ok (.iload 7, 2) := by decide +kernel
theorem dX5_toWhole_24 : decode cX5_toWhole 24 = .ok (.lshr, 1) := by decide +kernel
theorem dX5_toWhole_25 : decode cX5_toWhole 25 = .ok (.l2i, 1) := by decide +kernel
theorem dX5_toWhole_26 : decode cX5_toWhole 26 = .ok (.iload_n 0, 1) := by decide +kernel
theorem dX5_toWhole_27 : decode cX5_toWhole 27 = .ok (.iconst 2, 1) := by decide +kernel
theorem dX5_toWhole_28 : decode cX5_toWhole 28 = .ok (.if_icmp .ne 8, 3) := by decide +kernel
theorem dX5_toWhole_31 : decode cX5_toWhole 31 = .ok (.bipush 127, 2) := by decide +kernel
theorem dX5_toWhole_33 : decode cX5_toWhole 33 = .ok (.goto 6, 3) := by decide +kernel
theorem dX5_toWhole_36 : decode cX5_toWhole 36 = .ok (.sipush 1023, 3) := by decide +kernel
theorem dX5_toWhole_39 : decode cX5_toWhole 39 = .ok (.isub, 1) := by decide +kernel
theorem dX5_toWhole_40 : decode cX5_toWhole 40 = .ok (.istore 8, 2) := by decide +kernel
theorem dX5_toWhole_42 : decode cX5_toWhole 42 = .ok (.iload 8, 2) := by decide +kernel
theorem dX5_toWhole_44 : decode cX5_toWhole 44 = .ok (.iload 7, 2) := by decide +kernel
theorem dX5_toWhole_46 : decode cX5_toWhole 46 = .ok (.if_icmp .ge 10, 3) := by decide +kernel
theorem dX5_toWhole_49 : decode cX5_toWhole 49 = .ok (.lload 5, 2) := by decide +kernel
theorem dX5_toWhole_51 : decode cX5_toWhole 51 = .ok (.lconst 0, 1) := by decide +kernel
theorem dX5_toWhole_52 : decode cX5_toWhole 52 = .ok (.lcmp, 1) := by decide +kernel
theorem dX5_toWhole_53 : decode cX5_toWhole 53 = .ok (.ifCond .ne 5, 3) := by decide +kernel
theorem dX5_toWhole_56 : decode cX5_toWhole 56 = .ok (.lload_n 1, 1) := by decide +kernel
theorem dX5_toWhole_57 : decode cX5_toWhole 57 = .ok (.lreturn, 1) := by decide +kernel
theorem dX5_toWhole_58 : decode cX5_toWhole 58 = .ok (.iload_n 3, 1) := by decide +kernel
theorem dX5_toWhole_59 : decode cX5_toWhole 59 = .ok (.iconst 3, 1) := by decide +kernel
theorem dX5_toWhole_60 : decode cX5_toWhole 60 = .ok (.if_icmp .ne 8, 3) := by decide +kernel
theorem dX5_toWhole_63 : decode cX5_toWhole 63 = .ok (.iload 4, 2) := by decide +kernel
theorem dX5_toWhole_65 : decode cX5_toWhole 65 = .ok (.goto 13, 3) := by decide +kernel
theorem dX5_toWhole_68 : decode cX5_toWhole 68 = .ok (.iload 4, 2) := by decide +kernel
theorem dX5_toWhole_70 : decode cX5_toWhole 70 = .ok (.ifCond .ne 7, 3) := by decide +kernel
theorem dX5_toWhole_73 : decode cX5_toWhole 73 = .ok (.iconst 1, 1) := by decide +kernel
theorem dX5_toWhole_74 : decode cX5_toWhole 74 = .ok (.goto 4, 3) := by decide +kernel
theorem dX5_toWhole_77 : decode cX5_toWhole 77 = .ok (.iconst 0, 1) := by decide +kernel
theorem dX5_toWhole_78 : decode cX5_toWhole 78 = .ok (.istore 9, 2) := by decide +kernel
theorem dX5_toWhole_80 : decode cX5_toWhole 80 = .ok (.iload 8, 2) := by decide +kernel
theorem dX5_toWhole_82 : decode cX5_toWhole 82 = .ok (.ifCond .ge 60, 3) := by decide +kernel
theorem dX5_toWhole_85 : decode cX5_toWhole 85 = .ok (.iload_n 3, 1) := by decide +kernel
theorem dX5_toWhole_86 : decode cX5_toWhole 86 = .ok (.iconst 5, 1) := by decide +kernel
theorem dX5_toWhole_87 : decode cX5_toWhole 87 = .ok (.if_icmp .ne 31, 3) := by decide +kernel
theorem dX5_toWhole_90 : decode cX5_toWhole 90 = .ok (.iload 8, 2) := by decide +kernel
theorem dX5_toWhole_92 : decode cX5_toWhole 92 = .ok (.iconst (-1), 1) := by decide +kernel
theorem dX5_toWhole_93 : decode cX5_toWhole 93 = .ok (.if_icmp .ne 21, 3) := by decide +kernel
theorem dX5_toWhole_96 : decode cX5_toWhole 96 = .ok (.lload 5, 2) := by decide +kernel
theorem dX5_toWhole_98 : decode cX5_toWhole 98 = .ok (.lconst 1, 1) := by decide +kernel
theorem dX5_toWhole_99 : decode cX5_toWhole 99 = .ok (.iload 7, 2) := by decide +kernel
theorem dX5_toWhole_101 : decode cX5_toWhole 101 = .ok (.lshl, 1) := by decide +kernel
theorem dX5_toWhole_102 : decode cX5_toWhole 102 = .ok (.lconst 1, 1) := by decide +kernel
theorem dX5_toWhole_103 : decode cX5_toWhole 103 = .ok (.lsub, 1) := by decide +kernel
theorem dX5_toWhole_104 : decode cX5_toWhole 104 = .ok (.land, 1) := by decide +kernel
theorem dX5_toWhole_105 : decode cX5_toWhole 105 = .ok (.lconst 0, 1) := by decide +kernel
theorem dX5_toWhole_106 : decode cX5_toWhole 106 = .ok (.lcmp, 1) := by decide +kernel
theorem dX5_toWhole_107 : decode cX5_toWhole 107 = .ok (.ifCond .le 7, 3) := by decide +kernel
theorem dX5_toWhole_110 : decode cX5_toWhole 110 = .ok (.iconst 1, 1) := by decide +kernel
theorem dX5_toWhole_111 : decode cX5_toWhole 111 = .ok (.goto 9, 3) := by decide +kernel
theorem dX5_toWhole_114 : decode cX5_toWhole 114 = .ok (.iconst 0, 1) := by decide +kernel
theorem dX5_toWhole_115 : decode cX5_toWhole 115 = .ok (.goto 5, 3) := by decide +kernel
theorem dX5_toWhole_118 : decode cX5_toWhole 118 = .ok (.iload 9, 2) := by decide +kernel
theorem dX5_toWhole_120 : decode cX5_toWhole 120 = .ok (.istore 10, 2) := by decide +kernel
theorem dX5_toWhole_122 : decode cX5_toWhole 122 = .ok (.iload_n 0, 1) := by decide +kernel
theorem dX5_toWhole_123 : decode cX5_toWhole 123 = .ok (.iload 10, 2) := by decide +kernel
theorem dX5_toWhole_125 : decode cX5_toWhole 125 = .ok (.ifCond .eq 10, 3) := by decide +kernel
theorem dX5_toWhole_128 : decode cX5_toWhole 128 = .ok (.iload_n 0, 1) := by decide +kernel
theorem dX5_toWhole_129 : decode cX5_toWhole 129 = .ok (.invokestatic 111, 3) := by decide +kernel
theorem dX5_toWhole_132 : decode cX5_toWhole 132 = .ok (.goto 4, 3) := by decide +kernel
theorem dX5_toWhole_135 : decode cX5_toWhole 135 = .ok (.lconst 0, 1) := by decide +kernel
theorem dX5_toWhole_136 : decode cX5_toWhole 136 = .ok (.iload 4, 2) := by decide +kernel
theorem dX5_toWhole_138 : decode cX5_toWhole 138 = .ok (.invokestatic 114, 3) := by decide +kernel
theorem dX5_toWhole_141 : decode cX5_toWhole 141 = .ok (.lreturn, 1) := by decide +kernel
theorem dX5_toWhole_142 : decode cX5_toWhole 142 = .ok (.lconst 1, 1) := by decide +kernel
theorem dX5_toWhole_143 : decode cX5_toWhole 143 = .ok (.iload 7, 2) := by decide +kernel
theorem dX5_toWhole_145 : decode cX5_toWhole 145 = .ok (.iload 8, 2) := by decide +kernel
theorem dX5_toWhole_147 : decode cX5_toWhole 147 = .ok (.isub, 1) := by decide +kernel
theorem dX5_toWhole_148 : decode cX5_toWhole 148 = .ok (.lshl, 1) := by decide +kernel
theorem dX5_toWhole_149 : decode cX5_toWhole 149 = .ok (.lstore 10, 2) := by decide +kernel
theorem dX5_toWhole_151 : decode cX5_toWhole 151 = .ok (.lload 5, 2) := by decide +kernel
theorem dX5_toWhole_153 : decode cX5_toWhole 153 = .ok (.lload 10, 2) := by decide +kernel
theorem dX5_toWhole_155 : decode cX5_toWhole 155 = .ok (.lconst 1, 1) := by decide +kernel
theorem dX5_toWhole_156 : decode cX5_toWhole 156 = .ok (.lsub, 1) := by decide +kernel
theorem dX5_toWhole_157 : decode cX5_toWhole 157 = .ok (.land, 1) := by decide +kernel
theorem dX5_toWhole_158 : decode cX5_toWhole 158 = .ok (.lstore 12, 2) := by decide +kernel
theorem dX5_toWhole_160 : decode cX5_toWhole 160 = .ok (.lload 12, 2) := by decide +kernel
theorem dX5_toWhole_162 : decode cX5_toWhole 162 = .ok (.lconst 0, 1) := by decide +kernel
theorem dX5_toWhole_163 : decode cX5_toWhole 163 = .ok (.lcmp, 1) := by decide +kernel
theorem dX5_toWhole_164 : decode cX5_toWhole 164 = .ok (.ifCond .ne 5, 3) := by decide +kernel
theorem dX5_toWhole_167 : decode cX5_toWhole 167 = .ok (.lload_n 1, 1) := by decide +kernel
theorem dX5_toWhole_168 : decode cX5_toWhole 168 = .ok (.lreturn, 1) := by decide +kernel
theorem dX5_toWhole_169 : decode cX5_toWhole 169 = .ok (.iload 8, 2) := by decide +kernel
theorem dX5_toWhole_171 : decode cX5_toWhole 171 = .ok (.ifCond .eq 13, 3) := by decide +kernel
theorem dX5_toWhole_174 : decode cX5_toWhole 174 = .ok (.lload 5, 2) := by decide +kernel
theorem dX5_toWhole_176 : decode cX5_toWhole 176 = .ok (.lload 10, 2) := by decide +kernel
theorem dX5_toWhole_178 : decode cX5_toWhole 178 = .ok (.land, 1) := by decide +kernel
theorem dX5_toWhole_179 : decode cX5_toWhole 179 = .ok (.lconst 0, 1) := by decide +kernel
theorem dX5_toWhole_180 : decode cX5_toWhole 180 = .ok (.lcmp, 1) := by decide +kernel
theorem dX5_toWhole_181 : decode cX5_toWhole 181 = .ok (.ifCond .eq 7, 3) := by decide +kernel
theorem dX5_toWhole_184 : decode cX5_toWhole 184 = .ok (.iconst 1, 1) := by decide +kernel
theorem dX5_toWhole_185 : decode cX5_toWhole 185 = .ok (.goto 4, 3) := by decide +kernel
theorem dX5_toWhole_188 : decode cX5_toWhole 188 = .ok (.iconst 0, 1) := by decide +kernel
theorem dX5_toWhole_189 : decode cX5_toWhole 189 = .ok (.istore 14, 2) := by decide +kernel
theorem dX5_toWhole_191 : decode cX5_toWhole 191 = .ok (.iload_n 3, 1) := by decide +kernel
theorem dX5_toWhole_192 : decode cX5_toWhole 192 = .ok (.iconst 5, 1) := by decide +kernel
theorem dX5_toWhole_193 : decode cX5_toWhole 193 = .ok (.if_icmp .ne 40, 3) := by decide +kernel
theorem dX5_toWhole_196 : decode cX5_toWhole 196 = .ok (.lload 12, 2) := by decide +kernel
theorem dX5_toWhole_198 : decode cX5_toWhole 198 = .ok (.lload 10, 2) := by decide +kernel
theorem dX5_toWhole_200 : decode cX5_toWhole 200 = .ok (.ldc2_w 118, 3) := by decide +kernel
theorem dX5_toWhole_203 : decode cX5_toWhole 203 = .ok (.ldiv, 1) := by decide +kernel
theorem dX5_toWhole_204 : decode cX5_toWhole 204 = .ok (.lcmp, 1) := by decide +kernel
theorem dX5_toWhole_205 : decode cX5_toWhole 205 = .ok (.ifCond .gt 20, 3) := by decide +kernel
theorem dX5_toWhole_208 : decode cX5_toWhole 208 = .ok (.lload 12, 2) := by decide +kernel
theorem dX5_toWhole_210 : decode cX5_toWhole 210 = .ok (.lload 10, 2) := by decide +kernel
theorem dX5_toWhole_212 : decode cX5_toWhole 212 = .ok (.ldc2_w 118, 3) := by decide +kernel
theorem dX5_toWhole_215 : decode cX5_toWhole 215 = .ok (.ldiv, 1) := by decide +kernel
theorem dX5_toWhole_216 : decode cX5_toWhole 216 = .ok (.lcmp, 1) := by decide +kernel
theorem dX5_toWhole_217 : decode cX5_toWhole 217 = .ok (.ifCond .ne 12, 3) := by decide +kernel
theorem dX5_toWhole_220 : decode cX5_toWhole 220 = .ok (.iload 14, 2) := by decide +kernel
theorem dX5_toWhole_222 : decode cX5_toWhole 222 = .ok (.ifCond .eq 7, 3) := by decide +kernel
theorem dX5_toWhole_225 : decode cX5_toWhole 225 = .ok (.iconst 1, 1) := by decide +kernel
theorem dX5_toWhole_226 : decode cX5_toWhole 226 = .ok (.goto 9, 3) := by decide +kernel
theorem dX5_toWhole_229 : decode cX5_toWhole 229 = .ok (.iconst 0, 1) := by decide +kernel
theorem dX5_toWhole_230 : decode cX5_toWhole 230 = .ok (.goto 5, 3) := by decide +kernel
theorem dX5_toWhole_233 : decode cX5_toWhole 233 = .ok (.iload 9, 2) := by decide +kernel
theorem dX5_toWhole_235 : decode cX5_toWhole 235 = .ok (.istore 15, 2) := by decide +kernel
theorem dX5_toWhole_237 : decode cX5_toWhole 237 = .ok (.iload_n 0, 1) := by decide +kernel
theorem dX5_toWhole_238 : decode cX5_toWhole 238 = .ok (.iload 15, 2) := by decide +kernel
theorem dX5_toWhole_240 : decode cX5_toWhole 240 = .ok (.ifCond .eq 14, 3) := by decide +kernel
theorem dX5_toWhole_243 : decode cX5_toWhole 243 = .ok (.lload 5, 2) := by decide +kernel
theorem dX5_toWhole_245 : decode cX5_toWhole 245 = .ok (.lload 12, 2) := by decide +kernel
theorem dX5_toWhole_247 : decode cX5_toWhole 247 = .ok (.lsub, 1) := by decide +kernel
theorem dX5_toWhole_248 : decode cX5_toWhole 248 = .ok (.lload 10, 2) := by decide +kernel
theorem dX5_toWhole_250 : decode cX5_toWhole 250 = .ok (.ladd, 1) := by decide +kernel
theorem dX5_toWhole_251 : decode cX5_toWhole 251 = .ok (.goto 8, 3) := by decide +kernel
theorem dX5_toWhole_254 : decode cX5_toWhole 254 = .ok (.lload 5, 2) := by decide +kernel
theorem dX5_toWhole_256 : decode cX5_toWhole 256 = .ok (.lload 12, 2) := by decide +kernel
theorem dX5_toWhole_258 : decode cX5_toWhole 258 = .ok (.lsub, 1) := by decide +kernel
theorem dX5_toWhole_259 : decode cX5_toWhole 259 = .ok (.iload 4, 2) := by decide +kernel
theorem dX5_toWhole_261 : decode cX5_toWhole 261 = .ok (.invokestatic 114, 3) := by decide +kernel
theorem dX5_toWhole_264 : decode cX5_toWhole 264 = .ok (.lreturn, 1) := by decide +kernel
theorem dX5_changed_0 : decode cX5_changed 0 = .ok (.iload_n 1, 1) := by decide +kernel
theorem dX5_changed_1 : decode cX5_changed 1 = .ok (.tableswitch 113 0 7 #[47, 53, 61, 113, 113, 113, 69, 97], 47) := by decide +kernel
theorem dX5_changed_48 : decode cX5_changed 48 = .ok (.iload_n 0, 1) := by decide +kernel
theorem dX5_changed_49 : decode cX5_changed 49 = .ok (.lload_n 2, 1) := by decide +kernel
theorem dX5_changed_50 : decode cX5_changed 50 = .ok (.invokestatic 120, 3) := by decide +kernel
theorem dX5_changed_53 : decode cX5_changed 53 = .ok (.lreturn, 1) := by decide +kernel
theorem dX5_changed_54 : decode cX5_changed 54 = .ok (.iload_n 0, 1) := by decide +kernel
theorem dX5_changed_55 : decode cX5_changed 55 = .ok (.lload_n 2, 1) := by decide +kernel
theorem dX5_changed_56 : decode cX5_changed 56 = .ok (.lload 4, 2) := by decide +kernel
theorem dX5_changed_58 : decode cX5_changed 58 = .ok (.invokestatic 123, 3) := by decide +kernel
theorem dX5_changed_61 : decode cX5_changed 61 = .ok (.lreturn, 1) := by decide +kernel
theorem dX5_changed_62 : decode cX5_changed 62 = .ok (.iload_n 0, 1) := by decide +kernel
theorem dX5_changed_63 : decode cX5_changed 63 = .ok (.lload_n 2, 1) := by decide +kernel
theorem dX5_changed_64 : decode cX5_changed 64 = .ok (.lload 4, 2) := by decide +kernel
theorem dX5_changed_66 : decode cX5_changed 66 = .ok (.invokestatic 127, 3) := by decide +kernel
theorem dX5_changed_69 : decode cX5_changed 69 = .ok (.lreturn, 1) := by decide +kernel
theorem dX5_changed_70 : decode cX5_changed 70 = .ok (.iload_n 0, 1) := by decide +kernel
theorem dX5_changed_71 : decode cX5_changed 71 = .ok (.lload_n 2, 1) := by decide +kernel
theorem dX5_changed_72 : decode cX5_changed 72 = .ok (.invokestatic 91, 3) := by decide +kernel
theorem dX5_changed_75 : decode cX5_changed 75 = .ok (.lconst 0, 1) := by decide +kernel
theorem dX5_changed_76 : decode cX5_changed 76 = .ok (.lcmp, 1) := by decide +kernel
theorem dX5_changed_77 : decode cX5_changed 77 = .ok (.ifCond .ne 7, 3) := by decide +kernel
theorem dX5_changed_80 : decode cX5_changed 80 = .ok (.lload_n 2, 1) := by decide +kernel
theorem dX5_changed_81 : decode cX5_changed 81 = .ok (.goto 16, 3) := by decide +kernel
theorem dX5_changed_84 : decode cX5_changed 84 = .ok (.iload_n 0, 1) := by decide +kernel
theorem dX5_changed_85 : decode cX5_changed 85 = .ok (.iload_n 0, 1) := by decide +kernel
theorem dX5_changed_86 : decode cX5_changed 86 = .ok (.invokestatic 111, 3) := by decide +kernel
theorem dX5_changed_89 : decode cX5_changed 89 = .ok (.iload_n 0, 1) := by decide +kernel
theorem dX5_changed_90 : decode cX5_changed 90 = .ok (.lload_n 2, 1) := by decide +kernel
theorem dX5_changed_91 : decode cX5_changed 91 = .ok (.invokestatic 97, 3) := by decide +kernel
theorem dX5_changed_94 : decode cX5_changed 94 = .ok (.invokestatic 114, 3) := by decide +kernel
theorem dX5_changed_97 : decode cX5_changed 97 = .ok (.lreturn, 1) := by decide +kernel
theorem dX5_changed_98 : decode cX5_changed 98 = .ok (.iload_n 0, 1) := by decide +kernel
theorem dX5_changed_99 : decode cX5_changed 99 = .ok (.iload_n 0, 1) := by decide +kernel
theorem dX5_changed_100 : decode cX5_changed 100 = .ok (.lload_n 2, 1) := by decide +kernel
theorem dX5_changed_101 : decode cX5_changed 101 = .ok (.invokestatic 91, 3) := by decide +kernel
theorem dX5_changed_104 : decode cX5_changed 104 = .ok (.iload_n 0, 1) := by decide +kernel
theorem dX5_changed_105 : decode cX5_changed 105 = .ok (.lload 4, 2) := by decide +kernel
theorem dX5_changed_107 : decode cX5_changed 107 = .ok (.invokestatic 97, 3) := by decide +kernel
theorem dX5_changed_110 : decode cX5_changed 110 = .ok (.invokestatic 114, 3) := by decide +kernel
theorem dX5_changed_113 : decode cX5_changed 113 = .ok (.lreturn, 1) := by decide +kernel
theorem dX5_changed_114 : decode cX5_changed 114 = .ok (.iload_n 0, 1) := by decide +kernel
theorem dX5_changed_115 : decode cX5_changed 115 = .ok (.lload_n 2, 1) := by decide +kernel
theorem dX5_changed_116 : decode cX5_changed 116 = .ok (.iload_n 1, 1) := by decide +kernel
theorem dX5_changed_117 : decode cX5_changed 117 = .ok (.invokestatic 130, 3) := by decide +kernel
theorem dX5_changed_120 : decode cX5_changed 120 = .ok (.lreturn, 1) := by decide +kernel
theorem dX5_takes_0 : decode cX5_takes 0 = .ok (.iload_n 0, 1) := by decide +kernel
theorem dX5_takes_1 : decode cX5_takes 1 = .ok (.iconst 1, 1) := by decide +kernel
theorem dX5_takes_2 : decode cX5_takes 2 = .ok (.if_icmp .eq 14, 3) := by decide +kernel
theorem dX5_takes_5 : decode cX5_takes 5 = .ok (.iload_n 0, 1) := by decide +kernel
theorem dX5_takes_6 : decode cX5_takes 6 = .ok (.iconst 2, 1) := by decide +kernel
theorem dX5_takes_7 : decode cX5_takes 7 = .ok (.if_icmp .eq 9, 3) := by decide +kernel
theorem dX5_takes_10 : decode cX5_takes 10 = .ok (.iload_n 0, 1) := by decide +kernel
theorem dX5_takes_11 : decode cX5_takes 11 = .ok (.bipush 7, 2) := by decide +kernel
theorem dX5_takes_13 : decode cX5_takes 13 = .ok (.if_icmp .ne 7, 3) := by decide +kernel
theorem dX5_takes_16 : decode cX5_takes 16 = .ok (.iconst 1, 1) := by decide +kernel
theorem dX5_takes_17 : decode cX5_takes 17 = .ok (.goto 4, 3) := by decide +kernel
theorem dX5_takes_20 : decode cX5_takes 20 = .ok (.iconst 0, 1) := by decide +kernel
theorem dX5_takes_21 : decode cX5_takes 21 = .ok (.ireturn, 1) := by decide +kernel
theorem dX5_isStep_0 : decode cX5_isStep 0 = .ok (.iload_n 1, 1) := by decide +kernel
theorem dX5_isStep_1 : decode cX5_isStep 1 = .ok (.ifCond .lt 24, 3) := by decide +kernel
theorem dX5_isStep_4 : decode cX5_isStep 4 = .ok (.iload_n 1, 1) := by decide +kernel
theorem dX5_isStep_5 : decode cX5_isStep 5 = .ok (.iload_n 0, 1) := by decide +kernel
theorem dX5_isStep_6 : decode cX5_isStep 6 = .ok (.invokestatic 84, 3) := by decide +kernel
theorem dX5_isStep_9 : decode cX5_isStep 9 = .ok (.ifCond .eq 8, 3) := by decide +kernel
theorem dX5_isStep_12 : decode cX5_isStep 12 = .ok (.bipush 8, 2) := by decide +kernel
theorem dX5_isStep_14 : decode cX5_isStep 14 = .ok (.goto 4, 3) := by decide +kernel
theorem dX5_isStep_17 : decode cX5_isStep 17 = .ok (.iconst 3, 1) := by decide +kernel
theorem dX5_isStep_18 : decode cX5_isStep 18 = .ok (.if_icmp .ge 7, 3) := by decide +kernel
theorem dX5_isStep_21 : decode cX5_isStep 21 = .ok (.iconst 1, 1) := by decide +kernel
theorem dX5_isStep_22 : decode cX5_isStep 22 = .ok (.goto 4, 3) := by decide +kernel
theorem dX5_isStep_25 : decode cX5_isStep 25 = .ok (.iconst 0, 1) := by decide +kernel
theorem dX5_isStep_26 : decode cX5_isStep 26 = .ok (.ireturn, 1) := by decide +kernel
theorem dX5_single_0 : decode cX5_single 0 = .ok (.lload_n 0, 1) := by decide +kernel
theorem dX5_single_1 : decode cX5_single 1 = .ok (.l2i, 1) := by decide +kernel
theorem dX5_single_2 : decode cX5_single 2 = .ok (.invokestatic 134, 3) := by decide +kernel
theorem dX5_single_5 : decode cX5_single 5 = .ok (.freturn, 1) := by decide +kernel
theorem dX5_real_0 : decode cX5_real 0 = .ok (.lload_n 0, 1) := by decide +kernel
theorem dX5_real_1 : decode cX5_real 1 = .ok (.invokestatic 140, 3) := by decide +kernel
theorem dX5_real_4 : decode cX5_real 4 = .ok (.dreturn, 1) := by decide +kernel
theorem dX5_swing_0 : decode cX5_swing 0 = .ok (.iload_n 0, 1) := by decide +kernel
theorem dX5_swing_1 : decode cX5_swing 1 = .ok (.lload_n 1, 1) := by decide +kernel
theorem dX5_swing_2 : decode cX5_swing 2 = .ok (.invokestatic 104, 3) := by decide +kernel
theorem dX5_swing_5 : decode cX5_swing 5 = .ok (.iload_n 0, 1) := by decide +kernel
theorem dX5_swing_6 : decode cX5_swing 6 = .ok (.lload_n 3, 1) := by decide +kernel
theorem dX5_swing_7 : decode cX5_swing 7 = .ok (.invokestatic 104, 3) := by decide +kernel
theorem dX5_swing_10 : decode cX5_swing 10 = .ok (.lcmp, 1) := by decide +kernel
theorem dX5_swing_11 : decode cX5_swing 11 = .ok (.ifCond .ne 5, 3) := by decide +kernel
theorem dX5_swing_14 : decode cX5_swing 14 = .ok (.lconst 0, 1) := by decide +kernel
theorem dX5_swing_15 : decode cX5_swing 15 = .ok (.lreturn, 1) := by decide +kernel
theorem dX5_swing_16 : decode cX5_swing 16 = .ok (.iload_n 0, 1) := by decide +kernel
theorem dX5_swing_17 : decode cX5_swing 17 = .ok (.iconst 2, 1) := by decide +kernel
theorem dX5_swing_18 : decode cX5_swing 18 = .ok (.if_icmp .ne 21, 3) := by decide +kernel
theorem dX5_swing_21 : decode cX5_swing 21 = .ok (.iload_n 0, 1) := by decide +kernel
theorem dX5_swing_22 : decode cX5_swing 22 = .ok (.lload_n 1, 1) := by decide +kernel
theorem dX5_swing_23 : decode cX5_swing 23 = .ok (.invokestatic 146, 3) := by decide +kernel
theorem dX5_swing_26 : decode cX5_swing 26 = .ok (.lload_n 3, 1) := by decide +kernel
theorem dX5_swing_27 : decode cX5_swing 27 = .ok (.invokestatic 146, 3) := by decide +kernel
theorem dX5_swing_30 : decode cX5_swing 30 = .ok (.fsub, 1) := by decide +kernel
theorem dX5_swing_31 : decode cX5_swing 31 = .ok (.invokestatic 150, 3) := by decide +kernel
theorem dX5_swing_34 : decode cX5_swing 34 = .ok (.i2l, 1) := by decide +kernel
theorem dX5_swing_35 : decode cX5_swing 35 = .ok (.invokestatic 120, 3) := by decide +kernel
theorem dX5_swing_38 : decode cX5_swing 38 = .ok (.lreturn, 1) := by decide +kernel
theorem dX5_swing_39 : decode cX5_swing 39 = .ok (.iload_n 0, 1) := by decide +kernel
theorem dX5_swing_40 : decode cX5_swing 40 = .ok (.iconst 3, 1) := by decide +kernel
theorem dX5_swing_41 : decode cX5_swing 41 = .ok (.if_icmp .ne 20, 3) := by decide +kernel
theorem dX5_swing_44 : decode cX5_swing 44 = .ok (.iload_n 0, 1) := by decide +kernel
theorem dX5_swing_45 : decode cX5_swing 45 = .ok (.lload_n 1, 1) := by decide +kernel
theorem dX5_swing_46 : decode cX5_swing 46 = .ok (.invokestatic 154, 3) := by decide +kernel
theorem dX5_swing_49 : decode cX5_swing 49 = .ok (.lload_n 3, 1) := by decide +kernel
theorem dX5_swing_50 : decode cX5_swing 50 = .ok (.invokestatic 154, 3) := by decide +kernel
theorem dX5_swing_53 : decode cX5_swing 53 = .ok (.dsub, 1) := by decide +kernel
theorem dX5_swing_54 : decode cX5_swing 54 = .ok (.invokestatic 157, 3) := by decide +kernel
theorem dX5_swing_57 : decode cX5_swing 57 = .ok (.invokestatic 120, 3) := by decide +kernel
theorem dX5_swing_60 : decode cX5_swing 60 = .ok (.lreturn, 1) := by decide +kernel
theorem dX5_swing_61 : decode cX5_swing 61 = .ok (.iload_n 0, 1) := by decide +kernel
theorem dX5_swing_62 : decode cX5_swing 62 = .ok (.iload_n 0, 1) := by decide +kernel
theorem dX5_swing_63 : decode cX5_swing 63 = .ok (.lload_n 1, 1) := by decide +kernel
theorem dX5_swing_64 : decode cX5_swing 64 = .ok (.lload_n 3, 1) := by decide +kernel
theorem dX5_swing_65 : decode cX5_swing 65 = .ok (.lsub, 1) := by decide +kernel
theorem dX5_swing_66 : decode cX5_swing 66 = .ok (.invokestatic 88, 3) := by decide +kernel
theorem dX5_swing_69 : decode cX5_swing 69 = .ok (.invokestatic 120, 3) := by decide +kernel
theorem dX5_swing_72 : decode cX5_swing 72 = .ok (.lreturn, 1) := by decide +kernel
theorem dX5_sum_0 : decode cX5_sum 0 = .ok (.iload_n 0, 1) := by decide +kernel
theorem dX5_sum_1 : decode cX5_sum 1 = .ok (.iconst 2, 1) := by decide +kernel
theorem dX5_sum_2 : decode cX5_sum 2 = .ok (.if_icmp .ne 17, 3) := by decide +kernel
theorem dX5_sum_5 : decode cX5_sum 5 = .ok (.lload_n 1, 1) := by decide +kernel
theorem dX5_sum_6 : decode cX5_sum 6 = .ok (.invokestatic 146, 3) := by decide +kernel
theorem dX5_sum_9 : decode cX5_sum 9 = .ok (.lload_n 3, 1) := by decide +kernel
theorem dX5_sum_10 : decode cX5_sum 10 = .ok (.invokestatic 146, 3) := by decide +kernel
theorem dX5_sum_13 : decode cX5_sum 13 = .ok (.fadd, 1) := by decide +kernel
theorem dX5_sum_14 : decode cX5_sum 14 = .ok (.invokestatic 150, 3) := by decide +kernel
theorem dX5_sum_17 : decode cX5_sum 17 = .ok (.i2l, 1) := by decide +kernel
theorem dX5_sum_18 : decode cX5_sum 18 = .ok (.lreturn, 1) := by decide +kernel
theorem dX5_sum_19 : decode cX5_sum 19 = .ok (.iload_n 0, 1) := by decide +kernel
theorem dX5_sum_20 : decode cX5_sum 20 = .ok (.iconst 3, 1) := by decide +kernel
theorem dX5_sum_21 : decode cX5_sum 21 = .ok (.if_icmp .ne 16, 3) := by decide +kernel
theorem dX5_sum_24 : decode cX5_sum 24 = .ok (.lload_n 1, 1) := by decide +kernel
theorem dX5_sum_25 : decode cX5_sum 25 = .ok (.invokestatic 154, 3) := by decide +kernel
theorem dX5_sum_28 : decode cX5_sum 28 = .ok (.lload_n 3, 1) := by decide +kernel
theorem dX5_sum_29 : decode cX5_sum 29 = .ok (.invokestatic 154, 3) := by decide +kernel
theorem dX5_sum_32 : decode cX5_sum 32 = .ok (.dadd, 1) := by decide +kernel
theorem dX5_sum_33 : decode cX5_sum 33 = .ok (.invokestatic 157, 3) := by decide +kernel
theorem dX5_sum_36 : decode cX5_sum 36 = .ok (.lreturn, 1) := by decide +kernel
theorem dX5_sum_37 : decode cX5_sum 37 = .ok (.iload_n 0, 1) := by decide +kernel
theorem dX5_sum_38 : decode cX5_sum 38 = .ok (.lload_n 1, 1) := by decide +kernel
theorem dX5_sum_39 : decode cX5_sum 39 = .ok (.lload_n 3, 1) := by decide +kernel
theorem dX5_sum_40 : decode cX5_sum 40 = .ok (.ladd, 1) := by decide +kernel
theorem dX5_sum_41 : decode cX5_sum 41 = .ok (.invokestatic 88, 3) := by decide +kernel
theorem dX5_sum_44 : decode cX5_sum 44 = .ok (.lreturn, 1) := by decide +kernel
theorem dX5_mount_0 : decode cX5_mount 0 = .ok (.aload_n 0, 1) := by decide +kernel
theorem dX5_mount_1 : decode cX5_mount 1 = .ok (.iconst 0, 1) := by decide +kernel
theorem dX5_mount_2 : decode cX5_mount 2 = .ok (.putfield 53, 3) := by decide +kernel
theorem dX5_mount_5 : decode cX5_mount 5 = .ok (.iload_n 1, 1) := by decide +kernel
theorem dX5_mount_6 : decode cX5_mount 6 = .ok (.ifCond .lt 8, 3) := by decide +kernel
theorem dX5_mount_9 : decode cX5_mount 9 = .ok (.iload_n 1, 1) := by decide +kernel
theorem dX5_mount_10 : decode cX5_mount 10 = .ok (.iconst 3, 1) := by decide +kernel
theorem dX5_mount_11 : decode cX5_mount 11 = .ok (.if_icmp .le 9, 3) := by decide +kernel
theorem dX5_mount_14 : decode cX5_mount 14 = .ok (.aload_n 0, 1) := by decide +kernel
theorem dX5_mount_15 : decode cX5_mount 15 = .ok (.iconst 1, 1) := by decide +kernel
theorem dX5_mount_16 : decode cX5_mount 16 = .ok (.invokevirtual 161, 3) := by decide +kernel
theorem dX5_mount_19 : decode cX5_mount 19 = .ok (.ireturn, 1) := by decide +kernel
theorem dX5_mount_20 : decode cX5_mount 20 = .ok (.aload_n 0, 1) := by decide +kernel
theorem dX5_mount_21 : decode cX5_mount 21 = .ok (.getfield 57, 3) := by decide +kernel
theorem dX5_mount_24 : decode cX5_mount 24 = .ok (.bipush 8, 2) := by decide +kernel
theorem dX5_mount_26 : decode cX5_mount 26 = .ok (.if_icmp .ne 9, 3) := by decide +kernel
theorem dX5_mount_29 : decode cX5_mount 29 = .ok (.aload_n 0, 1) := by decide +kernel
theorem dX5_mount_30 : decode cX5_mount 30 = .ok (.iconst 2, 1) := by decide +kernel
theorem dX5_mount_31 : decode cX5_mount 31 = .ok (.invokevirtual 161, 3) := by decide +kernel
theorem dX5_mount_34 : decode cX5_mount 34 = .ok (.ireturn, 1) := by decide +kernel
theorem dX5_mount_35 : decode cX5_mount 35 = .ok (.aload_n 0, 1) := by decide +kernel
theorem dX5_mount_36 : decode cX5_mount 36 = .ok (.getfield 57, 3) := by decide +kernel
theorem dX5_mount_39 : decode cX5_mount 39 = .ok (.istore_n 2, 1) := by decide +kernel
theorem dX5_mount_40 : decode cX5_mount 40 = .ok (.aload_n 0, 1) := by decide +kernel
theorem dX5_mount_41 : decode cX5_mount 41 = .ok (.dup, 1) := by decide +kernel
theorem dX5_mount_42 : decode cX5_mount 42 = .ok (.getfield 57, 3) := by decide +kernel
theorem dX5_mount_45 : decode cX5_mount 45 = .ok (.iconst 1, 1) := by decide +kernel
theorem dX5_mount_46 : decode cX5_mount 46 = .ok (.iadd, 1) := by decide +kernel
theorem dX5_mount_47 : decode cX5_mount 47 = .ok (.putfield 57, 3) := by decide +kernel
theorem dX5_mount_50 : decode cX5_mount 50 = .ok (.aload_n 0, 1) := by decide +kernel
theorem dX5_mount_51 : decode cX5_mount 51 = .ok (.getfield 7, 3) := by decide +kernel
theorem dX5_mount_54 : decode cX5_mount 54 = .ok (.iload_n 2, 1) := by decide +kernel
theorem dX5_mount_55 : decode cX5_mount 55 = .ok (.iload_n 1, 1) := by decide +kernel
theorem dX5_mount_56 : decode cX5_mount 56 = .ok (.iastore, 1) := by decide +kernel
theorem dX5_mount_57 : decode cX5_mount 57 = .ok (.aload_n 0, 1) := by decide +kernel
theorem dX5_mount_58 : decode cX5_mount 58 = .ok (.getfield 26, 3) := by decide +kernel
theorem dX5_mount_61 : decode cX5_mount 61 = .ok (.iload_n 2, 1) := by decide +kernel
theorem dX5_mount_62 : decode cX5_mount 62 = .ok (.iload_n 1, 1) := by decide +kernel
theorem dX5_mount_63 : decode cX5_mount 63 = .ok (.ifCond .ne 9, 3) := by decide +kernel
theorem dX5_mount_66 : decode cX5_mount 66 = .ok (.ldc2_w 164, 3) := by decide +kernel
theorem dX5_mount_69 : decode cX5_mount 69 = .ok (.goto 23, 3) := by decide +kernel
theorem dX5_mount_72 : decode cX5_mount 72 = .ok (.iload_n 1, 1) := by decide +kernel
theorem dX5_mount_73 : decode cX5_mount 73 = .ok (.iconst 1, 1) := by decide +kernel
theorem dX5_mount_74 : decode cX5_mount 74 = .ok (.if_icmp .ne 9, 3) := by decide +kernel
theorem dX5_mount_77 : decode cX5_mount 77 = .ok (.ldc2_w 62, 3) := by decide +kernel
theorem dX5_mount_80 : decode cX5_mount 80 = .ok (.goto 12, 3) := by decide +kernel
theorem dX5_mount_83 : decode cX5_mount 83 = .ok (.iload_n 1, 1) := by decide +kernel
theorem dX5_mount_84 : decode cX5_mount 84 = .ok (.iload_n 1, 1) := by decide +kernel
theorem dX5_mount_85 : decode cX5_mount 85 = .ok (.invokestatic 94, 3) := by decide +kernel
theorem dX5_mount_88 : decode cX5_mount 88 = .ok (.iconst 1, 1) := by decide +kernel
theorem dX5_mount_89 : decode cX5_mount 89 = .ok (.invokestatic 114, 3) := by decide +kernel
theorem dX5_mount_92 : decode cX5_mount 92 = .ok (.lastore, 1) := by decide +kernel
theorem dX5_mount_93 : decode cX5_mount 93 = .ok (.aload_n 0, 1) := by decide +kernel
theorem dX5_mount_94 : decode cX5_mount 94 = .ok (.getfield 29, 3) := by decide +kernel
theorem dX5_mount_97 : decode cX5_mount 97 = .ok (.iload_n 2, 1) := by decide +kernel
theorem dX5_mount_98 : decode cX5_mount 98 = .ok (.iload_n 1, 1) := by decide +kernel
theorem dX5_mount_99 : decode cX5_mount 99 = .ok (.ifCond .ne 9, 3) := by decide +kernel
theorem dX5_mount_102 : decode cX5_mount 102 = .ok (.ldc2_w 166, 3) := by decide +kernel
theorem dX5_mount_105 : decode cX5_mount 105 = .ok (.goto 23, 3) := by decide +kernel
theorem dX5_mount_108 : decode cX5_mount 108 = .ok (.iload_n 1, 1) := by decide +kernel
theorem dX5_mount_109 : decode cX5_mount 109 = .ok (.iconst 1, 1) := by decide +kernel
theorem dX5_mount_110 : decode cX5_mount 110 = .ok (.if_icmp .ne 9, 3) := by decide +kernel
theorem dX5_mount_113 : decode cX5_mount 113 = .ok (.ldc2_w 168, 3) := by decide +kernel
theorem dX5_mount_116 : decode cX5_mount 116 = .ok (.goto 12, 3) := by decide +kernel
theorem dX5_mount_119 : decode cX5_mount 119 = .ok (.iload_n 1, 1) := by decide +kernel
theorem dX5_mount_120 : decode cX5_mount 120 = .ok (.iload_n 1, 1) := by decide +kernel
theorem dX5_mount_121 : decode cX5_mount 121 = .ok (.invokestatic 94, 3) := by decide +kernel
theorem dX5_mount_124 : decode cX5_mount 124 = .ok (.iconst 0, 1) := by decide +kernel
theorem dX5_mount_125 : decode cX5_mount 125 = .ok (.invokestatic 114, 3) := by decide +kernel
theorem dX5_mount_128 : decode cX5_mount 128 = .ok (.lastore, 1) := by decide +kernel
theorem dX5_mount_129 : decode cX5_mount 129 = .ok (.iload_n 2, 1) := by decide +kernel
theorem dX5_mount_130 : decode cX5_mount 130 = .ok (.ireturn, 1) := by decide +kernel
theorem dX5_link_0 : decode cX5_link 0 = .ok (.aload_n 0, 1) := by decide +kernel
theorem dX5_link_1 : decode cX5_link 1 = .ok (.getfield 13, 3) := by decide +kernel
theorem dX5_link_4 : decode cX5_link 4 = .ok (.iload_n 1, 1) := by decide +kernel
theorem dX5_link_5 : decode cX5_link 5 = .ok (.iaload, 1) := by decide +kernel
theorem dX5_link_6 : decode cX5_link 6 = .ok (.bipush 6, 2) := by decide +kernel
theorem dX5_link_8 : decode cX5_link 8 = .ok (.if_icmp .ne 9, 3) := by decide +kernel
theorem dX5_link_11 : decode cX5_link 11 = .ok (.aload_n 0, 1) := by decide +kernel
theorem dX5_link_12 : decode cX5_link 12 = .ok (.iconst 3, 1) := by decide +kernel
theorem dX5_link_13 : decode cX5_link 13 = .ok (.invokevirtual 161, 3) := by decide +kernel
theorem dX5_link_16 : decode cX5_link 16 = .ok (.ireturn, 1) := by decide +kernel
theorem dX5_link_17 : decode cX5_link 17 = .ok (.bipush 6, 2) := by decide +kernel
theorem dX5_link_19 : decode cX5_link 19 = .ok (.iload_n 1, 1) := by decide +kernel
theorem dX5_link_20 : decode cX5_link 20 = .ok (.imul, 1) := by decide +kernel
theorem dX5_link_21 : decode cX5_link 21 = .ok (.aload_n 0, 1) := by decide +kernel
theorem dX5_link_22 : decode cX5_link 22 = .ok (.getfield 13, 3) := by decide +kernel
theorem dX5_link_25 : decode cX5_link 25 = .ok (.iload_n 1, 1) := by decide +kernel
theorem dX5_link_26 : decode cX5_link 26 = .ok (.iaload, 1) := by decide +kernel
theorem dX5_link_27 : decode cX5_link 27 = .ok (.iadd, 1) := by decide +kernel
theorem dX5_link_28 : decode cX5_link 28 = .ok (.istore 6, 2) := by decide +kernel
theorem dX5_link_30 : decode cX5_link 30 = .ok (.aload_n 0, 1) := by decide +kernel
theorem dX5_link_31 : decode cX5_link 31 = .ok (.getfield 16, 3) := by decide +kernel
theorem dX5_link_34 : decode cX5_link 34 = .ok (.iload 6, 2) := by decide +kernel
theorem dX5_link_36 : decode cX5_link 36 = .ok (.iload_n 2, 1) := by decide +kernel
theorem dX5_link_37 : decode cX5_link 37 = .ok (.iastore, 1) := by decide +kernel
theorem dX5_link_38 : decode cX5_link 38 = .ok (.aload_n 0, 1) := by decide +kernel
theorem dX5_link_39 : decode cX5_link 39 = .ok (.getfield 22, 3) := by decide +kernel
theorem dX5_link_42 : decode cX5_link 42 = .ok (.iload 6, 2) := by decide +kernel
theorem dX5_link_44 : decode cX5_link 44 = .ok (.lload_n 3, 1) := by decide +kernel
theorem dX5_link_45 : decode cX5_link 45 = .ok (.lastore, 1) := by decide +kernel
theorem dX5_link_46 : decode cX5_link 46 = .ok (.aload_n 0, 1) := by decide +kernel
theorem dX5_link_47 : decode cX5_link 47 = .ok (.getfield 19, 3) := by decide +kernel
theorem dX5_link_50 : decode cX5_link 50 = .ok (.iload 6, 2) := by decide +kernel
theorem dX5_link_52 : decode cX5_link 52 = .ok (.iload 5, 2) := by decide +kernel
theorem dX5_link_54 : decode cX5_link 54 = .ok (.iastore, 1) := by decide +kernel
theorem dX5_link_55 : decode cX5_link 55 = .ok (.aload_n 0, 1) := by decide +kernel
theorem dX5_link_56 : decode cX5_link 56 = .ok (.getfield 13, 3) := by decide +kernel
theorem dX5_link_59 : decode cX5_link 59 = .ok (.iload_n 1, 1) := by decide +kernel
theorem dX5_link_60 : decode cX5_link 60 = .ok (.dup2, 1) := by decide +kernel
theorem dX5_link_61 : decode cX5_link 61 = .ok (.iaload, 1) := by decide +kernel
theorem dX5_link_62 : decode cX5_link 62 = .ok (.iconst 1, 1) := by decide +kernel
theorem dX5_link_63 : decode cX5_link 63 = .ok (.iadd, 1) := by decide +kernel
theorem dX5_link_64 : decode cX5_link 64 = .ok (.iastore, 1) := by decide +kernel
theorem dX5_link_65 : decode cX5_link 65 = .ok (.aload_n 0, 1) := by decide +kernel
theorem dX5_link_66 : decode cX5_link 66 = .ok (.getfield 13, 3) := by decide +kernel
theorem dX5_link_69 : decode cX5_link 69 = .ok (.iload_n 1, 1) := by decide +kernel
theorem dX5_link_70 : decode cX5_link 70 = .ok (.iaload, 1) := by decide +kernel
theorem dX5_link_71 : decode cX5_link 71 = .ok (.ireturn, 1) := by decide +kernel
theorem dX5_step_0 : decode cX5_step 0 = .ok (.aload_n 0, 1) := by decide +kernel
theorem dX5_step_1 : decode cX5_step 1 = .ok (.iconst 0, 1) := by decide +kernel
theorem dX5_step_2 : decode cX5_step 2 = .ok (.putfield 53, 3) := by decide +kernel
theorem dX5_step_5 : decode cX5_step 5 = .ok (.aload_n 0, 1) := by decide +kernel
theorem dX5_step_6 : decode cX5_step 6 = .ok (.iload_n 1, 1) := by decide +kernel
theorem dX5_step_7 : decode cX5_step 7 = .ok (.invokevirtual 170, 3) := by decide +kernel
theorem dX5_step_10 : decode cX5_step 10 = .ok (.ifCond .ne 9, 3) := by decide +kernel
theorem dX5_step_13 : decode cX5_step 13 = .ok (.aload_n 0, 1) := by decide +kernel
theorem dX5_step_14 : decode cX5_step 14 = .ok (.iconst 1, 1) := by decide +kernel
theorem dX5_step_15 : decode cX5_step 15 = .ok (.invokevirtual 161, 3) := by decide +kernel
theorem dX5_step_18 : decode cX5_step 18 = .ok (.ireturn, 1) := by decide +kernel
theorem dX5_step_19 : decode cX5_step 19 = .ok (.aload_n 0, 1) := by decide +kernel
theorem dX5_step_20 : decode cX5_step 20 = .ok (.getfield 7, 3) := by decide +kernel
theorem dX5_step_23 : decode cX5_step 23 = .ok (.iload_n 1, 1) := by decide +kernel
theorem dX5_step_24 : decode cX5_step 24 = .ok (.iaload, 1) := by decide +kernel
theorem dX5_step_25 : decode cX5_step 25 = .ok (.istore 5, 2) := by decide +kernel
theorem dX5_step_27 : decode cX5_step 27 = .ok (.iload 5, 2) := by decide +kernel
theorem dX5_step_29 : decode cX5_step 29 = .ok (.iload_n 2, 1) := by decide +kernel
theorem dX5_step_30 : decode cX5_step 30 = .ok (.invokestatic 173, 3) := by decide +kernel
theorem dX5_step_33 : decode cX5_step 33 = .ok (.ifCond .eq 19, 3) := by decide +kernel
theorem dX5_step_36 : decode cX5_step 36 = .ok (.iload_n 2, 1) := by decide +kernel
theorem dX5_step_37 : decode cX5_step 37 = .ok (.invokestatic 177, 3) := by decide +kernel
theorem dX5_step_40 : decode cX5_step 40 = .ok (.ifCond .eq 18, 3) := by decide +kernel
theorem dX5_step_43 : decode cX5_step 43 = .ok (.iload 5, 2) := by decide +kernel
theorem dX5_step_45 : decode cX5_step 45 = .ok (.lload_n 3, 1) := by decide +kernel
theorem dX5_step_46 : decode cX5_step 46 = .ok (.invokestatic 180, 3) := by decide +kernel
theorem dX5_step_49 : decode cX5_step 49 = .ok (.ifCond .eq 9, 3) := by decide +kernel
theorem dX5_step_52 : decode cX5_step 52 = .ok (.aload_n 0, 1) := by decide +kernel
theorem dX5_step_53 : decode cX5_step 53 = .ok (.iconst 2, 1) := by decide +kernel
theorem dX5_step_54 : decode cX5_step 54 = .ok (.invokevirtual 161, 3) := by decide +kernel
theorem dX5_step_57 : decode cX5_step 57 = .ok (.ireturn, 1) := by decide +kernel
theorem dX5_step_58 : decode cX5_step 58 = .ok (.aload_n 0, 1) := by decide +kernel
theorem dX5_step_59 : decode cX5_step 59 = .ok (.iload_n 1, 1) := by decide +kernel
theorem dX5_step_60 : decode cX5_step 60 = .ok (.iload_n 2, 1) := by decide +kernel
theorem dX5_step_61 : decode cX5_step 61 = .ok (.iload 5, 2) := by decide +kernel
theorem dX5_step_63 : decode cX5_step 63 = .ok (.lload_n 3, 1) := by decide +kernel
theorem dX5_step_64 : decode cX5_step 64 = .ok (.invokestatic 88, 3) := by decide +kernel
theorem dX5_step_67 : decode cX5_step 67 = .ok (.iconst (-1), 1) := by decide +kernel
theorem dX5_step_68 : decode cX5_step 68 = .ok (.invokevirtual 183, 3) := by decide +kernel
theorem dX5_step_71 : decode cX5_step 71 = .ok (.ireturn, 1) := by decide +kernel
theorem dX5_follow_0 : decode cX5_follow 0 = .ok (.aload_n 0, 1) := by decide +kernel
theorem dX5_follow_1 : decode cX5_follow 1 = .ok (.iconst 0, 1) := by decide +kernel
theorem dX5_follow_2 : decode cX5_follow 2 = .ok (.putfield 53, 3) := by decide +kernel
theorem dX5_follow_5 : decode cX5_follow 5 = .ok (.aload_n 0, 1) := by decide +kernel
theorem dX5_follow_6 : decode cX5_follow 6 = .ok (.iload_n 1, 1) := by decide +kernel
theorem dX5_follow_7 : decode cX5_follow 7 = .ok (.invokevirtual 170, 3) := by decide +kernel
theorem dX5_follow_10 : decode cX5_follow 10 = .ok (.ifCond .eq 11, 3) := by decide +kernel
theorem dX5_follow_13 : decode cX5_follow 13 = .ok (.aload_n 0, 1) := by decide +kernel
theorem dX5_follow_14 : decode cX5_follow 14 = .ok (.iload_n 3, 1) := by decide +kernel
theorem dX5_follow_15 : decode cX5_follow 15 = .ok (.invokevirtual 170, 3) := by decide +kernel
theorem dX5_follow_18 : decode cX5_follow 18 = .ok (.ifCond .ne 9, 3) := by decide +kernel
theorem dX5_follow_21 : decode cX5_follow 21 = .ok (.aload_n 0, 1) := by decide +kernel
theorem dX5_follow_22 : decode cX5_follow 22 = .ok (.iconst 1, 1) := by decide +kernel
theorem dX5_follow_23 : decode cX5_follow 23 = .ok (.invokevirtual 161, 3) := by decide +kernel
theorem dX5_follow_26 : decode cX5_follow 26 = .ok (.ireturn, 1) := by decide +kernel
theorem dX5_follow_27 : decode cX5_follow 27 = .ok (.aload_n 0, 1) := by decide +kernel
theorem dX5_follow_28 : decode cX5_follow 28 = .ok (.getfield 7, 3) := by decide +kernel
theorem dX5_follow_31 : decode cX5_follow 31 = .ok (.iload_n 1, 1) := by decide +kernel
theorem dX5_follow_32 : decode cX5_follow 32 = .ok (.iaload, 1) := by decide +kernel
theorem dX5_follow_33 : decode cX5_follow 33 = .ok (.iload_n 2, 1) := by decide +kernel
theorem dX5_follow_34 : decode cX5_follow 34 = .ok (.invokestatic 173, 3) := by decide +kernel
theorem dX5_follow_37 : decode cX5_follow 37 = .ok (.ifCond .eq 25, 3) := by decide +kernel
theorem dX5_follow_40 : decode cX5_follow 40 = .ok (.iload_n 2, 1) := by decide +kernel
theorem dX5_follow_41 : decode cX5_follow 41 = .ok (.invokestatic 177, 3) := by decide +kernel
theorem dX5_follow_44 : decode cX5_follow 44 = .ok (.ifCond .eq 18, 3) := by decide +kernel
theorem dX5_follow_47 : decode cX5_follow 47 = .ok (.aload_n 0, 1) := by decide +kernel
theorem dX5_follow_48 : decode cX5_follow 48 = .ok (.getfield 7, 3) := by decide +kernel
theorem dX5_follow_51 : decode cX5_follow 51 = .ok (.iload_n 3, 1) := by decide +kernel
theorem dX5_follow_52 : decode cX5_follow 52 = .ok (.iaload, 1) := by decide +kernel
theorem dX5_follow_53 : decode cX5_follow 53 = .ok (.aload_n 0, 1) := by decide +kernel
theorem dX5_follow_54 : decode cX5_follow 54 = .ok (.getfield 7, 3) := by decide +kernel
theorem dX5_follow_57 : decode cX5_follow 57 = .ok (.iload_n 1, 1) := by decide +kernel
theorem dX5_follow_58 : decode cX5_follow 58 = .ok (.iaload, 1) := by decide +kernel
theorem dX5_follow_59 : decode cX5_follow 59 = .ok (.if_icmp .eq 9, 3) := by decide +kernel
theorem dX5_follow_62 : decode cX5_follow 62 = .ok (.aload_n 0, 1) := by decide +kernel
theorem dX5_follow_63 : decode cX5_follow 63 = .ok (.iconst 2, 1) := by decide +kernel
theorem dX5_follow_64 : decode cX5_follow 64 = .ok (.invokevirtual 161, 3) := by decide +kernel
theorem dX5_follow_67 : decode cX5_follow 67 = .ok (.ireturn, 1) := by decide +kernel
theorem dX5_follow_68 : decode cX5_follow 68 = .ok (.aload_n 0, 1) := by decide +kernel
theorem dX5_follow_69 : decode cX5_follow 69 = .ok (.iload_n 1, 1) := by decide +kernel
theorem dX5_follow_70 : decode cX5_follow 70 = .ok (.iload_n 2, 1) := by decide +kernel
theorem dX5_follow_71 : decode cX5_follow 71 = .ok (.lconst 0, 1) := by decide +kernel
theorem dX5_follow_72 : decode cX5_follow 72 = .ok (.iload_n 3, 1) := by decide +kernel
theorem dX5_follow_73 : decode cX5_follow 73 = .ok (.invokevirtual 183, 3) := by decide +kernel
theorem dX5_follow_76 : decode cX5_follow 76 = .ok (.ireturn, 1) := by decide +kernel
theorem dX5_limits_0 : decode cX5_limits 0 = .ok (.aload_n 0, 1) := by decide +kernel
theorem dX5_limits_1 : decode cX5_limits 1 = .ok (.iconst 0, 1) := by decide +kernel
theorem dX5_limits_2 : decode cX5_limits 2 = .ok (.putfield 53, 3) := by decide +kernel
theorem dX5_limits_5 : decode cX5_limits 5 = .ok (.aload_n 0, 1) := by decide +kernel
theorem dX5_limits_6 : decode cX5_limits 6 = .ok (.iload_n 1, 1) := by decide +kernel
theorem dX5_limits_7 : decode cX5_limits 7 = .ok (.invokevirtual 170, 3) := by decide +kernel
theorem dX5_limits_10 : decode cX5_limits 10 = .ok (.ifCond .ne 17, 3) := by decide +kernel
theorem dX5_limits_13 : decode cX5_limits 13 = .ok (.aload_n 0, 1) := by decide +kernel
theorem dX5_limits_14 : decode cX5_limits 14 = .ok (.iconst 1, 1) := by decide +kernel
theorem dX5_limits_15 : decode cX5_limits 15 = .ok (.invokevirtual 161, 3) := by decide +kernel
theorem dX5_limits_18 : decode cX5_limits 18 = .ok (.ifCond .le 7, 3) := by decide +kernel
theorem dX5_limits_21 : decode cX5_limits 21 = .ok (.iconst 1, 1) := by decide +kernel
theorem dX5_limits_22 : decode cX5_limits 22 = .ok (.goto 4, 3) := by decide +kernel
theorem dX5_limits_25 : decode cX5_limits 25 = .ok (.iconst 0, 1) := by decide +kernel
theorem dX5_limits_26 : decode cX5_limits 26 = .ok (.ireturn, 1) := by decide +kernel
theorem dX5_limits_27 : decode cX5_limits 27 = .ok (.aload_n 0, 1) := by decide +kernel
theorem dX5_limits_28 : decode cX5_limits 28 = .ok (.getfield 7, 3) := by decide +kernel
theorem dX5_limits_31 : decode cX5_limits 31 = .ok (.iload_n 1, 1) := by decide +kernel
theorem dX5_limits_32 : decode cX5_limits 32 = .ok (.iaload, 1) := by decide +kernel
theorem dX5_limits_33 : decode cX5_limits 33 = .ok (.istore 6, 2) := by decide +kernel
theorem dX5_limits_35 : decode cX5_limits 35 = .ok (.iload 6, 2) := by decide +kernel
theorem dX5_limits_37 : decode cX5_limits 37 = .ok (.lload_n 2, 1) := by decide +kernel
theorem dX5_limits_38 : decode cX5_limits 38 = .ok (.invokestatic 180, 3) := by decide +kernel
theorem dX5_limits_41 : decode cX5_limits 41 = .ok (.ifCond .ne 13, 3) := by decide +kernel
theorem dX5_limits_44 : decode cX5_limits 44 = .ok (.iload 6, 2) := by decide +kernel
theorem dX5_limits_46 : decode cX5_limits 46 = .ok (.lload 4, 2) := by decide +kernel
theorem dX5_limits_48 : decode cX5_limits 48 = .ok (.invokestatic 180, 3) := by decide +kernel
theorem dX5_limits_51 : decode cX5_limits 51 = .ok (.ifCond .eq 17, 3) := by decide +kernel
theorem dX5_limits_54 : decode cX5_limits 54 = .ok (.aload_n 0, 1) := by decide +kernel
theorem dX5_limits_55 : decode cX5_limits 55 = .ok (.iconst 2, 1) := by decide +kernel
theorem dX5_limits_56 : decode cX5_limits 56 = .ok (.invokevirtual 161, 3) := by decide +kernel
theorem dX5_limits_59 : decode cX5_limits 59 = .ok (.ifCond .le 7, 3) := by decide +kernel
theorem dX5_limits_62 : decode cX5_limits 62 = .ok (.iconst 1, 1) := by decide +kernel
theorem dX5_limits_63 : decode cX5_limits 63 = .ok (.goto 4, 3) := by decide +kernel
theorem dX5_limits_66 : decode cX5_limits 66 = .ok (.iconst 0, 1) := by decide +kernel
theorem dX5_limits_67 : decode cX5_limits 67 = .ok (.ireturn, 1) := by decide +kernel
theorem dX5_limits_68 : decode cX5_limits 68 = .ok (.aload_n 0, 1) := by decide +kernel
theorem dX5_limits_69 : decode cX5_limits 69 = .ok (.getfield 26, 3) := by decide +kernel
theorem dX5_limits_72 : decode cX5_limits 72 = .ok (.iload_n 1, 1) := by decide +kernel
theorem dX5_limits_73 : decode cX5_limits 73 = .ok (.iload 6, 2) := by decide +kernel
theorem dX5_limits_75 : decode cX5_limits 75 = .ok (.lload_n 2, 1) := by decide +kernel
theorem dX5_limits_76 : decode cX5_limits 76 = .ok (.invokestatic 88, 3) := by decide +kernel
theorem dX5_limits_79 : decode cX5_limits 79 = .ok (.lastore, 1) := by decide +kernel
theorem dX5_limits_80 : decode cX5_limits 80 = .ok (.aload_n 0, 1) := by decide +kernel
theorem dX5_limits_81 : decode cX5_limits 81 = .ok (.getfield 29, 3) := by decide +kernel
theorem dX5_limits_84 : decode cX5_limits 84 = .ok (.iload_n 1, 1) := by decide +kernel
theorem dX5_limits_85 : decode cX5_limits 85 = .ok (.iload 6, 2) := by decide +kernel
theorem dX5_limits_87 : decode cX5_limits 87 = .ok (.lload 4, 2) := by decide +kernel
theorem dX5_limits_89 : decode cX5_limits 89 = .ok (.invokestatic 88, 3) := by decide +kernel
theorem dX5_limits_92 : decode cX5_limits 92 = .ok (.lastore, 1) := by decide +kernel
theorem dX5_limits_93 : decode cX5_limits 93 = .ok (.iload 6, 2) := by decide +kernel
theorem dX5_limits_95 : decode cX5_limits 95 = .ok (.aload_n 0, 1) := by decide +kernel
theorem dX5_limits_96 : decode cX5_limits 96 = .ok (.getfield 26, 3) := by decide +kernel
theorem dX5_limits_99 : decode cX5_limits 99 = .ok (.iload_n 1, 1) := by decide +kernel
theorem dX5_limits_100 : decode cX5_limits 100 = .ok (.laload, 1) := by decide +kernel
theorem dX5_limits_101 : decode cX5_limits 101 = .ok (.aload_n 0, 1) := by decide +kernel
theorem dX5_limits_102 : decode cX5_limits 102 = .ok (.getfield 29, 3) := by decide +kernel
theorem dX5_limits_105 : decode cX5_limits 105 = .ok (.iload_n 1, 1) := by decide +kernel
theorem dX5_limits_106 : decode cX5_limits 106 = .ok (.laload, 1) := by decide +kernel
theorem dX5_limits_107 : decode cX5_limits 107 = .ok (.invokestatic 187, 3) := by decide +kernel
theorem dX5_limits_110 : decode cX5_limits 110 = .ok (.ifCond .ne 7, 3) := by decide +kernel
theorem dX5_limits_113 : decode cX5_limits 113 = .ok (.iconst 1, 1) := by decide +kernel
theorem dX5_limits_114 : decode cX5_limits 114 = .ok (.goto 4, 3) := by decide +kernel
theorem dX5_limits_117 : decode cX5_limits 117 = .ok (.iconst 0, 1) := by decide +kernel
theorem dX5_limits_118 : decode cX5_limits 118 = .ok (.ireturn, 1) := by decide +kernel
theorem dX5_latest_0 : decode cX5_latest 0 = .ok (.aload_n 0, 1) := by decide +kernel
theorem dX5_latest_1 : decode cX5_latest 1 = .ok (.getfield 32, 3) := by decide +kernel
theorem dX5_latest_4 : decode cX5_latest 4 = .ok (.iload_n 1, 1) := by decide +kernel
theorem dX5_latest_5 : decode cX5_latest 5 = .ok (.iaload, 1) := by decide +kernel
theorem dX5_latest_6 : decode cX5_latest 6 = .ok (.ifCond .ne 7, 3) := by decide +kernel
theorem dX5_latest_9 : decode cX5_latest 9 = .ok (.lconst 0, 1) := by decide +kernel
theorem dX5_latest_10 : decode cX5_latest 10 = .ok (.goto 24, 3) := by decide +kernel
theorem dX5_latest_13 : decode cX5_latest 13 = .ok (.aload_n 0, 1) := by decide +kernel
theorem dX5_latest_14 : decode cX5_latest 14 = .ok (.getfield 35, 3) := by decide +kernel
theorem dX5_latest_17 : decode cX5_latest 17 = .ok (.bipush 16, 2) := by decide +kernel
theorem dX5_latest_19 : decode cX5_latest 19 = .ok (.iload_n 1, 1) := by decide +kernel
theorem dX5_latest_20 : decode cX5_latest 20 = .ok (.imul, 1) := by decide +kernel
theorem dX5_latest_21 : decode cX5_latest 21 = .ok (.aload_n 0, 1) := by decide +kernel
theorem dX5_latest_22 : decode cX5_latest 22 = .ok (.getfield 32, 3) := by decide +kernel
theorem dX5_latest_25 : decode cX5_latest 25 = .ok (.iload_n 1, 1) := by decide +kernel
theorem dX5_latest_26 : decode cX5_latest 26 = .ok (.iaload, 1) := by decide +kernel
theorem dX5_latest_27 : decode cX5_latest 27 = .ok (.iconst 1, 1) := by decide +kernel
theorem dX5_latest_28 : decode cX5_latest 28 = .ok (.isub, 1) := by decide +kernel
theorem dX5_latest_29 : decode cX5_latest 29 = .ok (.bipush 16, 2) := by decide +kernel
theorem dX5_latest_31 : decode cX5_latest 31 = .ok (.irem, 1) := by decide +kernel
theorem dX5_latest_32 : decode cX5_latest 32 = .ok (.iadd, 1) := by decide +kernel
theorem dX5_latest_33 : decode cX5_latest 33 = .ok (.laload, 1) := by decide +kernel
theorem dX5_latest_34 : decode cX5_latest 34 = .ok (.lreturn, 1) := by decide +kernel
theorem dX5_through_0 : decode cX5_through 0 = .ok (.lload_n 2, 1) := by decide +kernel
theorem dX5_through_1 : decode cX5_through 1 = .ok (.lstore 4, 2) := by decide +kernel
theorem dX5_through_3 : decode cX5_through 3 = .ok (.bipush 6, 2) := by decide +kernel
theorem dX5_through_5 : decode cX5_through 5 = .ok (.iload_n 1, 1) := by decide +kernel
theorem dX5_through_6 : decode cX5_through 6 = .ok (.imul, 1) := by decide +kernel
theorem dX5_through_7 : decode cX5_through 7 = .ok (.istore 6, 2) := by decide +kernel
theorem dX5_through_9 : decode cX5_through 9 = .ok (.iload 6, 2) := by decide +kernel
theorem dX5_through_11 : decode cX5_through 11 = .ok (.bipush 6, 2) := by decide +kernel
theorem dX5_through_13 : decode cX5_through 13 = .ok (.iload_n 1, 1) := by decide +kernel
theorem dX5_through_14 : decode cX5_through 14 = .ok (.imul, 1) := by decide +kernel
theorem dX5_through_15 : decode cX5_through 15 = .ok (.aload_n 0, 1) := by decide +kernel
theorem dX5_through_16 : decode cX5_through 16 = .ok (.getfield 13, 3) := by decide +kernel
theorem dX5_through_19 : decode cX5_through 19 = .ok (.iload_n 1, 1) := by decide +kernel
theorem dX5_through_20 : decode cX5_through 20 = .ok (.iaload, 1) := by decide +kernel
theorem dX5_through_21 : decode cX5_through 21 = .ok (.iadd, 1) := by decide +kernel
theorem dX5_through_22 : decode cX5_through 22 = .ok (.if_icmp .ge 74, 3) := by decide +kernel
theorem dX5_through_25 : decode cX5_through 25 = .ok (.aload_n 0, 1) := by decide +kernel
theorem dX5_through_26 : decode cX5_through 26 = .ok (.getfield 19, 3) := by decide +kernel
theorem dX5_through_29 : decode cX5_through 29 = .ok (.iload 6, 2) := by decide +kernel
theorem dX5_through_31 : decode cX5_through 31 = .ok (.iaload, 1) := by decide +kernel
theorem dX5_through_32 : decode cX5_through 32 = .ok (.ifCond .ge 13, 3) := by decide +kernel
theorem dX5_through_35 : decode cX5_through 35 = .ok (.aload_n 0, 1) := by decide +kernel
theorem dX5_through_36 : decode cX5_through 36 = .ok (.getfield 22, 3) := by decide +kernel
theorem dX5_through_39 : decode cX5_through 39 = .ok (.iload 6, 2) := by decide +kernel
theorem dX5_through_41 : decode cX5_through 41 = .ok (.laload, 1) := by decide +kernel
theorem dX5_through_42 : decode cX5_through 42 = .ok (.goto 14, 3) := by decide +kernel
theorem dX5_through_45 : decode cX5_through 45 = .ok (.aload_n 0, 1) := by decide +kernel
theorem dX5_through_46 : decode cX5_through 46 = .ok (.aload_n 0, 1) := by decide +kernel
theorem dX5_through_47 : decode cX5_through 47 = .ok (.getfield 19, 3) := by decide +kernel
theorem dX5_through_50 : decode cX5_through 50 = .ok (.iload 6, 2) := by decide +kernel
theorem dX5_through_52 : decode cX5_through 52 = .ok (.iaload, 1) := by decide +kernel
theorem dX5_through_53 : decode cX5_through 53 = .ok (.invokevirtual 191, 3) := by decide +kernel
theorem dX5_through_56 : decode cX5_through 56 = .ok (.lstore 7, 2) := by decide +kernel
theorem dX5_through_58 : decode cX5_through 58 = .ok (.aload_n 0, 1) := by decide +kernel
theorem dX5_through_59 : decode cX5_through 59 = .ok (.getfield 7, 3) := by decide +kernel
theorem dX5_through_62 : decode cX5_through 62 = .ok (.iload_n 1, 1) := by decide +kernel
theorem dX5_through_63 : decode cX5_through 63 = .ok (.iaload, 1) := by decide +kernel
theorem dX5_through_64 : decode cX5_through 64 = .ok (.aload_n 0, 1) := by decide +kernel
theorem dX5_through_65 : decode cX5_through 65 = .ok (.getfield 16, 3) := by decide +kernel
theorem dX5_through_68 : decode cX5_through 68 = .ok (.iload 6, 2) := by decide +kernel
theorem dX5_through_70 : decode cX5_through 70 = .ok (.iaload, 1) := by decide +kernel
theorem dX5_through_71 : decode cX5_through 71 = .ok (.lload 4, 2) := by decide +kernel
theorem dX5_through_73 : decode cX5_through 73 = .ok (.lload 7, 2) := by decide +kernel
theorem dX5_through_75 : decode cX5_through 75 = .ok (.invokestatic 194, 3) := by decide +kernel
theorem dX5_through_78 : decode cX5_through 78 = .ok (.lstore 4, 2) := by decide +kernel
theorem dX5_through_80 : decode cX5_through 80 = .ok (.aload_n 0, 1) := by decide +kernel
theorem dX5_through_81 : decode cX5_through 81 = .ok (.dup, 1) := by decide +kernel
theorem dX5_through_82 : decode cX5_through 82 = .ok (.getfield 198, 3) := by decide +kernel
theorem dX5_through_85 : decode cX5_through 85 = .ok (.iconst 1, 1) := by decide +kernel
theorem dX5_through_86 : decode cX5_through 86 = .ok (.iadd, 1) := by decide +kernel
theorem dX5_through_87 : decode cX5_through 87 = .ok (.putfield 198, 3) := by decide +kernel
theorem dX5_through_90 : decode cX5_through 90 = .ok (.iinc 6 1, 3) := by decide +kernel
theorem dX5_through_93 : decode cX5_through 93 = .ok (.goto (-84), 3) := by decide +kernel
theorem dX5_through_96 : decode cX5_through 96 = .ok (.lload 4, 2) := by decide +kernel
theorem dX5_through_98 : decode cX5_through 98 = .ok (.lreturn, 1) := by decide +kernel
theorem dX5_read_0 : decode cX5_read 0 = .ok (.aload_n 0, 1) := by decide +kernel
theorem dX5_read_1 : decode cX5_read 1 = .ok (.iconst 0, 1) := by decide +kernel
theorem dX5_read_2 : decode cX5_read 2 = .ok (.putfield 53, 3) := by decide +kernel
theorem dX5_read_5 : decode cX5_read 5 = .ok (.aload_n 0, 1) := by decide +kernel
theorem dX5_read_6 : decode cX5_read 6 = .ok (.iload_n 1, 1) := by decide +kernel
theorem dX5_read_7 : decode cX5_read 7 = .ok (.invokevirtual 170, 3) := by decide +kernel
theorem dX5_read_10 : decode cX5_read 10 = .ok (.ifCond .ne 10, 3) := by decide +kernel
theorem dX5_read_13 : decode cX5_read 13 = .ok (.aload_n 0, 1) := by decide +kernel
theorem dX5_read_14 : decode cX5_read 14 = .ok (.iconst 1, 1) := by decide +kernel
theorem dX5_read_15 : decode cX5_read 15 = .ok (.invokevirtual 161, 3) := by decide +kernel
theorem dX5_read_18 : decode cX5_read 18 = .ok (.i2l, 1) := by decide +kernel
theorem dX5_read_19 : decode cX5_read 19 = .ok (.lreturn, 1) := by decide +kernel
theorem dX5_read_20 : decode cX5_read 20 = .ok (.iload_n 1, 1) := by decide +kernel
theorem dX5_read_21 : decode cX5_read 21 = .ok (.istore 4, 2) := by decide +kernel
theorem dX5_read_23 : decode cX5_read 23 = .ok (.aload_n 0, 1) := by decide +kernel
theorem dX5_read_24 : decode cX5_read 24 = .ok (.getfield 7, 3) := by decide +kernel
theorem dX5_read_27 : decode cX5_read 27 = .ok (.iload 4, 2) := by decide +kernel
theorem dX5_read_29 : decode cX5_read 29 = .ok (.iaload, 1) := by decide +kernel
theorem dX5_read_30 : decode cX5_read 30 = .ok (.istore 5, 2) := by decide +kernel
theorem dX5_read_32 : decode cX5_read 32 = .ok (.iload 5, 2) := by decide +kernel
theorem dX5_read_34 : decode cX5_read 34 = .ok (.lload_n 2, 1) := by decide +kernel
theorem dX5_read_35 : decode cX5_read 35 = .ok (.invokestatic 180, 3) := by decide +kernel
theorem dX5_read_38 : decode cX5_read 38 = .ok (.ifCond .eq 10, 3) := by decide +kernel
theorem dX5_read_41 : decode cX5_read 41 = .ok (.aload_n 0, 1) := by decide +kernel
theorem dX5_read_42 : decode cX5_read 42 = .ok (.iconst 2, 1) := by decide +kernel
theorem dX5_read_43 : decode cX5_read 43 = .ok (.invokevirtual 161, 3) := by decide +kernel
theorem dX5_read_46 : decode cX5_read 46 = .ok (.i2l, 1) := by decide +kernel
theorem dX5_read_47 : decode cX5_read 47 = .ok (.lreturn, 1) := by decide +kernel
theorem dX5_read_48 : decode cX5_read 48 = .ok (.aload_n 0, 1) := by decide +kernel
theorem dX5_read_49 : decode cX5_read 49 = .ok (.iload 4, 2) := by decide +kernel
theorem dX5_read_51 : decode cX5_read 51 = .ok (.iload 5, 2) := by decide +kernel
theorem dX5_read_53 : decode cX5_read 53 = .ok (.lload_n 2, 1) := by decide +kernel
theorem dX5_read_54 : decode cX5_read 54 = .ok (.invokestatic 88, 3) := by decide +kernel
theorem dX5_read_57 : decode cX5_read 57 = .ok (.invokevirtual 201, 3) := by decide +kernel
theorem dX5_read_60 : decode cX5_read 60 = .ok (.lstore 6, 2) := by decide +kernel
theorem dX5_read_62 : decode cX5_read 62 = .ok (.aload_n 0, 1) := by decide +kernel
theorem dX5_read_63 : decode cX5_read 63 = .ok (.getfield 32, 3) := by decide +kernel
theorem dX5_read_66 : decode cX5_read 66 = .ok (.iload 4, 2) := by decide +kernel
theorem dX5_read_68 : decode cX5_read 68 = .ok (.iaload, 1) := by decide +kernel
theorem dX5_read_69 : decode cX5_read 69 = .ok (.ifCond .ne 7, 3) := by decide +kernel
theorem dX5_read_72 : decode cX5_read 72 = .ok (.iconst 1, 1) := by decide +kernel
theorem dX5_read_73 : decode cX5_read 73 = .ok (.goto 4, 3) := by decide +kernel
theorem dX5_read_76 : decode cX5_read 76 = .ok (.iconst 0, 1) := by decide +kernel
theorem dX5_read_77 : decode cX5_read 77 = .ok (.istore 8, 2) := by decide +kernel
theorem dX5_read_79 : decode cX5_read 79 = .ok (.aload_n 0, 1) := by decide +kernel
theorem dX5_read_80 : decode cX5_read 80 = .ok (.getfield 44, 3) := by decide +kernel
theorem dX5_read_83 : decode cX5_read 83 = .ok (.iload 4, 2) := by decide +kernel
theorem dX5_read_85 : decode cX5_read 85 = .ok (.iload 8, 2) := by decide +kernel
theorem dX5_read_87 : decode cX5_read 87 = .ok (.ifCond .eq 7, 3) := by decide +kernel
theorem dX5_read_90 : decode cX5_read 90 = .ok (.lconst 0, 1) := by decide +kernel
theorem dX5_read_91 : decode cX5_read 91 = .ok (.goto 16, 3) := by decide +kernel
theorem dX5_read_94 : decode cX5_read 94 = .ok (.iload 5, 2) := by decide +kernel
theorem dX5_read_96 : decode cX5_read 96 = .ok (.lload 6, 2) := by decide +kernel
theorem dX5_read_98 : decode cX5_read 98 = .ok (.aload_n 0, 1) := by decide +kernel
theorem dX5_read_99 : decode cX5_read 99 = .ok (.iload 4, 2) := by decide +kernel
theorem dX5_read_101 : decode cX5_read 101 = .ok (.invokevirtual 191, 3) := by decide +kernel
theorem dX5_read_104 : decode cX5_read 104 = .ok (.invokestatic 204, 3) := by decide +kernel
theorem dX5_read_107 : decode cX5_read 107 = .ok (.lastore, 1) := by decide +kernel
theorem dX5_read_108 : decode cX5_read 108 = .ok (.aload_n 0, 1) := by decide +kernel
theorem dX5_read_109 : decode cX5_read 109 = .ok (.getfield 38, 3) := by decide +kernel
theorem dX5_read_112 : decode cX5_read 112 = .ok (.iload 4, 2) := by decide +kernel
theorem dX5_read_114 : decode cX5_read 114 = .ok (.iload 8, 2) := by decide +kernel
theorem dX5_read_116 : decode cX5_read 116 = .ok (.ifCond .eq 8, 3) := by decide +kernel
theorem dX5_read_119 : decode cX5_read 119 = .ok (.lload 6, 2) := by decide +kernel
theorem dX5_read_121 : decode cX5_read 121 = .ok (.goto 17, 3) := by decide +kernel
theorem dX5_read_124 : decode cX5_read 124 = .ok (.iload 5, 2) := by decide +kernel
theorem dX5_read_126 : decode cX5_read 126 = .ok (.aload_n 0, 1) := by decide +kernel
theorem dX5_read_127 : decode cX5_read 127 = .ok (.getfield 38, 3) := by decide +kernel
theorem dX5_read_130 : decode cX5_read 130 = .ok (.iload 4, 2) := by decide +kernel
theorem dX5_read_132 : decode cX5_read 132 = .ok (.laload, 1) := by decide +kernel
theorem dX5_read_133 : decode cX5_read 133 = .ok (.lload 6, 2) := by decide +kernel
theorem dX5_read_135 : decode cX5_read 135 = .ok (.invokestatic 127, 3) := by decide +kernel
theorem dX5_read_138 : decode cX5_read 138 = .ok (.lastore, 1) := by decide +kernel
theorem dX5_read_139 : decode cX5_read 139 = .ok (.aload_n 0, 1) := by decide +kernel
theorem dX5_read_140 : decode cX5_read 140 = .ok (.getfield 41, 3) := by decide +kernel
theorem dX5_read_143 : decode cX5_read 143 = .ok (.iload 4, 2) := by decide +kernel
theorem dX5_read_145 : decode cX5_read 145 = .ok (.iload 8, 2) := by decide +kernel
theorem dX5_read_147 : decode cX5_read 147 = .ok (.ifCond .eq 8, 3) := by decide +kernel
theorem dX5_read_150 : decode cX5_read 150 = .ok (.lload 6, 2) := by decide +kernel
theorem dX5_read_152 : decode cX5_read 152 = .ok (.goto 17, 3) := by decide +kernel
theorem dX5_read_155 : decode cX5_read 155 = .ok (.iload 5, 2) := by decide +kernel
theorem dX5_read_157 : decode cX5_read 157 = .ok (.aload_n 0, 1) := by decide +kernel
theorem dX5_read_158 : decode cX5_read 158 = .ok (.getfield 41, 3) := by decide +kernel
theorem dX5_read_161 : decode cX5_read 161 = .ok (.iload 4, 2) := by decide +kernel
theorem dX5_read_163 : decode cX5_read 163 = .ok (.laload, 1) := by decide +kernel
theorem dX5_read_164 : decode cX5_read 164 = .ok (.lload 6, 2) := by decide +kernel
theorem dX5_read_166 : decode cX5_read 166 = .ok (.invokestatic 123, 3) := by decide +kernel
theorem dX5_read_169 : decode cX5_read 169 = .ok (.lastore, 1) := by decide +kernel
theorem dX5_read_170 : decode cX5_read 170 = .ok (.aload_n 0, 1) := by decide +kernel
theorem dX5_read_171 : decode cX5_read 171 = .ok (.getfield 47, 3) := by decide +kernel
theorem dX5_read_174 : decode cX5_read 174 = .ok (.iload 4, 2) := by decide +kernel
theorem dX5_read_176 : decode cX5_read 176 = .ok (.iload 5, 2) := by decide +kernel
theorem dX5_read_178 : decode cX5_read 178 = .ok (.iload 8, 2) := by decide +kernel
theorem dX5_read_180 : decode cX5_read 180 = .ok (.ifCond .eq 7, 3) := by decide +kernel
theorem dX5_read_183 : decode cX5_read 183 = .ok (.lconst 0, 1) := by decide +kernel
theorem dX5_read_184 : decode cX5_read 184 = .ok (.goto 10, 3) := by decide +kernel
theorem dX5_read_187 : decode cX5_read 187 = .ok (.aload_n 0, 1) := by decide +kernel
theorem dX5_read_188 : decode cX5_read 188 = .ok (.getfield 47, 3) := by decide +kernel
theorem dX5_read_191 : decode cX5_read 191 = .ok (.iload 4, 2) := by decide +kernel
theorem dX5_read_193 : decode cX5_read 193 = .ok (.laload, 1) := by decide +kernel
theorem dX5_read_194 : decode cX5_read 194 = .ok (.iload 5, 2) := by decide +kernel
theorem dX5_read_196 : decode cX5_read 196 = .ok (.lload 6, 2) := by decide +kernel
theorem dX5_read_198 : decode cX5_read 198 = .ok (.invokestatic 120, 3) := by decide +kernel
theorem dX5_read_201 : decode cX5_read 201 = .ok (.invokestatic 207, 3) := by decide +kernel
theorem dX5_read_204 : decode cX5_read 204 = .ok (.lastore, 1) := by decide +kernel
theorem dX5_read_205 : decode cX5_read 205 = .ok (.aload_n 0, 1) := by decide +kernel
theorem dX5_read_206 : decode cX5_read 206 = .ok (.getfield 35, 3) := by decide +kernel
theorem dX5_read_209 : decode cX5_read 209 = .ok (.bipush 16, 2) := by decide +kernel
theorem dX5_read_211 : decode cX5_read 211 = .ok (.iload 4, 2) := by decide +kernel
theorem dX5_read_213 : decode cX5_read 213 = .ok (.imul, 1) := by decide +kernel
theorem dX5_read_214 : decode cX5_read 214 = .ok (.aload_n 0, 1) := by decide +kernel
theorem dX5_read_215 : decode cX5_read 215 = .ok (.getfield 32, 3) := by decide +kernel
theorem dX5_read_218 : decode cX5_read 218 = .ok (.iload 4, 2) := by decide +kernel
theorem dX5_read_220 : decode cX5_read 220 = .ok (.iaload, 1) := by decide +kernel
theorem dX5_read_221 : decode cX5_read 221 = .ok (.bipush 16, 2) := by decide +kernel
theorem dX5_read_223 : decode cX5_read 223 = .ok (.irem, 1) := by decide +kernel
theorem dX5_read_224 : decode cX5_read 224 = .ok (.iadd, 1) := by decide +kernel
theorem dX5_read_225 : decode cX5_read 225 = .ok (.lload 6, 2) := by decide +kernel
theorem dX5_read_227 : decode cX5_read 227 = .ok (.lastore, 1) := by decide +kernel
theorem dX5_read_228 : decode cX5_read 228 = .ok (.aload_n 0, 1) := by decide +kernel
theorem dX5_read_229 : decode cX5_read 229 = .ok (.getfield 32, 3) := by decide +kernel
theorem dX5_read_232 : decode cX5_read 232 = .ok (.iload 4, 2) := by decide +kernel
theorem dX5_read_234 : decode cX5_read 234 = .ok (.dup2, 1) := by decide +kernel
theorem dX5_read_235 : decode cX5_read 235 = .ok (.iaload, 1) := by decide +kernel
theorem dX5_read_236 : decode cX5_read 236 = .ok (.iconst 1, 1) := by decide +kernel
theorem dX5_read_237 : decode cX5_read 237 = .ok (.iadd, 1) := by decide +kernel
theorem dX5_read_238 : decode cX5_read 238 = .ok (.iastore, 1) := by decide +kernel
theorem dX5_read_239 : decode cX5_read 239 = .ok (.aload_n 0, 1) := by decide +kernel
theorem dX5_read_240 : decode cX5_read 240 = .ok (.dup, 1) := by decide +kernel
theorem dX5_read_241 : decode cX5_read 241 = .ok (.getfield 210, 3) := by decide +kernel
theorem dX5_read_244 : decode cX5_read 244 = .ok (.iconst 1, 1) := by decide +kernel
theorem dX5_read_245 : decode cX5_read 245 = .ok (.iadd, 1) := by decide +kernel
theorem dX5_read_246 : decode cX5_read 246 = .ok (.putfield 210, 3) := by decide +kernel
theorem dX5_read_249 : decode cX5_read 249 = .ok (.iload 5, 2) := by decide +kernel
theorem dX5_read_251 : decode cX5_read 251 = .ok (.aload_n 0, 1) := by decide +kernel
theorem dX5_read_252 : decode cX5_read 252 = .ok (.getfield 26, 3) := by decide +kernel
theorem dX5_read_255 : decode cX5_read 255 = .ok (.iload 4, 2) := by decide +kernel
theorem dX5_read_257 : decode cX5_read 257 = .ok (.laload, 1) := by decide +kernel
theorem dX5_read_258 : decode cX5_read 258 = .ok (.lload 6, 2) := by decide +kernel
theorem dX5_read_260 : decode cX5_read 260 = .ok (.invokestatic 187, 3) := by decide +kernel
theorem dX5_read_263 : decode cX5_read 263 = .ok (.ifCond .ne 20, 3) := by decide +kernel
theorem dX5_read_266 : decode cX5_read 266 = .ok (.iload 5, 2) := by decide +kernel
theorem dX5_read_268 : decode cX5_read 268 = .ok (.lload 6, 2) := by decide +kernel
theorem dX5_read_270 : decode cX5_read 270 = .ok (.aload_n 0, 1) := by decide +kernel
theorem dX5_read_271 : decode cX5_read 271 = .ok (.getfield 29, 3) := by decide +kernel
theorem dX5_read_274 : decode cX5_read 274 = .ok (.iload 4, 2) := by decide +kernel
theorem dX5_read_276 : decode cX5_read 276 = .ok (.laload, 1) := by decide +kernel
theorem dX5_read_277 : decode cX5_read 277 = .ok (.invokestatic 187, 3) := by decide +kernel
theorem dX5_read_280 : decode cX5_read 280 = .ok (.ifCond .eq 24, 3) := by decide +kernel
theorem dX5_read_283 : decode cX5_read 283 = .ok (.aload_n 0, 1) := by decide +kernel
theorem dX5_read_284 : decode cX5_read 284 = .ok (.getfield 50, 3) := by decide +kernel
theorem dX5_read_287 : decode cX5_read 287 = .ok (.iload 4, 2) := by decide +kernel
theorem dX5_read_289 : decode cX5_read 289 = .ok (.dup2, 1) := by decide +kernel
theorem dX5_read_290 : decode cX5_read 290 = .ok (.iaload, 1) := by decide +kernel
theorem dX5_read_291 : decode cX5_read 291 = .ok (.iconst 1, 1) := by decide +kernel
theorem dX5_read_292 : decode cX5_read 292 = .ok (.iadd, 1) := by decide +kernel
theorem dX5_read_293 : decode cX5_read 293 = .ok (.iastore, 1) := by decide +kernel
theorem dX5_read_294 : decode cX5_read 294 = .ok (.aload_n 0, 1) := by decide +kernel
theorem dX5_read_295 : decode cX5_read 295 = .ok (.dup, 1) := by decide +kernel
theorem dX5_read_296 : decode cX5_read 296 = .ok (.getfield 213, 3) := by decide +kernel
theorem dX5_read_299 : decode cX5_read 299 = .ok (.iconst 1, 1) := by decide +kernel
theorem dX5_read_300 : decode cX5_read 300 = .ok (.iadd, 1) := by decide +kernel
theorem dX5_read_301 : decode cX5_read 301 = .ok (.putfield 213, 3) := by decide +kernel
theorem dX5_read_304 : decode cX5_read 304 = .ok (.lload 6, 2) := by decide +kernel
theorem dX5_read_306 : decode cX5_read 306 = .ok (.lreturn, 1) := by decide +kernel
theorem dX5_forget_0 : decode cX5_forget 0 = .ok (.aload_n 0, 1) := by decide +kernel
theorem dX5_forget_1 : decode cX5_forget 1 = .ok (.iconst 0, 1) := by decide +kernel
theorem dX5_forget_2 : decode cX5_forget 2 = .ok (.putfield 53, 3) := by decide +kernel
theorem dX5_forget_5 : decode cX5_forget 5 = .ok (.aload_n 0, 1) := by decide +kernel
theorem dX5_forget_6 : decode cX5_forget 6 = .ok (.iload_n 1, 1) := by decide +kernel
theorem dX5_forget_7 : decode cX5_forget 7 = .ok (.invokevirtual 170, 3) := by decide +kernel
theorem dX5_forget_10 : decode cX5_forget 10 = .ok (.ifCond .ne 9, 3) := by decide +kernel
theorem dX5_forget_13 : decode cX5_forget 13 = .ok (.aload_n 0, 1) := by decide +kernel
theorem dX5_forget_14 : decode cX5_forget 14 = .ok (.iconst 1, 1) := by decide +kernel
theorem dX5_forget_15 : decode cX5_forget 15 = .ok (.invokevirtual 161, 3) := by decide +kernel
theorem dX5_forget_18 : decode cX5_forget 18 = .ok (.ireturn, 1) := by decide +kernel
theorem dX5_forget_19 : decode cX5_forget 19 = .ok (.aload_n 0, 1) := by decide +kernel
theorem dX5_forget_20 : decode cX5_forget 20 = .ok (.getfield 32, 3) := by decide +kernel
theorem dX5_forget_23 : decode cX5_forget 23 = .ok (.iload_n 1, 1) := by decide +kernel
theorem dX5_forget_24 : decode cX5_forget 24 = .ok (.iaload, 1) := by decide +kernel
theorem dX5_forget_25 : decode cX5_forget 25 = .ok (.istore_n 2, 1) := by decide +kernel
theorem dX5_forget_26 : decode cX5_forget 26 = .ok (.aload_n 0, 1) := by decide +kernel
theorem dX5_forget_27 : decode cX5_forget 27 = .ok (.getfield 32, 3) := by decide +kernel
theorem dX5_forget_30 : decode cX5_forget 30 = .ok (.iload_n 1, 1) := by decide +kernel
theorem dX5_forget_31 : decode cX5_forget 31 = .ok (.iconst 0, 1) := by decide +kernel
theorem dX5_forget_32 : decode cX5_forget 32 = .ok (.iastore, 1) := by decide +kernel
theorem dX5_forget_33 : decode cX5_forget 33 = .ok (.iload_n 2, 1) := by decide +kernel
theorem dX5_forget_34 : decode cX5_forget 34 = .ok (.ireturn, 1) := by decide +kernel
theorem dX5_reading_0 : decode cX5_reading 0 = .ok (.aload_n 0, 1) := by decide +kernel
theorem dX5_reading_1 : decode cX5_reading 1 = .ok (.iconst 0, 1) := by decide +kernel
theorem dX5_reading_2 : decode cX5_reading 2 = .ok (.putfield 53, 3) := by decide +kernel
theorem dX5_reading_5 : decode cX5_reading 5 = .ok (.aload_n 0, 1) := by decide +kernel
theorem dX5_reading_6 : decode cX5_reading 6 = .ok (.iload_n 1, 1) := by decide +kernel
theorem dX5_reading_7 : decode cX5_reading 7 = .ok (.invokevirtual 170, 3) := by decide +kernel
theorem dX5_reading_10 : decode cX5_reading 10 = .ok (.ifCond .ne 10, 3) := by decide +kernel
theorem dX5_reading_13 : decode cX5_reading 13 = .ok (.aload_n 0, 1) := by decide +kernel
theorem dX5_reading_14 : decode cX5_reading 14 = .ok (.iconst 1, 1) := by decide +kernel
theorem dX5_reading_15 : decode cX5_reading 15 = .ok (.invokevirtual 161, 3) := by decide +kernel
theorem dX5_reading_18 : decode cX5_reading 18 = .ok (.i2l, 1) := by decide +kernel
theorem dX5_reading_19 : decode cX5_reading 19 = .ok (.lreturn, 1) := by decide +kernel
theorem dX5_reading_20 : decode cX5_reading 20 = .ok (.aload_n 0, 1) := by decide +kernel
theorem dX5_reading_21 : decode cX5_reading 21 = .ok (.getfield 32, 3) := by decide +kernel
theorem dX5_reading_24 : decode cX5_reading 24 = .ok (.iload_n 1, 1) := by decide +kernel
theorem dX5_reading_25 : decode cX5_reading 25 = .ok (.iaload, 1) := by decide +kernel
theorem dX5_reading_26 : decode cX5_reading 26 = .ok (.istore_n 3, 1) := by decide +kernel
theorem dX5_reading_27 : decode cX5_reading 27 = .ok (.iload_n 2, 1) := by decide +kernel
theorem dX5_reading_28 : decode cX5_reading 28 = .ok (.ifCond .lt 14, 3) := by decide +kernel
theorem dX5_reading_31 : decode cX5_reading 31 = .ok (.iload_n 2, 1) := by decide +kernel
theorem dX5_reading_32 : decode cX5_reading 32 = .ok (.iload_n 3, 1) := by decide +kernel
theorem dX5_reading_33 : decode cX5_reading 33 = .ok (.if_icmp .ge 9, 3) := by decide +kernel
theorem dX5_reading_36 : decode cX5_reading 36 = .ok (.iload_n 2, 1) := by decide +kernel
theorem dX5_reading_37 : decode cX5_reading 37 = .ok (.bipush 16, 2) := by decide +kernel
theorem dX5_reading_39 : decode cX5_reading 39 = .ok (.if_icmp .lt 10, 3) := by decide +kernel
theorem dX5_reading_42 : decode cX5_reading 42 = .ok (.aload_n 0, 1) := by decide +kernel
theorem dX5_reading_43 : decode cX5_reading 43 = .ok (.iconst 2, 1) := by decide +kernel
theorem dX5_reading_44 : decode cX5_reading 44 = .ok (.invokevirtual 161, 3) := by decide +kernel
theorem dX5_reading_47 : decode cX5_reading 47 = .ok (.i2l, 1) := by decide +kernel
theorem dX5_reading_48 : decode cX5_reading 48 = .ok (.lreturn, 1) := by decide +kernel
theorem dX5_reading_49 : decode cX5_reading 49 = .ok (.aload_n 0, 1) := by decide +kernel
theorem dX5_reading_50 : decode cX5_reading 50 = .ok (.getfield 35, 3) := by decide +kernel
theorem dX5_reading_53 : decode cX5_reading 53 = .ok (.bipush 16, 2) := by decide +kernel
theorem dX5_reading_55 : decode cX5_reading 55 = .ok (.iload_n 1, 1) := by decide +kernel
theorem dX5_reading_56 : decode cX5_reading 56 = .ok (.imul, 1) := by decide +kernel
theorem dX5_reading_57 : decode cX5_reading 57 = .ok (.iload_n 3, 1) := by decide +kernel
theorem dX5_reading_58 : decode cX5_reading 58 = .ok (.iconst 1, 1) := by decide +kernel
theorem dX5_reading_59 : decode cX5_reading 59 = .ok (.isub, 1) := by decide +kernel
theorem dX5_reading_60 : decode cX5_reading 60 = .ok (.iload_n 2, 1) := by decide +kernel
theorem dX5_reading_61 : decode cX5_reading 61 = .ok (.isub, 1) := by decide +kernel
theorem dX5_reading_62 : decode cX5_reading 62 = .ok (.bipush 16, 2) := by decide +kernel
theorem dX5_reading_64 : decode cX5_reading 64 = .ok (.irem, 1) := by decide +kernel
end
section
theorem dX5_reading_65 : decode cX5_reading 65 = .ok (.iadd, 1) := by decide +kernel
theorem dX5_reading_66 : decode cX5_reading 66 = .ok (.laload, 1) := by decide +kernel
theorem dX5_reading_67 : decode cX5_reading 67 = .ok (.lreturn, 1) := by decide +kernel
theorem dX5_tell_0 : decode cX5_tell 0 = .ok (.aload_n 0, 1) := by decide +kernel
theorem dX5_tell_1 : decode cX5_tell 1 = .ok (.iconst 0, 1) := by decide +kernel
theorem dX5_tell_2 : decode cX5_tell 2 = .ok (.putfield 53, 3) := by decide +kernel
theorem dX5_tell_5 : decode cX5_tell 5 = .ok (.aload_n 0, 1) := by decide +kernel
theorem dX5_tell_6 : decode cX5_tell 6 = .ok (.iload_n 1, 1) := by decide +kernel
theorem dX5_tell_7 : decode cX5_tell 7 = .ok (.invokevirtual 170, 3) := by decide +kernel
theorem dX5_tell_10 : decode cX5_tell 10 = .ok (.ifCond .ne 10, 3) := by decide +kernel
theorem dX5_tell_13 : decode cX5_tell 13 = .ok (.aload_n 0, 1) := by decide +kernel
theorem dX5_tell_14 : decode cX5_tell 14 = .ok (.iconst 1, 1) := by decide +kernel
theorem dX5_tell_15 : decode cX5_tell 15 = .ok (.invokevirtual 161, 3) := by decide +kernel
theorem dX5_tell_18 : decode cX5_tell 18 = .ok (.i2l, 1) := by decide +kernel
theorem dX5_tell_19 : decode cX5_tell 19 = .ok (.lreturn, 1) := by decide +kernel
theorem dX5_tell_20 : decode cX5_tell 20 = .ok (.iload_n 2, 1) := by decide +kernel
theorem dX5_tell_21 : decode cX5_tell 21 = .ok (.ifCond .lt 8, 3) := by decide +kernel
theorem dX5_tell_24 : decode cX5_tell 24 = .ok (.iload_n 2, 1) := by decide +kernel
theorem dX5_tell_25 : decode cX5_tell 25 = .ok (.iconst 3, 1) := by decide +kernel
theorem dX5_tell_26 : decode cX5_tell 26 = .ok (.if_icmp .le 10, 3) := by decide +kernel
theorem dX5_tell_29 : decode cX5_tell 29 = .ok (.aload_n 0, 1) := by decide +kernel
theorem dX5_tell_30 : decode cX5_tell 30 = .ok (.iconst 2, 1) := by decide +kernel
theorem dX5_tell_31 : decode cX5_tell 31 = .ok (.invokevirtual 161, 3) := by decide +kernel
theorem dX5_tell_34 : decode cX5_tell 34 = .ok (.i2l, 1) := by decide +kernel
theorem dX5_tell_35 : decode cX5_tell 35 = .ok (.lreturn, 1) := by decide +kernel
theorem dX5_tell_36 : decode cX5_tell 36 = .ok (.aload_n 0, 1) := by decide +kernel
theorem dX5_tell_37 : decode cX5_tell 37 = .ok (.getfield 32, 3) := by decide +kernel
theorem dX5_tell_40 : decode cX5_tell 40 = .ok (.iload_n 1, 1) := by decide +kernel
theorem dX5_tell_41 : decode cX5_tell 41 = .ok (.iaload, 1) := by decide +kernel
theorem dX5_tell_42 : decode cX5_tell 42 = .ok (.ifCond .ne 10, 3) := by decide +kernel
theorem dX5_tell_45 : decode cX5_tell 45 = .ok (.aload_n 0, 1) := by decide +kernel
theorem dX5_tell_46 : decode cX5_tell 46 = .ok (.iconst 3, 1) := by decide +kernel
theorem dX5_tell_47 : decode cX5_tell 47 = .ok (.invokevirtual 161, 3) := by decide +kernel
theorem dX5_tell_50 : decode cX5_tell 50 = .ok (.i2l, 1) := by decide +kernel
theorem dX5_tell_51 : decode cX5_tell 51 = .ok (.lreturn, 1) := by decide +kernel
theorem dX5_tell_52 : decode cX5_tell 52 = .ok (.iload_n 2, 1) := by decide +kernel
theorem dX5_tell_53 : decode cX5_tell 53 = .ok (.ifCond .ne 12, 3) := by decide +kernel
theorem dX5_tell_56 : decode cX5_tell 56 = .ok (.aload_n 0, 1) := by decide +kernel
theorem dX5_tell_57 : decode cX5_tell 57 = .ok (.getfield 38, 3) := by decide +kernel
theorem dX5_tell_60 : decode cX5_tell 60 = .ok (.iload_n 1, 1) := by decide +kernel
theorem dX5_tell_61 : decode cX5_tell 61 = .ok (.laload, 1) := by decide +kernel
theorem dX5_tell_62 : decode cX5_tell 62 = .ok (.goto 37, 3) := by decide +kernel
theorem dX5_tell_65 : decode cX5_tell 65 = .ok (.iload_n 2, 1) := by decide +kernel
theorem dX5_tell_66 : decode cX5_tell 66 = .ok (.iconst 1, 1) := by decide +kernel
theorem dX5_tell_67 : decode cX5_tell 67 = .ok (.if_icmp .ne 12, 3) := by decide +kernel
theorem dX5_tell_70 : decode cX5_tell 70 = .ok (.aload_n 0, 1) := by decide +kernel
theorem dX5_tell_71 : decode cX5_tell 71 = .ok (.getfield 41, 3) := by decide +kernel
theorem dX5_tell_74 : decode cX5_tell 74 = .ok (.iload_n 1, 1) := by decide +kernel
theorem dX5_tell_75 : decode cX5_tell 75 = .ok (.laload, 1) := by decide +kernel
theorem dX5_tell_76 : decode cX5_tell 76 = .ok (.goto 23, 3) := by decide +kernel
theorem dX5_tell_79 : decode cX5_tell 79 = .ok (.iload_n 2, 1) := by decide +kernel
theorem dX5_tell_80 : decode cX5_tell 80 = .ok (.iconst 2, 1) := by decide +kernel
theorem dX5_tell_81 : decode cX5_tell 81 = .ok (.if_icmp .ne 12, 3) := by decide +kernel
theorem dX5_tell_84 : decode cX5_tell 84 = .ok (.aload_n 0, 1) := by decide +kernel
theorem dX5_tell_85 : decode cX5_tell 85 = .ok (.getfield 44, 3) := by decide +kernel
theorem dX5_tell_88 : decode cX5_tell 88 = .ok (.iload_n 1, 1) := by decide +kernel
theorem dX5_tell_89 : decode cX5_tell 89 = .ok (.laload, 1) := by decide +kernel
theorem dX5_tell_90 : decode cX5_tell 90 = .ok (.goto 9, 3) := by decide +kernel
theorem dX5_tell_93 : decode cX5_tell 93 = .ok (.aload_n 0, 1) := by decide +kernel
theorem dX5_tell_94 : decode cX5_tell 94 = .ok (.getfield 47, 3) := by decide +kernel
theorem dX5_tell_97 : decode cX5_tell 97 = .ok (.iload_n 1, 1) := by decide +kernel
theorem dX5_tell_98 : decode cX5_tell 98 = .ok (.laload, 1) := by decide +kernel
theorem dX5_tell_99 : decode cX5_tell 99 = .ok (.lreturn, 1) := by decide +kernel
theorem dX5_whole_0 : decode cX5_whole 0 = .ok (.aload_n 0, 1) := by decide +kernel
theorem dX5_whole_1 : decode cX5_whole 1 = .ok (.iconst 0, 1) := by decide +kernel
theorem dX5_whole_2 : decode cX5_whole 2 = .ok (.putfield 53, 3) := by decide +kernel
theorem dX5_whole_5 : decode cX5_whole 5 = .ok (.aload_n 0, 1) := by decide +kernel
theorem dX5_whole_6 : decode cX5_whole 6 = .ok (.iload_n 1, 1) := by decide +kernel
theorem dX5_whole_7 : decode cX5_whole 7 = .ok (.invokevirtual 170, 3) := by decide +kernel
theorem dX5_whole_10 : decode cX5_whole 10 = .ok (.ifCond .ne 9, 3) := by decide +kernel
theorem dX5_whole_13 : decode cX5_whole 13 = .ok (.aload_n 0, 1) := by decide +kernel
theorem dX5_whole_14 : decode cX5_whole 14 = .ok (.iconst 1, 1) := by decide +kernel
theorem dX5_whole_15 : decode cX5_whole 15 = .ok (.invokevirtual 161, 3) := by decide +kernel
theorem dX5_whole_18 : decode cX5_whole 18 = .ok (.ireturn, 1) := by decide +kernel
theorem dX5_whole_19 : decode cX5_whole 19 = .ok (.aload_n 0, 1) := by decide +kernel
theorem dX5_whole_20 : decode cX5_whole 20 = .ok (.getfield 32, 3) := by decide +kernel
theorem dX5_whole_23 : decode cX5_whole 23 = .ok (.iload_n 1, 1) := by decide +kernel
theorem dX5_whole_24 : decode cX5_whole 24 = .ok (.iaload, 1) := by decide +kernel
theorem dX5_whole_25 : decode cX5_whole 25 = .ok (.ifCond .ne 9, 3) := by decide +kernel
theorem dX5_whole_28 : decode cX5_whole 28 = .ok (.aload_n 0, 1) := by decide +kernel
theorem dX5_whole_29 : decode cX5_whole 29 = .ok (.iconst 2, 1) := by decide +kernel
theorem dX5_whole_30 : decode cX5_whole 30 = .ok (.invokevirtual 161, 3) := by decide +kernel
theorem dX5_whole_33 : decode cX5_whole 33 = .ok (.ireturn, 1) := by decide +kernel
theorem dX5_whole_34 : decode cX5_whole 34 = .ok (.aload_n 0, 1) := by decide +kernel
theorem dX5_whole_35 : decode cX5_whole 35 = .ok (.iload_n 1, 1) := by decide +kernel
theorem dX5_whole_36 : decode cX5_whole 36 = .ok (.invokevirtual 191, 3) := by decide +kernel
theorem dX5_whole_39 : decode cX5_whole 39 = .ok (.lstore_n 2, 1) := by decide +kernel
theorem dX5_whole_40 : decode cX5_whole 40 = .ok (.aload_n 0, 1) := by decide +kernel
theorem dX5_whole_41 : decode cX5_whole 41 = .ok (.getfield 7, 3) := by decide +kernel
theorem dX5_whole_44 : decode cX5_whole 44 = .ok (.iload_n 1, 1) := by decide +kernel
theorem dX5_whole_45 : decode cX5_whole 45 = .ok (.iaload, 1) := by decide +kernel
theorem dX5_whole_46 : decode cX5_whole 46 = .ok (.iconst 2, 1) := by decide +kernel
theorem dX5_whole_47 : decode cX5_whole 47 = .ok (.if_icmp .ne 9, 3) := by decide +kernel
theorem dX5_whole_50 : decode cX5_whole 50 = .ok (.lload_n 2, 1) := by decide +kernel
theorem dX5_whole_51 : decode cX5_whole 51 = .ok (.invokestatic 146, 3) := by decide +kernel
theorem dX5_whole_54 : decode cX5_whole 54 = .ok (.f2i, 1) := by decide +kernel
theorem dX5_whole_55 : decode cX5_whole 55 = .ok (.ireturn, 1) := by decide +kernel
theorem dX5_whole_56 : decode cX5_whole 56 = .ok (.aload_n 0, 1) := by decide +kernel
theorem dX5_whole_57 : decode cX5_whole 57 = .ok (.getfield 7, 3) := by decide +kernel
theorem dX5_whole_60 : decode cX5_whole 60 = .ok (.iload_n 1, 1) := by decide +kernel
theorem dX5_whole_61 : decode cX5_whole 61 = .ok (.iaload, 1) := by decide +kernel
theorem dX5_whole_62 : decode cX5_whole 62 = .ok (.iconst 3, 1) := by decide +kernel
theorem dX5_whole_63 : decode cX5_whole 63 = .ok (.if_icmp .ne 9, 3) := by decide +kernel
theorem dX5_whole_66 : decode cX5_whole 66 = .ok (.lload_n 2, 1) := by decide +kernel
theorem dX5_whole_67 : decode cX5_whole 67 = .ok (.invokestatic 154, 3) := by decide +kernel
theorem dX5_whole_70 : decode cX5_whole 70 = .ok (.d2i, 1) := by decide +kernel
theorem dX5_whole_71 : decode cX5_whole 71 = .ok (.ireturn, 1) := by decide +kernel
theorem dX5_whole_72 : decode cX5_whole 72 = .ok (.lload_n 2, 1) := by decide +kernel
theorem dX5_whole_73 : decode cX5_whole 73 = .ok (.ldc2_w 164, 3) := by decide +kernel
theorem dX5_whole_76 : decode cX5_whole 76 = .ok (.lcmp, 1) := by decide +kernel
theorem dX5_whole_77 : decode cX5_whole 77 = .ok (.ifCond .ge 9, 3) := by decide +kernel
theorem dX5_whole_80 : decode cX5_whole 80 = .ok (.ldc2_w 164, 3) := by decide +kernel
theorem dX5_whole_83 : decode cX5_whole 83 = .ok (.goto 18, 3) := by decide +kernel
theorem dX5_whole_86 : decode cX5_whole 86 = .ok (.lload_n 2, 1) := by decide +kernel
theorem dX5_whole_87 : decode cX5_whole 87 = .ok (.ldc2_w 166, 3) := by decide +kernel
theorem dX5_whole_90 : decode cX5_whole 90 = .ok (.lcmp, 1) := by decide +kernel
theorem dX5_whole_91 : decode cX5_whole 91 = .ok (.ifCond .le 9, 3) := by decide +kernel
theorem dX5_whole_94 : decode cX5_whole 94 = .ok (.ldc2_w 166, 3) := by decide +kernel
theorem dX5_whole_97 : decode cX5_whole 97 = .ok (.goto 4, 3) := by decide +kernel
theorem dX5_whole_100 : decode cX5_whole 100 = .ok (.lload_n 2, 1) := by decide +kernel
theorem dX5_whole_101 : decode cX5_whole 101 = .ok (.l2i, 1) := by decide +kernel
theorem dX5_whole_102 : decode cX5_whole 102 = .ok (.ireturn, 1) := by decide +kernel
theorem dX5_widest_0 : decode cX5_widest 0 = .ok (.aload_n 0, 1) := by decide +kernel
theorem dX5_widest_1 : decode cX5_widest 1 = .ok (.iconst 0, 1) := by decide +kernel
theorem dX5_widest_2 : decode cX5_widest 2 = .ok (.putfield 53, 3) := by decide +kernel
theorem dX5_widest_5 : decode cX5_widest 5 = .ok (.iload_n 1, 1) := by decide +kernel
theorem dX5_widest_6 : decode cX5_widest 6 = .ok (.ifCond .lt 8, 3) := by decide +kernel
theorem dX5_widest_9 : decode cX5_widest 9 = .ok (.iload_n 1, 1) := by decide +kernel
theorem dX5_widest_10 : decode cX5_widest 10 = .ok (.iconst 3, 1) := by decide +kernel
theorem dX5_widest_11 : decode cX5_widest 11 = .ok (.if_icmp .le 10, 3) := by decide +kernel
theorem dX5_widest_14 : decode cX5_widest 14 = .ok (.aload_n 0, 1) := by decide +kernel
theorem dX5_widest_15 : decode cX5_widest 15 = .ok (.iconst 1, 1) := by decide +kernel
theorem dX5_widest_16 : decode cX5_widest 16 = .ok (.invokevirtual 161, 3) := by decide +kernel
theorem dX5_widest_19 : decode cX5_widest 19 = .ok (.i2l, 1) := by decide +kernel
theorem dX5_widest_20 : decode cX5_widest 20 = .ok (.lreturn, 1) := by decide +kernel
theorem dX5_widest_21 : decode cX5_widest 21 = .ok (.iconst 0, 1) := by decide +kernel
theorem dX5_widest_22 : decode cX5_widest 22 = .ok (.istore_n 2, 1) := by decide +kernel
theorem dX5_widest_23 : decode cX5_widest 23 = .ok (.lconst 0, 1) := by decide +kernel
theorem dX5_widest_24 : decode cX5_widest 24 = .ok (.lstore_n 3, 1) := by decide +kernel
theorem dX5_widest_25 : decode cX5_widest 25 = .ok (.iconst 0, 1) := by decide +kernel
theorem dX5_widest_26 : decode cX5_widest 26 = .ok (.istore 5, 2) := by decide +kernel
theorem dX5_widest_28 : decode cX5_widest 28 = .ok (.iload 5, 2) := by decide +kernel
theorem dX5_widest_30 : decode cX5_widest 30 = .ok (.aload_n 0, 1) := by decide +kernel
theorem dX5_widest_31 : decode cX5_widest 31 = .ok (.getfield 57, 3) := by decide +kernel
theorem dX5_widest_34 : decode cX5_widest 34 = .ok (.if_icmp .ge 59, 3) := by decide +kernel
theorem dX5_widest_37 : decode cX5_widest 37 = .ok (.aload_n 0, 1) := by decide +kernel
theorem dX5_widest_38 : decode cX5_widest 38 = .ok (.getfield 7, 3) := by decide +kernel
theorem dX5_widest_41 : decode cX5_widest 41 = .ok (.iload 5, 2) := by decide +kernel
theorem dX5_widest_43 : decode cX5_widest 43 = .ok (.iaload, 1) := by decide +kernel
theorem dX5_widest_44 : decode cX5_widest 44 = .ok (.iload_n 1, 1) := by decide +kernel
theorem dX5_widest_45 : decode cX5_widest 45 = .ok (.if_icmp .ne 42, 3) := by decide +kernel
theorem dX5_widest_48 : decode cX5_widest 48 = .ok (.aload_n 0, 1) := by decide +kernel
theorem dX5_widest_49 : decode cX5_widest 49 = .ok (.getfield 32, 3) := by decide +kernel
theorem dX5_widest_52 : decode cX5_widest 52 = .ok (.iload 5, 2) := by decide +kernel
theorem dX5_widest_54 : decode cX5_widest 54 = .ok (.iaload, 1) := by decide +kernel
theorem dX5_widest_55 : decode cX5_widest 55 = .ok (.ifCond .le 32, 3) := by decide +kernel
theorem dX5_widest_58 : decode cX5_widest 58 = .ok (.iload_n 2, 1) := by decide +kernel
theorem dX5_widest_59 : decode cX5_widest 59 = .ok (.ifCond .eq 18, 3) := by decide +kernel
theorem dX5_widest_62 : decode cX5_widest 62 = .ok (.iload_n 1, 1) := by decide +kernel
theorem dX5_widest_63 : decode cX5_widest 63 = .ok (.lload_n 3, 1) := by decide +kernel
theorem dX5_widest_64 : decode cX5_widest 64 = .ok (.aload_n 0, 1) := by decide +kernel
theorem dX5_widest_65 : decode cX5_widest 65 = .ok (.getfield 44, 3) := by decide +kernel
theorem dX5_widest_68 : decode cX5_widest 68 = .ok (.iload 5, 2) := by decide +kernel
theorem dX5_widest_70 : decode cX5_widest 70 = .ok (.laload, 1) := by decide +kernel
theorem dX5_widest_71 : decode cX5_widest 71 = .ok (.invokestatic 123, 3) := by decide +kernel
theorem dX5_widest_74 : decode cX5_widest 74 = .ok (.goto 10, 3) := by decide +kernel
theorem dX5_widest_77 : decode cX5_widest 77 = .ok (.aload_n 0, 1) := by decide +kernel
theorem dX5_widest_78 : decode cX5_widest 78 = .ok (.getfield 44, 3) := by decide +kernel
theorem dX5_widest_81 : decode cX5_widest 81 = .ok (.iload 5, 2) := by decide +kernel
theorem dX5_widest_83 : decode cX5_widest 83 = .ok (.laload, 1) := by decide +kernel
theorem dX5_widest_84 : decode cX5_widest 84 = .ok (.lstore_n 3, 1) := by decide +kernel
theorem dX5_widest_85 : decode cX5_widest 85 = .ok (.iconst 1, 1) := by decide +kernel
theorem dX5_widest_86 : decode cX5_widest 86 = .ok (.istore_n 2, 1) := by decide +kernel
theorem dX5_widest_87 : decode cX5_widest 87 = .ok (.iinc 5 1, 3) := by decide +kernel
theorem dX5_widest_90 : decode cX5_widest 90 = .ok (.goto (-62), 3) := by decide +kernel
theorem dX5_widest_93 : decode cX5_widest 93 = .ok (.iload_n 2, 1) := by decide +kernel
theorem dX5_widest_94 : decode cX5_widest 94 = .ok (.ifCond .eq 7, 3) := by decide +kernel
theorem dX5_widest_97 : decode cX5_widest 97 = .ok (.lload_n 3, 1) := by decide +kernel
theorem dX5_widest_98 : decode cX5_widest 98 = .ok (.goto 9, 3) := by decide +kernel
theorem dX5_widest_101 : decode cX5_widest 101 = .ok (.aload_n 0, 1) := by decide +kernel
theorem dX5_widest_102 : decode cX5_widest 102 = .ok (.iconst 2, 1) := by decide +kernel
theorem dX5_widest_103 : decode cX5_widest 103 = .ok (.invokevirtual 161, 3) := by decide +kernel
theorem dX5_widest_106 : decode cX5_widest 106 = .ok (.i2l, 1) := by decide +kernel
theorem dX5_widest_107 : decode cX5_widest 107 = .ok (.lreturn, 1) := by decide +kernel
theorem dX5_alarms_0 : decode cX5_alarms 0 = .ok (.aload_n 0, 1) := by decide +kernel
theorem dX5_alarms_1 : decode cX5_alarms 1 = .ok (.iconst 0, 1) := by decide +kernel
theorem dX5_alarms_2 : decode cX5_alarms 2 = .ok (.putfield 53, 3) := by decide +kernel
theorem dX5_alarms_5 : decode cX5_alarms 5 = .ok (.aload_n 0, 1) := by decide +kernel
theorem dX5_alarms_6 : decode cX5_alarms 6 = .ok (.iload_n 1, 1) := by decide +kernel
theorem dX5_alarms_7 : decode cX5_alarms 7 = .ok (.invokevirtual 170, 3) := by decide +kernel
theorem dX5_alarms_10 : decode cX5_alarms 10 = .ok (.ifCond .eq 12, 3) := by decide +kernel
theorem dX5_alarms_13 : decode cX5_alarms 13 = .ok (.aload_n 0, 1) := by decide +kernel
theorem dX5_alarms_14 : decode cX5_alarms 14 = .ok (.getfield 50, 3) := by decide +kernel
theorem dX5_alarms_17 : decode cX5_alarms 17 = .ok (.iload_n 1, 1) := by decide +kernel
theorem dX5_alarms_18 : decode cX5_alarms 18 = .ok (.iaload, 1) := by decide +kernel
theorem dX5_alarms_19 : decode cX5_alarms 19 = .ok (.goto 8, 3) := by decide +kernel
theorem dX5_alarms_22 : decode cX5_alarms 22 = .ok (.aload_n 0, 1) := by decide +kernel
theorem dX5_alarms_23 : decode cX5_alarms 23 = .ok (.iconst 1, 1) := by decide +kernel
theorem dX5_alarms_24 : decode cX5_alarms 24 = .ok (.invokevirtual 161, 3) := by decide +kernel
theorem dX5_alarms_27 : decode cX5_alarms 27 = .ok (.ireturn, 1) := by decide +kernel
theorem dX5_count_0 : decode cX5_count 0 = .ok (.aload_n 0, 1) := by decide +kernel
theorem dX5_count_1 : decode cX5_count 1 = .ok (.iconst 0, 1) := by decide +kernel
theorem dX5_count_2 : decode cX5_count 2 = .ok (.putfield 53, 3) := by decide +kernel
theorem dX5_count_5 : decode cX5_count 5 = .ok (.iload_n 1, 1) := by decide +kernel
theorem dX5_count_6 : decode cX5_count 6 = .ok (.tableswitch 50 0 3 #[30, 35, 40, 45], 30) := by decide +kernel
theorem dX5_count_36 : decode cX5_count 36 = .ok (.aload_n 0, 1) := by decide +kernel
theorem dX5_count_37 : decode cX5_count 37 = .ok (.getfield 57, 3) := by decide +kernel
theorem dX5_count_40 : decode cX5_count 40 = .ok (.ireturn, 1) := by decide +kernel
theorem dX5_count_41 : decode cX5_count 41 = .ok (.aload_n 0, 1) := by decide +kernel
theorem dX5_count_42 : decode cX5_count 42 = .ok (.getfield 210, 3) := by decide +kernel
theorem dX5_count_45 : decode cX5_count 45 = .ok (.ireturn, 1) := by decide +kernel
theorem dX5_count_46 : decode cX5_count 46 = .ok (.aload_n 0, 1) := by decide +kernel
theorem dX5_count_47 : decode cX5_count 47 = .ok (.getfield 213, 3) := by decide +kernel
theorem dX5_count_50 : decode cX5_count 50 = .ok (.ireturn, 1) := by decide +kernel
theorem dX5_count_51 : decode cX5_count 51 = .ok (.aload_n 0, 1) := by decide +kernel
theorem dX5_count_52 : decode cX5_count 52 = .ok (.getfield 198, 3) := by decide +kernel
theorem dX5_count_55 : decode cX5_count 55 = .ok (.ireturn, 1) := by decide +kernel
theorem dX5_count_56 : decode cX5_count 56 = .ok (.iconst (-1), 1) := by decide +kernel
theorem dX5_count_57 : decode cX5_count 57 = .ok (.ireturn, 1) := by decide +kernel
theorem dJxe99ae_isNaN_b9ae7_0 : decode cJxe99ae_isNaN_b9ae7 0 = .ok (.dload_n 0, 1) := by decide +kernel
theorem dJxe99ae_isNaN_b9ae7_1 : decode cJxe99ae_isNaN_b9ae7 1 = .ok (.dload_n 0, 1) := by decide +kernel
theorem dJxe99ae_isNaN_b9ae7_2 : decode cJxe99ae_isNaN_b9ae7 2 = .ok (.dcmp .l, 1) := by decide +kernel
theorem dJxe99ae_isNaN_b9ae7_3 : decode cJxe99ae_isNaN_b9ae7 3 = .ok (.ifCond .eq 7, 3) := by decide +kernel
theorem dJxe99ae_isNaN_b9ae7_6 : decode cJxe99ae_isNaN_b9ae7 6 = .ok (.iconst 1, 1) := by decide +kernel
theorem dJxe99ae_isNaN_b9ae7_7 : decode cJxe99ae_isNaN_b9ae7 7 = .ok (.goto 4, 3) := by decide +kernel
theorem dJxe99ae_isNaN_b9ae7_10 : decode cJxe99ae_isNaN_b9ae7 10 = .ok (.iconst 0, 1) := by decide +kernel
theorem dJxe99ae_isNaN_b9ae7_11 : decode cJxe99ae_isNaN_b9ae7 11 = .ok (.ireturn, 1) := by decide +kernel
theorem dJxe99ae_doubleToLongBits_ccdee_0 : decode cJxe99ae_doubleToLongBits_ccdee 0 = .ok (.dload_n 0, 1) := by decide +kernel
theorem dJxe99ae_doubleToLongBits_ccdee_1 : decode cJxe99ae_doubleToLongBits_ccdee 1 = .ok (.invokestatic 122, 3) := by decide +kernel
theorem dJxe99ae_doubleToLongBits_ccdee_4 : decode cJxe99ae_doubleToLongBits_ccdee 4 = .ok (.ifCond .ne 8, 3) := by decide +kernel
theorem dJxe99ae_doubleToLongBits_ccdee_7 : decode cJxe99ae_doubleToLongBits_ccdee 7 = .ok (.dload_n 0, 1) := by decide +kernel
theorem dJxe99ae_doubleToLongBits_ccdee_8 : decode cJxe99ae_doubleToLongBits_ccdee 8 = .ok (.invokestatic 134, 3) := by decide +kernel
theorem dJxe99ae_doubleToLongBits_ccdee_11 : decode cJxe99ae_doubleToLongBits_ccdee 11 = .ok (.lreturn, 1) := by decide +kernel
theorem dJxe99ae_doubleToLongBits_ccdee_12 : decode cJxe99ae_doubleToLongBits_ccdee 12 = .ok (.ldc2_w 137, 3) := by decide +kernel
theorem dJxe99ae_doubleToLongBits_ccdee_15 : decode cJxe99ae_doubleToLongBits_ccdee 15 = .ok (.lreturn, 1) := by decide +kernel
theorem dJxf58ca_isNaN_12338_0 : decode cJxf58ca_isNaN_12338 0 = .ok (.fload_n 0, 1) := by decide +kernel
theorem dJxf58ca_isNaN_12338_1 : decode cJxf58ca_isNaN_12338 1 = .ok (.fload_n 0, 1) := by decide +kernel
theorem dJxf58ca_isNaN_12338_2 : decode cJxf58ca_isNaN_12338 2 = .ok (.fcmp .l, 1) := by decide +kernel
theorem dJxf58ca_isNaN_12338_3 : decode cJxf58ca_isNaN_12338 3 = .ok (.ifCond .eq 7, 3) := by decide +kernel
theorem dJxf58ca_isNaN_12338_6 : decode cJxf58ca_isNaN_12338 6 = .ok (.iconst 1, 1) := by decide +kernel
theorem dJxf58ca_isNaN_12338_7 : decode cJxf58ca_isNaN_12338 7 = .ok (.goto 4, 3) := by decide +kernel
theorem dJxf58ca_isNaN_12338_10 : decode cJxf58ca_isNaN_12338 10 = .ok (.iconst 0, 1) := by decide +kernel
theorem dJxf58ca_isNaN_12338_11 : decode cJxf58ca_isNaN_12338 11 = .ok (.ireturn, 1) := by decide +kernel
theorem dJxf58ca_floatToIntBits_5c35a_0 : decode cJxf58ca_floatToIntBits_5c35a 0 = .ok (.fload_n 0, 1) := by decide +kernel
theorem dJxf58ca_floatToIntBits_5c35a_1 : decode cJxf58ca_floatToIntBits_5c35a 1 = .ok (.invokestatic 59, 3) := by decide +kernel
theorem dJxf58ca_floatToIntBits_5c35a_4 : decode cJxf58ca_floatToIntBits_5c35a 4 = .ok (.ifCond .ne 8, 3) := by decide +kernel
theorem dJxf58ca_floatToIntBits_5c35a_7 : decode cJxf58ca_floatToIntBits_5c35a 7 = .ok (.fload_n 0, 1) := by decide +kernel
theorem dJxf58ca_floatToIntBits_5c35a_8 : decode cJxf58ca_floatToIntBits_5c35a 8 = .ok (.invokestatic 74, 3) := by decide +kernel
theorem dJxf58ca_floatToIntBits_5c35a_11 : decode cJxf58ca_floatToIntBits_5c35a 11 = .ok (.ireturn, 1) := by decide +kernel
theorem dJxf58ca_floatToIntBits_5c35a_12 : decode cJxf58ca_floatToIntBits_5c35a 12 = .ok (.ldc 77, 2) := by decide +kernel
theorem dJxf58ca_floatToIntBits_5c35a_14 : decode cJxf58ca_floatToIntBits_5c35a 14 = .ok (.ireturn, 1) := by decide +kernel
theorem dJ9_max_f86c9_0 : decode cJ9_max_f86c9 0 = .ok (.lload_n 0, 1) := by decide +kernel
theorem dJ9_max_f86c9_1 : decode cJ9_max_f86c9 1 = .ok (.lload_n 2, 1) := by decide +kernel
theorem dJ9_max_f86c9_2 : decode cJ9_max_f86c9 2 = .ok (.lcmp, 1) := by decide +kernel
theorem dJ9_max_f86c9_3 : decode cJ9_max_f86c9 3 = .ok (.ifCond .lt 7, 3) := by decide +kernel
theorem dJ9_max_f86c9_6 : decode cJ9_max_f86c9 6 = .ok (.lload_n 0, 1) := by decide +kernel
theorem dJ9_max_f86c9_7 : decode cJ9_max_f86c9 7 = .ok (.goto 4, 3) := by decide +kernel
theorem dJ9_max_f86c9_10 : decode cJ9_max_f86c9 10 = .ok (.lload_n 2, 1) := by decide +kernel
theorem dJ9_max_f86c9_11 : decode cJ9_max_f86c9 11 = .ok (.lreturn, 1) := by decide +kernel
theorem dJ9_min_7cf53_0 : decode cJ9_min_7cf53 0 = .ok (.iload_n 0, 1) := by decide +kernel
theorem dJ9_min_7cf53_1 : decode cJ9_min_7cf53 1 = .ok (.iload_n 1, 1) := by decide +kernel
theorem dJ9_min_7cf53_2 : decode cJ9_min_7cf53 2 = .ok (.if_icmp .gt 7, 3) := by decide +kernel
theorem dJ9_min_7cf53_5 : decode cJ9_min_7cf53 5 = .ok (.iload_n 0, 1) := by decide +kernel
theorem dJ9_min_7cf53_6 : decode cJ9_min_7cf53 6 = .ok (.goto 4, 3) := by decide +kernel
theorem dJ9_min_7cf53_9 : decode cJ9_min_7cf53 9 = .ok (.iload_n 1, 1) := by decide +kernel
theorem dJ9_min_7cf53_10 : decode cJ9_min_7cf53 10 = .ok (.ireturn, 1) := by decide +kernel
theorem dJ9_min_f86c9_0 : decode cJ9_min_f86c9 0 = .ok (.lload_n 0, 1) := by decide +kernel
theorem dJ9_min_f86c9_1 : decode cJ9_min_f86c9 1 = .ok (.lload_n 2, 1) := by decide +kernel
theorem dJ9_min_f86c9_2 : decode cJ9_min_f86c9 2 = .ok (.lcmp, 1) := by decide +kernel
theorem dJ9_min_f86c9_3 : decode cJ9_min_f86c9 3 = .ok (.ifCond .gt 7, 3) := by decide +kernel
theorem dJ9_min_f86c9_6 : decode cJ9_min_f86c9 6 = .ok (.lload_n 0, 1) := by decide +kernel
theorem dJ9_min_f86c9_7 : decode cJ9_min_f86c9 7 = .ok (.goto 4, 3) := by decide +kernel
theorem dJ9_min_f86c9_10 : decode cJ9_min_f86c9 10 = .ok (.lload_n 2, 1) := by decide +kernel
theorem dJ9_min_f86c9_11 : decode cJ9_min_f86c9 11 = .ok (.lreturn, 1) := by decide +kernel
theorem dL_mount_0 : decode cL_mount 0 = .ok (.aload_n 2, 1) := by decide +kernel
theorem dL_mount_1 : decode cL_mount 1 = .ok (.iconst 0, 1) := by decide +kernel
theorem dL_mount_2 : decode cL_mount 2 = .ok (.aload_n 0, 1) := by decide +kernel
theorem dL_mount_3 : decode cL_mount 3 = .ok (.iload_n 1, 1) := by decide +kernel
theorem dL_mount_4 : decode cL_mount 4 = .ok (.invokevirtual 7, 3) := by decide +kernel
theorem dL_mount_7 : decode cL_mount 7 = .ok (.i2l, 1) := by decide +kernel
theorem dL_mount_8 : decode cL_mount 8 = .ok (.lastore, 1) := by decide +kernel
theorem dL_mount_9 : decode cL_mount 9 = .ok (.goto 9, 3) := by decide +kernel
theorem dL_mount_12 : decode cL_mount 12 = .ok (.astore_n 3, 1) := by decide +kernel
theorem dL_mount_13 : decode cL_mount 13 = .ok (.iconst 1, 1) := by decide +kernel
theorem dL_mount_14 : decode cL_mount 14 = .ok (.ireturn, 1) := by decide +kernel
theorem dL_mount_15 : decode cL_mount 15 = .ok (.astore_n 3, 1) := by decide +kernel
theorem dL_mount_16 : decode cL_mount 16 = .ok (.iconst 2, 1) := by decide +kernel
theorem dL_mount_17 : decode cL_mount 17 = .ok (.ireturn, 1) := by decide +kernel
theorem dL_mount_18 : decode cL_mount 18 = .ok (.iconst 0, 1) := by decide +kernel
theorem dL_mount_19 : decode cL_mount 19 = .ok (.ireturn, 1) := by decide +kernel
theorem dL_step_0 : decode cL_step 0 = .ok (.aload 5, 2) := by decide +kernel
theorem dL_step_2 : decode cL_step 2 = .ok (.iconst 0, 1) := by decide +kernel
theorem dL_step_3 : decode cL_step 3 = .ok (.aload_n 0, 1) := by decide +kernel
theorem dL_step_4 : decode cL_step 4 = .ok (.iload_n 1, 1) := by decide +kernel
theorem dL_step_5 : decode cL_step 5 = .ok (.iload_n 2, 1) := by decide +kernel
theorem dL_step_6 : decode cL_step 6 = .ok (.lload_n 3, 1) := by decide +kernel
theorem dL_step_7 : decode cL_step 7 = .ok (.invokevirtual 17, 3) := by decide +kernel
theorem dL_step_10 : decode cL_step 10 = .ok (.i2l, 1) := by decide +kernel
theorem dL_step_11 : decode cL_step 11 = .ok (.lastore, 1) := by decide +kernel
theorem dL_step_12 : decode cL_step 12 = .ok (.goto 15, 3) := by decide +kernel
theorem dL_step_15 : decode cL_step 15 = .ok (.astore 6, 2) := by decide +kernel
theorem dL_step_17 : decode cL_step 17 = .ok (.iconst 1, 1) := by decide +kernel
theorem dL_step_18 : decode cL_step 18 = .ok (.ireturn, 1) := by decide +kernel
theorem dL_step_19 : decode cL_step 19 = .ok (.astore 6, 2) := by decide +kernel
theorem dL_step_21 : decode cL_step 21 = .ok (.iconst 2, 1) := by decide +kernel
theorem dL_step_22 : decode cL_step 22 = .ok (.ireturn, 1) := by decide +kernel
theorem dL_step_23 : decode cL_step 23 = .ok (.astore 6, 2) := by decide +kernel
theorem dL_step_25 : decode cL_step 25 = .ok (.iconst 3, 1) := by decide +kernel
theorem dL_step_26 : decode cL_step 26 = .ok (.ireturn, 1) := by decide +kernel
theorem dL_step_27 : decode cL_step 27 = .ok (.iconst 0, 1) := by decide +kernel
theorem dL_step_28 : decode cL_step 28 = .ok (.ireturn, 1) := by decide +kernel
theorem dL_follow_0 : decode cL_follow 0 = .ok (.aload 4, 2) := by decide +kernel
theorem dL_follow_2 : decode cL_follow 2 = .ok (.iconst 0, 1) := by decide +kernel
theorem dL_follow_3 : decode cL_follow 3 = .ok (.aload_n 0, 1) := by decide +kernel
theorem dL_follow_4 : decode cL_follow 4 = .ok (.iload_n 1, 1) := by decide +kernel
theorem dL_follow_5 : decode cL_follow 5 = .ok (.iload_n 2, 1) := by decide +kernel
theorem dL_follow_6 : decode cL_follow 6 = .ok (.iload_n 3, 1) := by decide +kernel
theorem dL_follow_7 : decode cL_follow 7 = .ok (.invokevirtual 25, 3) := by decide +kernel
theorem dL_follow_10 : decode cL_follow 10 = .ok (.i2l, 1) := by decide +kernel
theorem dL_follow_11 : decode cL_follow 11 = .ok (.lastore, 1) := by decide +kernel
theorem dL_follow_12 : decode cL_follow 12 = .ok (.goto 15, 3) := by decide +kernel
theorem dL_follow_15 : decode cL_follow 15 = .ok (.astore 5, 2) := by decide +kernel
theorem dL_follow_17 : decode cL_follow 17 = .ok (.iconst 1, 1) := by decide +kernel
theorem dL_follow_18 : decode cL_follow 18 = .ok (.ireturn, 1) := by decide +kernel
theorem dL_follow_19 : decode cL_follow 19 = .ok (.astore 5, 2) := by decide +kernel
theorem dL_follow_21 : decode cL_follow 21 = .ok (.iconst 2, 1) := by decide +kernel
theorem dL_follow_22 : decode cL_follow 22 = .ok (.ireturn, 1) := by decide +kernel
theorem dL_follow_23 : decode cL_follow 23 = .ok (.astore 5, 2) := by decide +kernel
theorem dL_follow_25 : decode cL_follow 25 = .ok (.iconst 3, 1) := by decide +kernel
theorem dL_follow_26 : decode cL_follow 26 = .ok (.ireturn, 1) := by decide +kernel
theorem dL_follow_27 : decode cL_follow 27 = .ok (.iconst 0, 1) := by decide +kernel
theorem dL_follow_28 : decode cL_follow 28 = .ok (.ireturn, 1) := by decide +kernel
theorem dL_read_0 : decode cL_read 0 = .ok (.aload 4, 2) := by decide +kernel
theorem dL_read_2 : decode cL_read 2 = .ok (.iconst 0, 1) := by decide +kernel
theorem dL_read_3 : decode cL_read 3 = .ok (.aload_n 0, 1) := by decide +kernel
theorem dL_read_4 : decode cL_read 4 = .ok (.iload_n 1, 1) := by decide +kernel
theorem dL_read_5 : decode cL_read 5 = .ok (.lload_n 2, 1) := by decide +kernel
theorem dL_read_6 : decode cL_read 6 = .ok (.invokevirtual 29, 3) := by decide +kernel
theorem dL_read_9 : decode cL_read 9 = .ok (.lastore, 1) := by decide +kernel
theorem dL_read_10 : decode cL_read 10 = .ok (.goto 11, 3) := by decide +kernel
theorem dL_read_13 : decode cL_read 13 = .ok (.astore 5, 2) := by decide +kernel
theorem dL_read_15 : decode cL_read 15 = .ok (.iconst 1, 1) := by decide +kernel
theorem dL_read_16 : decode cL_read 16 = .ok (.ireturn, 1) := by decide +kernel
theorem dL_read_17 : decode cL_read 17 = .ok (.astore 5, 2) := by decide +kernel
theorem dL_read_19 : decode cL_read 19 = .ok (.iconst 2, 1) := by decide +kernel
theorem dL_read_20 : decode cL_read 20 = .ok (.ireturn, 1) := by decide +kernel
theorem dL_read_21 : decode cL_read 21 = .ok (.iconst 0, 1) := by decide +kernel
theorem dL_read_22 : decode cL_read 22 = .ok (.ireturn, 1) := by decide +kernel
theorem dL_reading_0 : decode cL_reading 0 = .ok (.aload_n 3, 1) := by decide +kernel
theorem dL_reading_1 : decode cL_reading 1 = .ok (.iconst 0, 1) := by decide +kernel
theorem dL_reading_2 : decode cL_reading 2 = .ok (.aload_n 0, 1) := by decide +kernel
theorem dL_reading_3 : decode cL_reading 3 = .ok (.iload_n 1, 1) := by decide +kernel
theorem dL_reading_4 : decode cL_reading 4 = .ok (.iload_n 2, 1) := by decide +kernel
theorem dL_reading_5 : decode cL_reading 5 = .ok (.invokevirtual 33, 3) := by decide +kernel
theorem dL_reading_8 : decode cL_reading 8 = .ok (.lastore, 1) := by decide +kernel
theorem dL_reading_9 : decode cL_reading 9 = .ok (.goto 11, 3) := by decide +kernel
theorem dL_reading_12 : decode cL_reading 12 = .ok (.astore 4, 2) := by decide +kernel
theorem dL_reading_14 : decode cL_reading 14 = .ok (.iconst 1, 1) := by decide +kernel
theorem dL_reading_15 : decode cL_reading 15 = .ok (.ireturn, 1) := by decide +kernel
theorem dL_reading_16 : decode cL_reading 16 = .ok (.astore 4, 2) := by decide +kernel
theorem dL_reading_18 : decode cL_reading 18 = .ok (.iconst 2, 1) := by decide +kernel
theorem dL_reading_19 : decode cL_reading 19 = .ok (.ireturn, 1) := by decide +kernel
theorem dL_reading_20 : decode cL_reading 20 = .ok (.iconst 0, 1) := by decide +kernel
theorem dL_reading_21 : decode cL_reading 21 = .ok (.ireturn, 1) := by decide +kernel
theorem dL_tell_0 : decode cL_tell 0 = .ok (.aload_n 3, 1) := by decide +kernel
theorem dL_tell_1 : decode cL_tell 1 = .ok (.iconst 0, 1) := by decide +kernel
theorem dL_tell_2 : decode cL_tell 2 = .ok (.aload_n 0, 1) := by decide +kernel
theorem dL_tell_3 : decode cL_tell 3 = .ok (.iload_n 1, 1) := by decide +kernel
theorem dL_tell_4 : decode cL_tell 4 = .ok (.iload_n 2, 1) := by decide +kernel
theorem dL_tell_5 : decode cL_tell 5 = .ok (.invokevirtual 39, 3) := by decide +kernel
theorem dL_tell_8 : decode cL_tell 8 = .ok (.lastore, 1) := by decide +kernel
theorem dL_tell_9 : decode cL_tell 9 = .ok (.goto 15, 3) := by decide +kernel
theorem dL_tell_12 : decode cL_tell 12 = .ok (.astore 4, 2) := by decide +kernel
theorem dL_tell_14 : decode cL_tell 14 = .ok (.iconst 1, 1) := by decide +kernel
theorem dL_tell_15 : decode cL_tell 15 = .ok (.ireturn, 1) := by decide +kernel
theorem dL_tell_16 : decode cL_tell 16 = .ok (.astore 4, 2) := by decide +kernel
theorem dL_tell_18 : decode cL_tell 18 = .ok (.iconst 2, 1) := by decide +kernel
theorem dL_tell_19 : decode cL_tell 19 = .ok (.ireturn, 1) := by decide +kernel
theorem dL_tell_20 : decode cL_tell 20 = .ok (.astore 4, 2) := by decide +kernel
theorem dL_tell_22 : decode cL_tell 22 = .ok (.iconst 3, 1) := by decide +kernel
theorem dL_tell_23 : decode cL_tell 23 = .ok (.ireturn, 1) := by decide +kernel
theorem dL_tell_24 : decode cL_tell 24 = .ok (.iconst 0, 1) := by decide +kernel
theorem dL_tell_25 : decode cL_tell 25 = .ok (.ireturn, 1) := by decide +kernel
theorem dL_whole_0 : decode cL_whole 0 = .ok (.aload_n 2, 1) := by decide +kernel
theorem dL_whole_1 : decode cL_whole 1 = .ok (.iconst 0, 1) := by decide +kernel
theorem dL_whole_2 : decode cL_whole 2 = .ok (.aload_n 0, 1) := by decide +kernel
theorem dL_whole_3 : decode cL_whole 3 = .ok (.iload_n 1, 1) := by decide +kernel
theorem dL_whole_4 : decode cL_whole 4 = .ok (.invokevirtual 42, 3) := by decide +kernel
theorem dL_whole_7 : decode cL_whole 7 = .ok (.i2l, 1) := by decide +kernel
theorem dL_whole_8 : decode cL_whole 8 = .ok (.lastore, 1) := by decide +kernel
theorem dL_whole_9 : decode cL_whole 9 = .ok (.goto 9, 3) := by decide +kernel
theorem dL_whole_12 : decode cL_whole 12 = .ok (.astore_n 3, 1) := by decide +kernel
theorem dL_whole_13 : decode cL_whole 13 = .ok (.iconst 1, 1) := by decide +kernel
theorem dL_whole_14 : decode cL_whole 14 = .ok (.ireturn, 1) := by decide +kernel
theorem dL_whole_15 : decode cL_whole 15 = .ok (.astore_n 3, 1) := by decide +kernel
theorem dL_whole_16 : decode cL_whole 16 = .ok (.iconst 2, 1) := by decide +kernel
theorem dL_whole_17 : decode cL_whole 17 = .ok (.ireturn, 1) := by decide +kernel
theorem dL_whole_18 : decode cL_whole 18 = .ok (.iconst 0, 1) := by decide +kernel
theorem dL_whole_19 : decode cL_whole 19 = .ok (.ireturn, 1) := by decide +kernel
theorem dL_limits_0 : decode cL_limits 0 = .ok (.aload 6, 2) := by decide +kernel
theorem dL_limits_2 : decode cL_limits 2 = .ok (.iconst 0, 1) := by decide +kernel
theorem dL_limits_3 : decode cL_limits 3 = .ok (.aload_n 0, 1) := by decide +kernel
theorem dL_limits_4 : decode cL_limits 4 = .ok (.iload_n 1, 1) := by decide +kernel
theorem dL_limits_5 : decode cL_limits 5 = .ok (.lload_n 2, 1) := by decide +kernel
theorem dL_limits_6 : decode cL_limits 6 = .ok (.lload 4, 2) := by decide +kernel
theorem dL_limits_8 : decode cL_limits 8 = .ok (.invokevirtual 45, 3) := by decide +kernel
theorem dL_limits_11 : decode cL_limits 11 = .ok (.ifCond .eq 7, 3) := by decide +kernel
theorem dL_limits_14 : decode cL_limits 14 = .ok (.lconst 1, 1) := by decide +kernel
theorem dL_limits_15 : decode cL_limits 15 = .ok (.goto 4, 3) := by decide +kernel
theorem dL_limits_18 : decode cL_limits 18 = .ok (.lconst 0, 1) := by decide +kernel
theorem dL_limits_19 : decode cL_limits 19 = .ok (.lastore, 1) := by decide +kernel
theorem dL_limits_20 : decode cL_limits 20 = .ok (.goto 11, 3) := by decide +kernel
theorem dL_limits_23 : decode cL_limits 23 = .ok (.astore 7, 2) := by decide +kernel
theorem dL_limits_25 : decode cL_limits 25 = .ok (.iconst 1, 1) := by decide +kernel
theorem dL_limits_26 : decode cL_limits 26 = .ok (.ireturn, 1) := by decide +kernel
theorem dL_limits_27 : decode cL_limits 27 = .ok (.astore 7, 2) := by decide +kernel
theorem dL_limits_29 : decode cL_limits 29 = .ok (.iconst 2, 1) := by decide +kernel
theorem dL_limits_30 : decode cL_limits 30 = .ok (.ireturn, 1) := by decide +kernel
theorem dL_limits_31 : decode cL_limits 31 = .ok (.iconst 0, 1) := by decide +kernel
theorem dL_limits_32 : decode cL_limits 32 = .ok (.ireturn, 1) := by decide +kernel
theorem dL_widest_0 : decode cL_widest 0 = .ok (.aload_n 2, 1) := by decide +kernel
theorem dL_widest_1 : decode cL_widest 1 = .ok (.iconst 0, 1) := by decide +kernel
theorem dL_widest_2 : decode cL_widest 2 = .ok (.aload_n 0, 1) := by decide +kernel
theorem dL_widest_3 : decode cL_widest 3 = .ok (.iload_n 1, 1) := by decide +kernel
theorem dL_widest_4 : decode cL_widest 4 = .ok (.invokevirtual 49, 3) := by decide +kernel
theorem dL_widest_7 : decode cL_widest 7 = .ok (.lastore, 1) := by decide +kernel
theorem dL_widest_8 : decode cL_widest 8 = .ok (.goto 9, 3) := by decide +kernel
theorem dL_widest_11 : decode cL_widest 11 = .ok (.astore_n 3, 1) := by decide +kernel
theorem dL_widest_12 : decode cL_widest 12 = .ok (.iconst 1, 1) := by decide +kernel
theorem dL_widest_13 : decode cL_widest 13 = .ok (.ireturn, 1) := by decide +kernel
theorem dL_widest_14 : decode cL_widest 14 = .ok (.astore_n 3, 1) := by decide +kernel
theorem dL_widest_15 : decode cL_widest 15 = .ok (.iconst 2, 1) := by decide +kernel
theorem dL_widest_16 : decode cL_widest 16 = .ok (.ireturn, 1) := by decide +kernel
theorem dL_widest_17 : decode cL_widest 17 = .ok (.iconst 0, 1) := by decide +kernel
theorem dL_widest_18 : decode cL_widest 18 = .ok (.ireturn, 1) := by decide +kernel
theorem dL_forget_0 : decode cL_forget 0 = .ok (.aload_n 2, 1) := by decide +kernel
theorem dL_forget_1 : decode cL_forget 1 = .ok (.iconst 0, 1) := by decide +kernel
theorem dL_forget_2 : decode cL_forget 2 = .ok (.aload_n 0, 1) := by decide +kernel
theorem dL_forget_3 : decode cL_forget 3 = .ok (.iload_n 1, 1) := by decide +kernel
theorem dL_forget_4 : decode cL_forget 4 = .ok (.invokevirtual 53, 3) := by decide +kernel
theorem dL_forget_7 : decode cL_forget 7 = .ok (.i2l, 1) := by decide +kernel
theorem dL_forget_8 : decode cL_forget 8 = .ok (.lastore, 1) := by decide +kernel
theorem dL_forget_9 : decode cL_forget 9 = .ok (.goto 6, 3) := by decide +kernel
theorem dL_forget_12 : decode cL_forget 12 = .ok (.astore_n 3, 1) := by decide +kernel
theorem dL_forget_13 : decode cL_forget 13 = .ok (.iconst 1, 1) := by decide +kernel
theorem dL_forget_14 : decode cL_forget 14 = .ok (.ireturn, 1) := by decide +kernel
theorem dL_forget_15 : decode cL_forget 15 = .ok (.iconst 0, 1) := by decide +kernel
theorem dL_forget_16 : decode cL_forget 16 = .ok (.ireturn, 1) := by decide +kernel
theorem dL_alarms_0 : decode cL_alarms 0 = .ok (.aload_n 2, 1) := by decide +kernel
theorem dL_alarms_1 : decode cL_alarms 1 = .ok (.iconst 0, 1) := by decide +kernel
theorem dL_alarms_2 : decode cL_alarms 2 = .ok (.aload_n 0, 1) := by decide +kernel
theorem dL_alarms_3 : decode cL_alarms 3 = .ok (.iload_n 1, 1) := by decide +kernel
theorem dL_alarms_4 : decode cL_alarms 4 = .ok (.invokevirtual 56, 3) := by decide +kernel
theorem dL_alarms_7 : decode cL_alarms 7 = .ok (.i2l, 1) := by decide +kernel
theorem dL_alarms_8 : decode cL_alarms 8 = .ok (.lastore, 1) := by decide +kernel
theorem dL_alarms_9 : decode cL_alarms 9 = .ok (.goto 6, 3) := by decide +kernel
theorem dL_alarms_12 : decode cL_alarms 12 = .ok (.astore_n 3, 1) := by decide +kernel
theorem dL_alarms_13 : decode cL_alarms 13 = .ok (.iconst 1, 1) := by decide +kernel
theorem dL_alarms_14 : decode cL_alarms 14 = .ok (.ireturn, 1) := by decide +kernel
theorem dL_alarms_15 : decode cL_alarms 15 = .ok (.iconst 0, 1) := by decide +kernel
theorem dL_alarms_16 : decode cL_alarms 16 = .ok (.ireturn, 1) := by decide +kernel
theorem dL_law_0 : decode cL_law 0 = .ok (.new 8, 3) := by decide +kernel
theorem dL_law_3 : decode cL_law 3 = .ok (.dup, 1) := by decide +kernel
theorem dL_law_4 : decode cL_law 4 = .ok (.invokespecial 59, 3) := by decide +kernel
theorem dL_law_7 : decode cL_law 7 = .ok (.astore_n 1, 1) := by decide +kernel
theorem dL_law_8 : decode cL_law 8 = .ok (.new 60, 3) := by decide +kernel
theorem dL_law_11 : decode cL_law 11 = .ok (.dup, 1) := by decide +kernel
theorem dL_law_12 : decode cL_law 12 = .ok (.invokespecial 62, 3) := by decide +kernel
theorem dL_law_15 : decode cL_law 15 = .ok (.astore_n 2, 1) := by decide +kernel
theorem dL_law_16 : decode cL_law 16 = .ok (.iconst 1, 1) := by decide +kernel
theorem dL_law_17 : decode cL_law 17 = .ok (.newarray .long, 2) := by decide +kernel
theorem dL_law_19 : decode cL_law 19 = .ok (.astore_n 3, 1) := by decide +kernel
theorem dL_law_20 : decode cL_law 20 = .ok (.iconst 0, 1) := by decide +kernel
theorem dL_law_21 : decode cL_law 21 = .ok (.istore 4, 2) := by decide +kernel
theorem dL_law_23 : decode cL_law 23 = .ok (.iload 4, 2) := by decide +kernel
theorem dL_law_25 : decode cL_law 25 = .ok (.aload_n 0, 1) := by decide +kernel
theorem dL_law_26 : decode cL_law 26 = .ok (.arraylength, 1) := by decide +kernel
theorem dL_law_27 : decode cL_law 27 = .ok (.bipush 6, 2) := by decide +kernel
theorem dL_law_29 : decode cL_law 29 = .ok (.isub, 1) := by decide +kernel
theorem dL_law_30 : decode cL_law 30 = .ok (.if_icmp .gt 960, 3) := by decide +kernel
theorem dL_law_33 : decode cL_law 33 = .ok (.aload_n 0, 1) := by decide +kernel
theorem dL_law_34 : decode cL_law 34 = .ok (.iload 4, 2) := by decide +kernel
theorem dL_law_36 : decode cL_law 36 = .ok (.iaload, 1) := by decide +kernel
theorem dL_law_37 : decode cL_law 37 = .ok (.bipush 15, 2) := by decide +kernel
theorem dL_law_39 : decode cL_law 39 = .ok (.iand, 1) := by decide +kernel
theorem dL_law_40 : decode cL_law 40 = .ok (.tableswitch 944 0 11 #[64, 120, 232, 312, 411, 478, 545, 601, 752, 807, 863, 919], 64) := by decide +kernel
theorem dL_law_104 : decode cL_law 104 = .ok (.aload_n 1, 1) := by decide +kernel
theorem dL_law_105 : decode cL_law 105 = .ok (.aload_n 0, 1) := by decide +kernel
theorem dL_law_106 : decode cL_law 106 = .ok (.iload 4, 2) := by decide +kernel
theorem dL_law_108 : decode cL_law 108 = .ok (.iconst 1, 1) := by decide +kernel
theorem dL_law_109 : decode cL_law 109 = .ok (.iadd, 1) := by decide +kernel
theorem dL_law_110 : decode cL_law 110 = .ok (.iaload, 1) := by decide +kernel
theorem dL_law_111 : decode cL_law 111 = .ok (.aload_n 3, 1) := by decide +kernel
theorem dL_law_112 : decode cL_law 112 = .ok (.invokestatic 63, 3) := by decide +kernel
theorem dL_law_115 : decode cL_law 115 = .ok (.istore 5, 2) := by decide +kernel
theorem dL_law_117 : decode cL_law 117 = .ok (.aload_n 2, 1) := by decide +kernel
theorem dL_law_118 : decode cL_law 118 = .ok (.aload_n 0, 1) := by decide +kernel
theorem dL_law_119 : decode cL_law 119 = .ok (.iload 4, 2) := by decide +kernel
theorem dL_law_121 : decode cL_law 121 = .ok (.iconst 1, 1) := by decide +kernel
theorem dL_law_122 : decode cL_law 122 = .ok (.iadd, 1) := by decide +kernel
theorem dL_law_123 : decode cL_law 123 = .ok (.iaload, 1) := by decide +kernel
theorem dL_law_124 : decode cL_law 124 = .ok (.invokevirtual 68, 3) := by decide +kernel
theorem dL_law_127 : decode cL_law 127 = .ok (.istore 6, 2) := by decide +kernel
theorem dL_law_129 : decode cL_law 129 = .ok (.aload_n 2, 1) := by decide +kernel
theorem dL_law_130 : decode cL_law 130 = .ok (.invokevirtual 69, 3) := by decide +kernel
theorem dL_law_133 : decode cL_law 133 = .ok (.iload 5, 2) := by decide +kernel
theorem dL_law_135 : decode cL_law 135 = .ok (.if_icmp .eq 5, 3) := by decide +kernel
theorem dL_law_138 : decode cL_law 138 = .ok (.iconst 0, 1) := by decide +kernel
theorem dL_law_139 : decode cL_law 139 = .ok (.ireturn, 1) := by decide +kernel
theorem dL_law_140 : decode cL_law 140 = .ok (.iload 5, 2) := by decide +kernel
theorem dL_law_142 : decode cL_law 142 = .ok (.ifCond .ne 15, 3) := by decide +kernel
theorem dL_law_145 : decode cL_law 145 = .ok (.aload_n 3, 1) := by decide +kernel
theorem dL_law_146 : decode cL_law 146 = .ok (.iconst 0, 1) := by decide +kernel
theorem dL_law_147 : decode cL_law 147 = .ok (.laload, 1) := by decide +kernel
theorem dL_law_148 : decode cL_law 148 = .ok (.iload 6, 2) := by decide +kernel
theorem dL_law_150 : decode cL_law 150 = .ok (.i2l, 1) := by decide +kernel
theorem dL_law_151 : decode cL_law 151 = .ok (.lcmp, 1) := by decide +kernel
theorem dL_law_152 : decode cL_law 152 = .ok (.ifCond .eq 5, 3) := by decide +kernel
theorem dL_law_155 : decode cL_law 155 = .ok (.iconst 0, 1) := by decide +kernel
theorem dL_law_156 : decode cL_law 156 = .ok (.ireturn, 1) := by decide +kernel
theorem dL_law_157 : decode cL_law 157 = .ok (.goto 827, 3) := by decide +kernel
theorem dL_law_160 : decode cL_law 160 = .ok (.aload_n 1, 1) := by decide +kernel
theorem dL_law_161 : decode cL_law 161 = .ok (.aload_n 0, 1) := by decide +kernel
theorem dL_law_162 : decode cL_law 162 = .ok (.iload 4, 2) := by decide +kernel
theorem dL_law_164 : decode cL_law 164 = .ok (.iconst 1, 1) := by decide +kernel
theorem dL_law_165 : decode cL_law 165 = .ok (.iadd, 1) := by decide +kernel
theorem dL_law_166 : decode cL_law 166 = .ok (.iaload, 1) := by decide +kernel
theorem dL_law_167 : decode cL_law 167 = .ok (.aload_n 0, 1) := by decide +kernel
theorem dL_law_168 : decode cL_law 168 = .ok (.iload 4, 2) := by decide +kernel
theorem dL_law_170 : decode cL_law 170 = .ok (.iconst 2, 1) := by decide +kernel
theorem dL_law_171 : decode cL_law 171 = .ok (.iadd, 1) := by decide +kernel
theorem dL_law_172 : decode cL_law 172 = .ok (.iaload, 1) := by decide +kernel
theorem dL_law_173 : decode cL_law 173 = .ok (.aload_n 0, 1) := by decide +kernel
theorem dL_law_174 : decode cL_law 174 = .ok (.iload 4, 2) := by decide +kernel
theorem dL_law_176 : decode cL_law 176 = .ok (.iconst 3, 1) := by decide +kernel
theorem dL_law_177 : decode cL_law 177 = .ok (.iadd, 1) := by decide +kernel
theorem dL_law_178 : decode cL_law 178 = .ok (.iaload, 1) := by decide +kernel
theorem dL_law_179 : decode cL_law 179 = .ok (.i2l, 1) := by decide +kernel
theorem dL_law_180 : decode cL_law 180 = .ok (.bipush 32, 2) := by decide +kernel
theorem dL_law_182 : decode cL_law 182 = .ok (.lshl, 1) := by decide +kernel
theorem dL_law_183 : decode cL_law 183 = .ok (.aload_n 0, 1) := by decide +kernel
theorem dL_law_184 : decode cL_law 184 = .ok (.iload 4, 2) := by decide +kernel
theorem dL_law_186 : decode cL_law 186 = .ok (.iconst 4, 1) := by decide +kernel
theorem dL_law_187 : decode cL_law 187 = .ok (.iadd, 1) := by decide +kernel
theorem dL_law_188 : decode cL_law 188 = .ok (.iaload, 1) := by decide +kernel
theorem dL_law_189 : decode cL_law 189 = .ok (.i2l, 1) := by decide +kernel
theorem dL_law_190 : decode cL_law 190 = .ok (.ldc2_w 73, 3) := by decide +kernel
theorem dL_law_193 : decode cL_law 193 = .ok (.land, 1) := by decide +kernel
theorem dL_law_194 : decode cL_law 194 = .ok (.lor, 1) := by decide +kernel
theorem dL_law_195 : decode cL_law 195 = .ok (.aload_n 3, 1) := by decide +kernel
theorem dL_law_196 : decode cL_law 196 = .ok (.invokestatic 75, 3) := by decide +kernel
theorem dL_law_199 : decode cL_law 199 = .ok (.istore 5, 2) := by decide +kernel
theorem dL_law_201 : decode cL_law 201 = .ok (.aload_n 2, 1) := by decide +kernel
theorem dL_law_202 : decode cL_law 202 = .ok (.aload_n 0, 1) := by decide +kernel
theorem dL_law_203 : decode cL_law 203 = .ok (.iload 4, 2) := by decide +kernel
theorem dL_law_205 : decode cL_law 205 = .ok (.iconst 1, 1) := by decide +kernel
theorem dL_law_206 : decode cL_law 206 = .ok (.iadd, 1) := by decide +kernel
theorem dL_law_207 : decode cL_law 207 = .ok (.iaload, 1) := by decide +kernel
theorem dL_law_208 : decode cL_law 208 = .ok (.aload_n 0, 1) := by decide +kernel
theorem dL_law_209 : decode cL_law 209 = .ok (.iload 4, 2) := by decide +kernel
theorem dL_law_211 : decode cL_law 211 = .ok (.iconst 2, 1) := by decide +kernel
theorem dL_law_212 : decode cL_law 212 = .ok (.iadd, 1) := by decide +kernel
theorem dL_law_213 : decode cL_law 213 = .ok (.iaload, 1) := by decide +kernel
theorem dL_law_214 : decode cL_law 214 = .ok (.aload_n 0, 1) := by decide +kernel
theorem dL_law_215 : decode cL_law 215 = .ok (.iload 4, 2) := by decide +kernel
theorem dL_law_217 : decode cL_law 217 = .ok (.iconst 3, 1) := by decide +kernel
theorem dL_law_218 : decode cL_law 218 = .ok (.iadd, 1) := by decide +kernel
theorem dL_law_219 : decode cL_law 219 = .ok (.iaload, 1) := by decide +kernel
theorem dL_law_220 : decode cL_law 220 = .ok (.i2l, 1) := by decide +kernel
theorem dL_law_221 : decode cL_law 221 = .ok (.bipush 32, 2) := by decide +kernel
theorem dL_law_223 : decode cL_law 223 = .ok (.lshl, 1) := by decide +kernel
theorem dL_law_224 : decode cL_law 224 = .ok (.aload_n 0, 1) := by decide +kernel
theorem dL_law_225 : decode cL_law 225 = .ok (.iload 4, 2) := by decide +kernel
theorem dL_law_227 : decode cL_law 227 = .ok (.iconst 4, 1) := by decide +kernel
theorem dL_law_228 : decode cL_law 228 = .ok (.iadd, 1) := by decide +kernel
theorem dL_law_229 : decode cL_law 229 = .ok (.iaload, 1) := by decide +kernel
theorem dL_law_230 : decode cL_law 230 = .ok (.i2l, 1) := by decide +kernel
theorem dL_law_231 : decode cL_law 231 = .ok (.ldc2_w 73, 3) := by decide +kernel
theorem dL_law_234 : decode cL_law 234 = .ok (.land, 1) := by decide +kernel
theorem dL_law_235 : decode cL_law 235 = .ok (.lor, 1) := by decide +kernel
theorem dL_law_236 : decode cL_law 236 = .ok (.invokevirtual 78, 3) := by decide +kernel
theorem dL_law_239 : decode cL_law 239 = .ok (.istore 6, 2) := by decide +kernel
theorem dL_law_241 : decode cL_law 241 = .ok (.aload_n 2, 1) := by decide +kernel
theorem dL_law_242 : decode cL_law 242 = .ok (.invokevirtual 69, 3) := by decide +kernel
theorem dL_law_245 : decode cL_law 245 = .ok (.iload 5, 2) := by decide +kernel
theorem dL_law_247 : decode cL_law 247 = .ok (.if_icmp .eq 5, 3) := by decide +kernel
theorem dL_law_250 : decode cL_law 250 = .ok (.iconst 0, 1) := by decide +kernel
theorem dL_law_251 : decode cL_law 251 = .ok (.ireturn, 1) := by decide +kernel
theorem dL_law_252 : decode cL_law 252 = .ok (.iload 5, 2) := by decide +kernel
theorem dL_law_254 : decode cL_law 254 = .ok (.ifCond .ne 15, 3) := by decide +kernel
theorem dL_law_257 : decode cL_law 257 = .ok (.aload_n 3, 1) := by decide +kernel
theorem dL_law_258 : decode cL_law 258 = .ok (.iconst 0, 1) := by decide +kernel
theorem dL_law_259 : decode cL_law 259 = .ok (.laload, 1) := by decide +kernel
theorem dL_law_260 : decode cL_law 260 = .ok (.iload 6, 2) := by decide +kernel
theorem dL_law_262 : decode cL_law 262 = .ok (.i2l, 1) := by decide +kernel
theorem dL_law_263 : decode cL_law 263 = .ok (.lcmp, 1) := by decide +kernel
theorem dL_law_264 : decode cL_law 264 = .ok (.ifCond .eq 5, 3) := by decide +kernel
theorem dL_law_267 : decode cL_law 267 = .ok (.iconst 0, 1) := by decide +kernel
theorem dL_law_268 : decode cL_law 268 = .ok (.ireturn, 1) := by decide +kernel
theorem dL_law_269 : decode cL_law 269 = .ok (.goto 715, 3) := by decide +kernel
theorem dL_law_272 : decode cL_law 272 = .ok (.aload_n 1, 1) := by decide +kernel
theorem dL_law_273 : decode cL_law 273 = .ok (.aload_n 0, 1) := by decide +kernel
theorem dL_law_274 : decode cL_law 274 = .ok (.iload 4, 2) := by decide +kernel
theorem dL_law_276 : decode cL_law 276 = .ok (.iconst 1, 1) := by decide +kernel
theorem dL_law_277 : decode cL_law 277 = .ok (.iadd, 1) := by decide +kernel
theorem dL_law_278 : decode cL_law 278 = .ok (.iaload, 1) := by decide +kernel
theorem dL_law_279 : decode cL_law 279 = .ok (.aload_n 0, 1) := by decide +kernel
theorem dL_law_280 : decode cL_law 280 = .ok (.iload 4, 2) := by decide +kernel
theorem dL_law_282 : decode cL_law 282 = .ok (.iconst 2, 1) := by decide +kernel
theorem dL_law_283 : decode cL_law 283 = .ok (.iadd, 1) := by decide +kernel
theorem dL_law_284 : decode cL_law 284 = .ok (.iaload, 1) := by decide +kernel
theorem dL_law_285 : decode cL_law 285 = .ok (.aload_n 0, 1) := by decide +kernel
theorem dL_law_286 : decode cL_law 286 = .ok (.iload 4, 2) := by decide +kernel
theorem dL_law_288 : decode cL_law 288 = .ok (.iconst 3, 1) := by decide +kernel
theorem dL_law_289 : decode cL_law 289 = .ok (.iadd, 1) := by decide +kernel
theorem dL_law_290 : decode cL_law 290 = .ok (.iaload, 1) := by decide +kernel
theorem dL_law_291 : decode cL_law 291 = .ok (.aload_n 3, 1) := by decide +kernel
theorem dL_law_292 : decode cL_law 292 = .ok (.invokestatic 79, 3) := by decide +kernel
theorem dL_law_295 : decode cL_law 295 = .ok (.istore 5, 2) := by decide +kernel
theorem dL_law_297 : decode cL_law 297 = .ok (.aload_n 2, 1) := by decide +kernel
theorem dL_law_298 : decode cL_law 298 = .ok (.aload_n 0, 1) := by decide +kernel
theorem dL_law_299 : decode cL_law 299 = .ok (.iload 4, 2) := by decide +kernel
theorem dL_law_301 : decode cL_law 301 = .ok (.iconst 1, 1) := by decide +kernel
theorem dL_law_302 : decode cL_law 302 = .ok (.iadd, 1) := by decide +kernel
theorem dL_law_303 : decode cL_law 303 = .ok (.iaload, 1) := by decide +kernel
theorem dL_law_304 : decode cL_law 304 = .ok (.aload_n 0, 1) := by decide +kernel
theorem dL_law_305 : decode cL_law 305 = .ok (.iload 4, 2) := by decide +kernel
theorem dL_law_307 : decode cL_law 307 = .ok (.iconst 2, 1) := by decide +kernel
theorem dL_law_308 : decode cL_law 308 = .ok (.iadd, 1) := by decide +kernel
theorem dL_law_309 : decode cL_law 309 = .ok (.iaload, 1) := by decide +kernel
theorem dL_law_310 : decode cL_law 310 = .ok (.aload_n 0, 1) := by decide +kernel
theorem dL_law_311 : decode cL_law 311 = .ok (.iload 4, 2) := by decide +kernel
theorem dL_law_313 : decode cL_law 313 = .ok (.iconst 3, 1) := by decide +kernel
theorem dL_law_314 : decode cL_law 314 = .ok (.iadd, 1) := by decide +kernel
theorem dL_law_315 : decode cL_law 315 = .ok (.iaload, 1) := by decide +kernel
theorem dL_law_316 : decode cL_law 316 = .ok (.invokevirtual 82, 3) := by decide +kernel
theorem dL_law_319 : decode cL_law 319 = .ok (.istore 6, 2) := by decide +kernel
theorem dL_law_321 : decode cL_law 321 = .ok (.aload_n 2, 1) := by decide +kernel
theorem dL_law_322 : decode cL_law 322 = .ok (.invokevirtual 69, 3) := by decide +kernel
theorem dL_law_325 : decode cL_law 325 = .ok (.iload 5, 2) := by decide +kernel
theorem dL_law_327 : decode cL_law 327 = .ok (.if_icmp .eq 5, 3) := by decide +kernel
theorem dL_law_330 : decode cL_law 330 = .ok (.iconst 0, 1) := by decide +kernel
theorem dL_law_331 : decode cL_law 331 = .ok (.ireturn, 1) := by decide +kernel
theorem dL_law_332 : decode cL_law 332 = .ok (.iload 5, 2) := by decide +kernel
theorem dL_law_334 : decode cL_law 334 = .ok (.ifCond .ne 15, 3) := by decide +kernel
theorem dL_law_337 : decode cL_law 337 = .ok (.aload_n 3, 1) := by decide +kernel
theorem dL_law_338 : decode cL_law 338 = .ok (.iconst 0, 1) := by decide +kernel
theorem dL_law_339 : decode cL_law 339 = .ok (.laload, 1) := by decide +kernel
theorem dL_law_340 : decode cL_law 340 = .ok (.iload 6, 2) := by decide +kernel
theorem dL_law_342 : decode cL_law 342 = .ok (.i2l, 1) := by decide +kernel
theorem dL_law_343 : decode cL_law 343 = .ok (.lcmp, 1) := by decide +kernel
theorem dL_law_344 : decode cL_law 344 = .ok (.ifCond .eq 5, 3) := by decide +kernel
theorem dL_law_347 : decode cL_law 347 = .ok (.iconst 0, 1) := by decide +kernel
theorem dL_law_348 : decode cL_law 348 = .ok (.ireturn, 1) := by decide +kernel
theorem dL_law_349 : decode cL_law 349 = .ok (.goto 635, 3) := by decide +kernel
theorem dL_law_352 : decode cL_law 352 = .ok (.aload_n 1, 1) := by decide +kernel
theorem dL_law_353 : decode cL_law 353 = .ok (.aload_n 0, 1) := by decide +kernel
theorem dL_law_354 : decode cL_law 354 = .ok (.iload 4, 2) := by decide +kernel
theorem dL_law_356 : decode cL_law 356 = .ok (.iconst 1, 1) := by decide +kernel
theorem dL_law_357 : decode cL_law 357 = .ok (.iadd, 1) := by decide +kernel
theorem dL_law_358 : decode cL_law 358 = .ok (.iaload, 1) := by decide +kernel
theorem dL_law_359 : decode cL_law 359 = .ok (.aload_n 0, 1) := by decide +kernel
theorem dL_law_360 : decode cL_law 360 = .ok (.iload 4, 2) := by decide +kernel
theorem dL_law_362 : decode cL_law 362 = .ok (.iconst 2, 1) := by decide +kernel
theorem dL_law_363 : decode cL_law 363 = .ok (.iadd, 1) := by decide +kernel
theorem dL_law_364 : decode cL_law 364 = .ok (.iaload, 1) := by decide +kernel
theorem dL_law_365 : decode cL_law 365 = .ok (.i2l, 1) := by decide +kernel
theorem dL_law_366 : decode cL_law 366 = .ok (.bipush 32, 2) := by decide +kernel
theorem dL_law_368 : decode cL_law 368 = .ok (.lshl, 1) := by decide +kernel
theorem dL_law_369 : decode cL_law 369 = .ok (.aload_n 0, 1) := by decide +kernel
theorem dL_law_370 : decode cL_law 370 = .ok (.iload 4, 2) := by decide +kernel
theorem dL_law_372 : decode cL_law 372 = .ok (.iconst 3, 1) := by decide +kernel
theorem dL_law_373 : decode cL_law 373 = .ok (.iadd, 1) := by decide +kernel
theorem dL_law_374 : decode cL_law 374 = .ok (.iaload, 1) := by decide +kernel
theorem dL_law_375 : decode cL_law 375 = .ok (.i2l, 1) := by decide +kernel
theorem dL_law_376 : decode cL_law 376 = .ok (.ldc2_w 73, 3) := by decide +kernel
theorem dL_law_379 : decode cL_law 379 = .ok (.land, 1) := by decide +kernel
theorem dL_law_380 : decode cL_law 380 = .ok (.lor, 1) := by decide +kernel
theorem dL_law_381 : decode cL_law 381 = .ok (.aload_n 3, 1) := by decide +kernel
theorem dL_law_382 : decode cL_law 382 = .ok (.invokestatic 83, 3) := by decide +kernel
theorem dL_law_385 : decode cL_law 385 = .ok (.istore 5, 2) := by decide +kernel
theorem dL_law_387 : decode cL_law 387 = .ok (.aload_n 2, 1) := by decide +kernel
theorem dL_law_388 : decode cL_law 388 = .ok (.aload_n 0, 1) := by decide +kernel
theorem dL_law_389 : decode cL_law 389 = .ok (.iload 4, 2) := by decide +kernel
theorem dL_law_391 : decode cL_law 391 = .ok (.iconst 1, 1) := by decide +kernel
theorem dL_law_392 : decode cL_law 392 = .ok (.iadd, 1) := by decide +kernel
theorem dL_law_393 : decode cL_law 393 = .ok (.iaload, 1) := by decide +kernel
theorem dL_law_394 : decode cL_law 394 = .ok (.aload_n 0, 1) := by decide +kernel
theorem dL_law_395 : decode cL_law 395 = .ok (.iload 4, 2) := by decide +kernel
theorem dL_law_397 : decode cL_law 397 = .ok (.iconst 2, 1) := by decide +kernel
theorem dL_law_398 : decode cL_law 398 = .ok (.iadd, 1) := by decide +kernel
theorem dL_law_399 : decode cL_law 399 = .ok (.iaload, 1) := by decide +kernel
theorem dL_law_400 : decode cL_law 400 = .ok (.i2l, 1) := by decide +kernel
theorem dL_law_401 : decode cL_law 401 = .ok (.bipush 32, 2) := by decide +kernel
theorem dL_law_403 : decode cL_law 403 = .ok (.lshl, 1) := by decide +kernel
theorem dL_law_404 : decode cL_law 404 = .ok (.aload_n 0, 1) := by decide +kernel
theorem dL_law_405 : decode cL_law 405 = .ok (.iload 4, 2) := by decide +kernel
theorem dL_law_407 : decode cL_law 407 = .ok (.iconst 3, 1) := by decide +kernel
theorem dL_law_408 : decode cL_law 408 = .ok (.iadd, 1) := by decide +kernel
theorem dL_law_409 : decode cL_law 409 = .ok (.iaload, 1) := by decide +kernel
theorem dL_law_410 : decode cL_law 410 = .ok (.i2l, 1) := by decide +kernel
theorem dL_law_411 : decode cL_law 411 = .ok (.ldc2_w 73, 3) := by decide +kernel
theorem dL_law_414 : decode cL_law 414 = .ok (.land, 1) := by decide +kernel
theorem dL_law_415 : decode cL_law 415 = .ok (.lor, 1) := by decide +kernel
theorem dL_law_416 : decode cL_law 416 = .ok (.invokevirtual 86, 3) := by decide +kernel
theorem dL_law_419 : decode cL_law 419 = .ok (.lstore 6, 2) := by decide +kernel
theorem dL_law_421 : decode cL_law 421 = .ok (.aload_n 2, 1) := by decide +kernel
theorem dL_law_422 : decode cL_law 422 = .ok (.invokevirtual 69, 3) := by decide +kernel
theorem dL_law_425 : decode cL_law 425 = .ok (.iload 5, 2) := by decide +kernel
theorem dL_law_427 : decode cL_law 427 = .ok (.if_icmp .eq 5, 3) := by decide +kernel
theorem dL_law_430 : decode cL_law 430 = .ok (.iconst 0, 1) := by decide +kernel
theorem dL_law_431 : decode cL_law 431 = .ok (.ireturn, 1) := by decide +kernel
theorem dL_law_432 : decode cL_law 432 = .ok (.iload 5, 2) := by decide +kernel
theorem dL_law_434 : decode cL_law 434 = .ok (.ifCond .ne 14, 3) := by decide +kernel
theorem dL_law_437 : decode cL_law 437 = .ok (.aload_n 3, 1) := by decide +kernel
theorem dL_law_438 : decode cL_law 438 = .ok (.iconst 0, 1) := by decide +kernel
theorem dL_law_439 : decode cL_law 439 = .ok (.laload, 1) := by decide +kernel
theorem dL_law_440 : decode cL_law 440 = .ok (.lload 6, 2) := by decide +kernel
theorem dL_law_442 : decode cL_law 442 = .ok (.lcmp, 1) := by decide +kernel
theorem dL_law_443 : decode cL_law 443 = .ok (.ifCond .eq 5, 3) := by decide +kernel
theorem dL_law_446 : decode cL_law 446 = .ok (.iconst 0, 1) := by decide +kernel
theorem dL_law_447 : decode cL_law 447 = .ok (.ireturn, 1) := by decide +kernel
theorem dL_law_448 : decode cL_law 448 = .ok (.goto 536, 3) := by decide +kernel
theorem dL_law_451 : decode cL_law 451 = .ok (.aload_n 1, 1) := by decide +kernel
theorem dL_law_452 : decode cL_law 452 = .ok (.aload_n 0, 1) := by decide +kernel
theorem dL_law_453 : decode cL_law 453 = .ok (.iload 4, 2) := by decide +kernel
theorem dL_law_455 : decode cL_law 455 = .ok (.iconst 1, 1) := by decide +kernel
theorem dL_law_456 : decode cL_law 456 = .ok (.iadd, 1) := by decide +kernel
theorem dL_law_457 : decode cL_law 457 = .ok (.iaload, 1) := by decide +kernel
theorem dL_law_458 : decode cL_law 458 = .ok (.aload_n 0, 1) := by decide +kernel
theorem dL_law_459 : decode cL_law 459 = .ok (.iload 4, 2) := by decide +kernel
theorem dL_law_461 : decode cL_law 461 = .ok (.iconst 2, 1) := by decide +kernel
theorem dL_law_462 : decode cL_law 462 = .ok (.iadd, 1) := by decide +kernel
theorem dL_law_463 : decode cL_law 463 = .ok (.iaload, 1) := by decide +kernel
theorem dL_law_464 : decode cL_law 464 = .ok (.aload_n 3, 1) := by decide +kernel
theorem dL_law_465 : decode cL_law 465 = .ok (.invokestatic 87, 3) := by decide +kernel
theorem dL_law_468 : decode cL_law 468 = .ok (.istore 5, 2) := by decide +kernel
theorem dL_law_470 : decode cL_law 470 = .ok (.aload_n 2, 1) := by decide +kernel
theorem dL_law_471 : decode cL_law 471 = .ok (.aload_n 0, 1) := by decide +kernel
theorem dL_law_472 : decode cL_law 472 = .ok (.iload 4, 2) := by decide +kernel
theorem dL_law_474 : decode cL_law 474 = .ok (.iconst 1, 1) := by decide +kernel
theorem dL_law_475 : decode cL_law 475 = .ok (.iadd, 1) := by decide +kernel
theorem dL_law_476 : decode cL_law 476 = .ok (.iaload, 1) := by decide +kernel
theorem dL_law_477 : decode cL_law 477 = .ok (.aload_n 0, 1) := by decide +kernel
theorem dL_law_478 : decode cL_law 478 = .ok (.iload 4, 2) := by decide +kernel
theorem dL_law_480 : decode cL_law 480 = .ok (.iconst 2, 1) := by decide +kernel
theorem dL_law_481 : decode cL_law 481 = .ok (.iadd, 1) := by decide +kernel
theorem dL_law_482 : decode cL_law 482 = .ok (.iaload, 1) := by decide +kernel
theorem dL_law_483 : decode cL_law 483 = .ok (.invokevirtual 90, 3) := by decide +kernel
theorem dL_law_486 : decode cL_law 486 = .ok (.lstore 6, 2) := by decide +kernel
theorem dL_law_488 : decode cL_law 488 = .ok (.aload_n 2, 1) := by decide +kernel
theorem dL_law_489 : decode cL_law 489 = .ok (.invokevirtual 69, 3) := by decide +kernel
theorem dL_law_492 : decode cL_law 492 = .ok (.iload 5, 2) := by decide +kernel
theorem dL_law_494 : decode cL_law 494 = .ok (.if_icmp .eq 5, 3) := by decide +kernel
theorem dL_law_497 : decode cL_law 497 = .ok (.iconst 0, 1) := by decide +kernel
theorem dL_law_498 : decode cL_law 498 = .ok (.ireturn, 1) := by decide +kernel
theorem dL_law_499 : decode cL_law 499 = .ok (.iload 5, 2) := by decide +kernel
theorem dL_law_501 : decode cL_law 501 = .ok (.ifCond .ne 14, 3) := by decide +kernel
theorem dL_law_504 : decode cL_law 504 = .ok (.aload_n 3, 1) := by decide +kernel
theorem dL_law_505 : decode cL_law 505 = .ok (.iconst 0, 1) := by decide +kernel
theorem dL_law_506 : decode cL_law 506 = .ok (.laload, 1) := by decide +kernel
theorem dL_law_507 : decode cL_law 507 = .ok (.lload 6, 2) := by decide +kernel
theorem dL_law_509 : decode cL_law 509 = .ok (.lcmp, 1) := by decide +kernel
theorem dL_law_510 : decode cL_law 510 = .ok (.ifCond .eq 5, 3) := by decide +kernel
theorem dL_law_513 : decode cL_law 513 = .ok (.iconst 0, 1) := by decide +kernel
theorem dL_law_514 : decode cL_law 514 = .ok (.ireturn, 1) := by decide +kernel
theorem dL_law_515 : decode cL_law 515 = .ok (.goto 469, 3) := by decide +kernel
theorem dL_law_518 : decode cL_law 518 = .ok (.aload_n 1, 1) := by decide +kernel
theorem dL_law_519 : decode cL_law 519 = .ok (.aload_n 0, 1) := by decide +kernel
theorem dL_law_520 : decode cL_law 520 = .ok (.iload 4, 2) := by decide +kernel
theorem dL_law_522 : decode cL_law 522 = .ok (.iconst 1, 1) := by decide +kernel
theorem dL_law_523 : decode cL_law 523 = .ok (.iadd, 1) := by decide +kernel
theorem dL_law_524 : decode cL_law 524 = .ok (.iaload, 1) := by decide +kernel
theorem dL_law_525 : decode cL_law 525 = .ok (.aload_n 0, 1) := by decide +kernel
theorem dL_law_526 : decode cL_law 526 = .ok (.iload 4, 2) := by decide +kernel
theorem dL_law_528 : decode cL_law 528 = .ok (.iconst 2, 1) := by decide +kernel
theorem dL_law_529 : decode cL_law 529 = .ok (.iadd, 1) := by decide +kernel
theorem dL_law_530 : decode cL_law 530 = .ok (.iaload, 1) := by decide +kernel
theorem dL_law_531 : decode cL_law 531 = .ok (.aload_n 3, 1) := by decide +kernel
theorem dL_law_532 : decode cL_law 532 = .ok (.invokestatic 91, 3) := by decide +kernel
theorem dL_law_535 : decode cL_law 535 = .ok (.istore 5, 2) := by decide +kernel
theorem dL_law_537 : decode cL_law 537 = .ok (.aload_n 2, 1) := by decide +kernel
theorem dL_law_538 : decode cL_law 538 = .ok (.aload_n 0, 1) := by decide +kernel
theorem dL_law_539 : decode cL_law 539 = .ok (.iload 4, 2) := by decide +kernel
theorem dL_law_541 : decode cL_law 541 = .ok (.iconst 1, 1) := by decide +kernel
theorem dL_law_542 : decode cL_law 542 = .ok (.iadd, 1) := by decide +kernel
theorem dL_law_543 : decode cL_law 543 = .ok (.iaload, 1) := by decide +kernel
theorem dL_law_544 : decode cL_law 544 = .ok (.aload_n 0, 1) := by decide +kernel
theorem dL_law_545 : decode cL_law 545 = .ok (.iload 4, 2) := by decide +kernel
theorem dL_law_547 : decode cL_law 547 = .ok (.iconst 2, 1) := by decide +kernel
theorem dL_law_548 : decode cL_law 548 = .ok (.iadd, 1) := by decide +kernel
theorem dL_law_549 : decode cL_law 549 = .ok (.iaload, 1) := by decide +kernel
theorem dL_law_550 : decode cL_law 550 = .ok (.invokevirtual 93, 3) := by decide +kernel
theorem dL_law_553 : decode cL_law 553 = .ok (.lstore 6, 2) := by decide +kernel
theorem dL_law_555 : decode cL_law 555 = .ok (.aload_n 2, 1) := by decide +kernel
theorem dL_law_556 : decode cL_law 556 = .ok (.invokevirtual 69, 3) := by decide +kernel
theorem dL_law_559 : decode cL_law 559 = .ok (.iload 5, 2) := by decide +kernel
theorem dL_law_561 : decode cL_law 561 = .ok (.if_icmp .eq 5, 3) := by decide +kernel
theorem dL_law_564 : decode cL_law 564 = .ok (.iconst 0, 1) := by decide +kernel
theorem dL_law_565 : decode cL_law 565 = .ok (.ireturn, 1) := by decide +kernel
theorem dL_law_566 : decode cL_law 566 = .ok (.iload 5, 2) := by decide +kernel
theorem dL_law_568 : decode cL_law 568 = .ok (.ifCond .ne 14, 3) := by decide +kernel
theorem dL_law_571 : decode cL_law 571 = .ok (.aload_n 3, 1) := by decide +kernel
theorem dL_law_572 : decode cL_law 572 = .ok (.iconst 0, 1) := by decide +kernel
theorem dL_law_573 : decode cL_law 573 = .ok (.laload, 1) := by decide +kernel
theorem dL_law_574 : decode cL_law 574 = .ok (.lload 6, 2) := by decide +kernel
theorem dL_law_576 : decode cL_law 576 = .ok (.lcmp, 1) := by decide +kernel
theorem dL_law_577 : decode cL_law 577 = .ok (.ifCond .eq 5, 3) := by decide +kernel
theorem dL_law_580 : decode cL_law 580 = .ok (.iconst 0, 1) := by decide +kernel
theorem dL_law_581 : decode cL_law 581 = .ok (.ireturn, 1) := by decide +kernel
theorem dL_law_582 : decode cL_law 582 = .ok (.goto 402, 3) := by decide +kernel
theorem dL_law_585 : decode cL_law 585 = .ok (.aload_n 1, 1) := by decide +kernel
theorem dL_law_586 : decode cL_law 586 = .ok (.aload_n 0, 1) := by decide +kernel
theorem dL_law_587 : decode cL_law 587 = .ok (.iload 4, 2) := by decide +kernel
theorem dL_law_589 : decode cL_law 589 = .ok (.iconst 1, 1) := by decide +kernel
theorem dL_law_590 : decode cL_law 590 = .ok (.iadd, 1) := by decide +kernel
theorem dL_law_591 : decode cL_law 591 = .ok (.iaload, 1) := by decide +kernel
theorem dL_law_592 : decode cL_law 592 = .ok (.aload_n 3, 1) := by decide +kernel
theorem dL_law_593 : decode cL_law 593 = .ok (.invokestatic 94, 3) := by decide +kernel
theorem dL_law_596 : decode cL_law 596 = .ok (.istore 5, 2) := by decide +kernel
theorem dL_law_598 : decode cL_law 598 = .ok (.aload_n 2, 1) := by decide +kernel
theorem dL_law_599 : decode cL_law 599 = .ok (.aload_n 0, 1) := by decide +kernel
theorem dL_law_600 : decode cL_law 600 = .ok (.iload 4, 2) := by decide +kernel
theorem dL_law_602 : decode cL_law 602 = .ok (.iconst 1, 1) := by decide +kernel
theorem dL_law_603 : decode cL_law 603 = .ok (.iadd, 1) := by decide +kernel
theorem dL_law_604 : decode cL_law 604 = .ok (.iaload, 1) := by decide +kernel
theorem dL_law_605 : decode cL_law 605 = .ok (.invokevirtual 96, 3) := by decide +kernel
theorem dL_law_608 : decode cL_law 608 = .ok (.istore 6, 2) := by decide +kernel
theorem dL_law_610 : decode cL_law 610 = .ok (.aload_n 2, 1) := by decide +kernel
theorem dL_law_611 : decode cL_law 611 = .ok (.invokevirtual 69, 3) := by decide +kernel
theorem dL_law_614 : decode cL_law 614 = .ok (.iload 5, 2) := by decide +kernel
theorem dL_law_616 : decode cL_law 616 = .ok (.if_icmp .eq 5, 3) := by decide +kernel
theorem dL_law_619 : decode cL_law 619 = .ok (.iconst 0, 1) := by decide +kernel
theorem dL_law_620 : decode cL_law 620 = .ok (.ireturn, 1) := by decide +kernel
theorem dL_law_621 : decode cL_law 621 = .ok (.iload 5, 2) := by decide +kernel
theorem dL_law_623 : decode cL_law 623 = .ok (.ifCond .ne 15, 3) := by decide +kernel
theorem dL_law_626 : decode cL_law 626 = .ok (.aload_n 3, 1) := by decide +kernel
theorem dL_law_627 : decode cL_law 627 = .ok (.iconst 0, 1) := by decide +kernel
theorem dL_law_628 : decode cL_law 628 = .ok (.laload, 1) := by decide +kernel
theorem dL_law_629 : decode cL_law 629 = .ok (.iload 6, 2) := by decide +kernel
theorem dL_law_631 : decode cL_law 631 = .ok (.i2l, 1) := by decide +kernel
theorem dL_law_632 : decode cL_law 632 = .ok (.lcmp, 1) := by decide +kernel
theorem dL_law_633 : decode cL_law 633 = .ok (.ifCond .eq 5, 3) := by decide +kernel
theorem dL_law_636 : decode cL_law 636 = .ok (.iconst 0, 1) := by decide +kernel
theorem dL_law_637 : decode cL_law 637 = .ok (.ireturn, 1) := by decide +kernel
theorem dL_law_638 : decode cL_law 638 = .ok (.goto 346, 3) := by decide +kernel
theorem dL_law_641 : decode cL_law 641 = .ok (.aload_n 1, 1) := by decide +kernel
theorem dL_law_642 : decode cL_law 642 = .ok (.aload_n 0, 1) := by decide +kernel
theorem dL_law_643 : decode cL_law 643 = .ok (.iload 4, 2) := by decide +kernel
theorem dL_law_645 : decode cL_law 645 = .ok (.iconst 1, 1) := by decide +kernel
theorem dL_law_646 : decode cL_law 646 = .ok (.iadd, 1) := by decide +kernel
theorem dL_law_647 : decode cL_law 647 = .ok (.iaload, 1) := by decide +kernel
theorem dL_law_648 : decode cL_law 648 = .ok (.aload_n 0, 1) := by decide +kernel
theorem dL_law_649 : decode cL_law 649 = .ok (.iload 4, 2) := by decide +kernel
theorem dL_law_651 : decode cL_law 651 = .ok (.iconst 2, 1) := by decide +kernel
theorem dL_law_652 : decode cL_law 652 = .ok (.iadd, 1) := by decide +kernel
theorem dL_law_653 : decode cL_law 653 = .ok (.iaload, 1) := by decide +kernel
theorem dL_law_654 : decode cL_law 654 = .ok (.i2l, 1) := by decide +kernel
theorem dL_law_655 : decode cL_law 655 = .ok (.bipush 32, 2) := by decide +kernel
theorem dL_law_657 : decode cL_law 657 = .ok (.lshl, 1) := by decide +kernel
theorem dL_law_658 : decode cL_law 658 = .ok (.aload_n 0, 1) := by decide +kernel
theorem dL_law_659 : decode cL_law 659 = .ok (.iload 4, 2) := by decide +kernel
theorem dL_law_661 : decode cL_law 661 = .ok (.iconst 3, 1) := by decide +kernel
theorem dL_law_662 : decode cL_law 662 = .ok (.iadd, 1) := by decide +kernel
theorem dL_law_663 : decode cL_law 663 = .ok (.iaload, 1) := by decide +kernel
theorem dL_law_664 : decode cL_law 664 = .ok (.i2l, 1) := by decide +kernel
theorem dL_law_665 : decode cL_law 665 = .ok (.ldc2_w 73, 3) := by decide +kernel
theorem dL_law_668 : decode cL_law 668 = .ok (.land, 1) := by decide +kernel
theorem dL_law_669 : decode cL_law 669 = .ok (.lor, 1) := by decide +kernel
theorem dL_law_670 : decode cL_law 670 = .ok (.aload_n 0, 1) := by decide +kernel
theorem dL_law_671 : decode cL_law 671 = .ok (.iload 4, 2) := by decide +kernel
theorem dL_law_673 : decode cL_law 673 = .ok (.iconst 4, 1) := by decide +kernel
theorem dL_law_674 : decode cL_law 674 = .ok (.iadd, 1) := by decide +kernel
theorem dL_law_675 : decode cL_law 675 = .ok (.iaload, 1) := by decide +kernel
theorem dL_law_676 : decode cL_law 676 = .ok (.i2l, 1) := by decide +kernel
theorem dL_law_677 : decode cL_law 677 = .ok (.bipush 32, 2) := by decide +kernel
theorem dL_law_679 : decode cL_law 679 = .ok (.lshl, 1) := by decide +kernel
theorem dL_law_680 : decode cL_law 680 = .ok (.aload_n 0, 1) := by decide +kernel
theorem dL_law_681 : decode cL_law 681 = .ok (.iload 4, 2) := by decide +kernel
theorem dL_law_683 : decode cL_law 683 = .ok (.iconst 5, 1) := by decide +kernel
theorem dL_law_684 : decode cL_law 684 = .ok (.iadd, 1) := by decide +kernel
theorem dL_law_685 : decode cL_law 685 = .ok (.iaload, 1) := by decide +kernel
theorem dL_law_686 : decode cL_law 686 = .ok (.i2l, 1) := by decide +kernel
theorem dL_law_687 : decode cL_law 687 = .ok (.ldc2_w 73, 3) := by decide +kernel
theorem dL_law_690 : decode cL_law 690 = .ok (.land, 1) := by decide +kernel
theorem dL_law_691 : decode cL_law 691 = .ok (.lor, 1) := by decide +kernel
theorem dL_law_692 : decode cL_law 692 = .ok (.aload_n 3, 1) := by decide +kernel
theorem dL_law_693 : decode cL_law 693 = .ok (.invokestatic 97, 3) := by decide +kernel
theorem dL_law_696 : decode cL_law 696 = .ok (.istore 5, 2) := by decide +kernel
theorem dL_law_698 : decode cL_law 698 = .ok (.aload_n 2, 1) := by decide +kernel
theorem dL_law_699 : decode cL_law 699 = .ok (.aload_n 0, 1) := by decide +kernel
theorem dL_law_700 : decode cL_law 700 = .ok (.iload 4, 2) := by decide +kernel
theorem dL_law_702 : decode cL_law 702 = .ok (.iconst 1, 1) := by decide +kernel
theorem dL_law_703 : decode cL_law 703 = .ok (.iadd, 1) := by decide +kernel
theorem dL_law_704 : decode cL_law 704 = .ok (.iaload, 1) := by decide +kernel
theorem dL_law_705 : decode cL_law 705 = .ok (.aload_n 0, 1) := by decide +kernel
theorem dL_law_706 : decode cL_law 706 = .ok (.iload 4, 2) := by decide +kernel
theorem dL_law_708 : decode cL_law 708 = .ok (.iconst 2, 1) := by decide +kernel
theorem dL_law_709 : decode cL_law 709 = .ok (.iadd, 1) := by decide +kernel
theorem dL_law_710 : decode cL_law 710 = .ok (.iaload, 1) := by decide +kernel
theorem dL_law_711 : decode cL_law 711 = .ok (.i2l, 1) := by decide +kernel
theorem dL_law_712 : decode cL_law 712 = .ok (.bipush 32, 2) := by decide +kernel
theorem dL_law_714 : decode cL_law 714 = .ok (.lshl, 1) := by decide +kernel
theorem dL_law_715 : decode cL_law 715 = .ok (.aload_n 0, 1) := by decide +kernel
theorem dL_law_716 : decode cL_law 716 = .ok (.iload 4, 2) := by decide +kernel
theorem dL_law_718 : decode cL_law 718 = .ok (.iconst 3, 1) := by decide +kernel
theorem dL_law_719 : decode cL_law 719 = .ok (.iadd, 1) := by decide +kernel
theorem dL_law_720 : decode cL_law 720 = .ok (.iaload, 1) := by decide +kernel
theorem dL_law_721 : decode cL_law 721 = .ok (.i2l, 1) := by decide +kernel
theorem dL_law_722 : decode cL_law 722 = .ok (.ldc2_w 73, 3) := by decide +kernel
theorem dL_law_725 : decode cL_law 725 = .ok (.land, 1) := by decide +kernel
theorem dL_law_726 : decode cL_law 726 = .ok (.lor, 1) := by decide +kernel
theorem dL_law_727 : decode cL_law 727 = .ok (.aload_n 0, 1) := by decide +kernel
theorem dL_law_728 : decode cL_law 728 = .ok (.iload 4, 2) := by decide +kernel
theorem dL_law_730 : decode cL_law 730 = .ok (.iconst 4, 1) := by decide +kernel
theorem dL_law_731 : decode cL_law 731 = .ok (.iadd, 1) := by decide +kernel
theorem dL_law_732 : decode cL_law 732 = .ok (.iaload, 1) := by decide +kernel
theorem dL_law_733 : decode cL_law 733 = .ok (.i2l, 1) := by decide +kernel
theorem dL_law_734 : decode cL_law 734 = .ok (.bipush 32, 2) := by decide +kernel
theorem dL_law_736 : decode cL_law 736 = .ok (.lshl, 1) := by decide +kernel
theorem dL_law_737 : decode cL_law 737 = .ok (.aload_n 0, 1) := by decide +kernel
theorem dL_law_738 : decode cL_law 738 = .ok (.iload 4, 2) := by decide +kernel
theorem dL_law_740 : decode cL_law 740 = .ok (.iconst 5, 1) := by decide +kernel
theorem dL_law_741 : decode cL_law 741 = .ok (.iadd, 1) := by decide +kernel
theorem dL_law_742 : decode cL_law 742 = .ok (.iaload, 1) := by decide +kernel
theorem dL_law_743 : decode cL_law 743 = .ok (.i2l, 1) := by decide +kernel
theorem dL_law_744 : decode cL_law 744 = .ok (.ldc2_w 73, 3) := by decide +kernel
theorem dL_law_747 : decode cL_law 747 = .ok (.land, 1) := by decide +kernel
theorem dL_law_748 : decode cL_law 748 = .ok (.lor, 1) := by decide +kernel
theorem dL_law_749 : decode cL_law 749 = .ok (.invokevirtual 100, 3) := by decide +kernel
theorem dL_law_752 : decode cL_law 752 = .ok (.istore 6, 2) := by decide +kernel
theorem dL_law_754 : decode cL_law 754 = .ok (.aload_n 2, 1) := by decide +kernel
theorem dL_law_755 : decode cL_law 755 = .ok (.invokevirtual 69, 3) := by decide +kernel
theorem dL_law_758 : decode cL_law 758 = .ok (.iload 5, 2) := by decide +kernel
theorem dL_law_760 : decode cL_law 760 = .ok (.if_icmp .eq 5, 3) := by decide +kernel
theorem dL_law_763 : decode cL_law 763 = .ok (.iconst 0, 1) := by decide +kernel
theorem dL_law_764 : decode cL_law 764 = .ok (.ireturn, 1) := by decide +kernel
theorem dL_law_765 : decode cL_law 765 = .ok (.iload 5, 2) := by decide +kernel
theorem dL_law_767 : decode cL_law 767 = .ok (.ifCond .ne 22, 3) := by decide +kernel
theorem dL_law_770 : decode cL_law 770 = .ok (.aload_n 3, 1) := by decide +kernel
theorem dL_law_771 : decode cL_law 771 = .ok (.iconst 0, 1) := by decide +kernel
theorem dL_law_772 : decode cL_law 772 = .ok (.laload, 1) := by decide +kernel
theorem dL_law_773 : decode cL_law 773 = .ok (.iload 6, 2) := by decide +kernel
theorem dL_law_775 : decode cL_law 775 = .ok (.ifCond .eq 7, 3) := by decide +kernel
theorem dL_law_778 : decode cL_law 778 = .ok (.lconst 1, 1) := by decide +kernel
theorem dL_law_779 : decode cL_law 779 = .ok (.goto 4, 3) := by decide +kernel
theorem dL_law_782 : decode cL_law 782 = .ok (.lconst 0, 1) := by decide +kernel
theorem dL_law_783 : decode cL_law 783 = .ok (.lcmp, 1) := by decide +kernel
theorem dL_law_784 : decode cL_law 784 = .ok (.ifCond .eq 5, 3) := by decide +kernel
theorem dL_law_787 : decode cL_law 787 = .ok (.iconst 0, 1) := by decide +kernel
theorem dL_law_788 : decode cL_law 788 = .ok (.ireturn, 1) := by decide +kernel
theorem dL_law_789 : decode cL_law 789 = .ok (.goto 195, 3) := by decide +kernel
theorem dL_law_792 : decode cL_law 792 = .ok (.aload_n 1, 1) := by decide +kernel
theorem dL_law_793 : decode cL_law 793 = .ok (.aload_n 0, 1) := by decide +kernel
theorem dL_law_794 : decode cL_law 794 = .ok (.iload 4, 2) := by decide +kernel
theorem dL_law_796 : decode cL_law 796 = .ok (.iconst 1, 1) := by decide +kernel
theorem dL_law_797 : decode cL_law 797 = .ok (.iadd, 1) := by decide +kernel
theorem dL_law_798 : decode cL_law 798 = .ok (.iaload, 1) := by decide +kernel
theorem dL_law_799 : decode cL_law 799 = .ok (.aload_n 3, 1) := by decide +kernel
theorem dL_law_800 : decode cL_law 800 = .ok (.invokestatic 101, 3) := by decide +kernel
theorem dL_law_803 : decode cL_law 803 = .ok (.istore 5, 2) := by decide +kernel
theorem dL_law_805 : decode cL_law 805 = .ok (.aload_n 2, 1) := by decide +kernel
theorem dL_law_806 : decode cL_law 806 = .ok (.aload_n 0, 1) := by decide +kernel
theorem dL_law_807 : decode cL_law 807 = .ok (.iload 4, 2) := by decide +kernel
theorem dL_law_809 : decode cL_law 809 = .ok (.iconst 1, 1) := by decide +kernel
theorem dL_law_810 : decode cL_law 810 = .ok (.iadd, 1) := by decide +kernel
theorem dL_law_811 : decode cL_law 811 = .ok (.iaload, 1) := by decide +kernel
theorem dL_law_812 : decode cL_law 812 = .ok (.invokevirtual 103, 3) := by decide +kernel
theorem dL_law_815 : decode cL_law 815 = .ok (.lstore 6, 2) := by decide +kernel
theorem dL_law_817 : decode cL_law 817 = .ok (.aload_n 2, 1) := by decide +kernel
theorem dL_law_818 : decode cL_law 818 = .ok (.invokevirtual 69, 3) := by decide +kernel
theorem dL_law_821 : decode cL_law 821 = .ok (.iload 5, 2) := by decide +kernel
theorem dL_law_823 : decode cL_law 823 = .ok (.if_icmp .eq 5, 3) := by decide +kernel
theorem dL_law_826 : decode cL_law 826 = .ok (.iconst 0, 1) := by decide +kernel
theorem dL_law_827 : decode cL_law 827 = .ok (.ireturn, 1) := by decide +kernel
theorem dL_law_828 : decode cL_law 828 = .ok (.iload 5, 2) := by decide +kernel
theorem dL_law_830 : decode cL_law 830 = .ok (.ifCond .ne 14, 3) := by decide +kernel
theorem dL_law_833 : decode cL_law 833 = .ok (.aload_n 3, 1) := by decide +kernel
theorem dL_law_834 : decode cL_law 834 = .ok (.iconst 0, 1) := by decide +kernel
theorem dL_law_835 : decode cL_law 835 = .ok (.laload, 1) := by decide +kernel
theorem dL_law_836 : decode cL_law 836 = .ok (.lload 6, 2) := by decide +kernel
theorem dL_law_838 : decode cL_law 838 = .ok (.lcmp, 1) := by decide +kernel
theorem dL_law_839 : decode cL_law 839 = .ok (.ifCond .eq 5, 3) := by decide +kernel
theorem dL_law_842 : decode cL_law 842 = .ok (.iconst 0, 1) := by decide +kernel
theorem dL_law_843 : decode cL_law 843 = .ok (.ireturn, 1) := by decide +kernel
theorem dL_law_844 : decode cL_law 844 = .ok (.goto 140, 3) := by decide +kernel
theorem dL_law_847 : decode cL_law 847 = .ok (.aload_n 1, 1) := by decide +kernel
theorem dL_law_848 : decode cL_law 848 = .ok (.aload_n 0, 1) := by decide +kernel
theorem dL_law_849 : decode cL_law 849 = .ok (.iload 4, 2) := by decide +kernel
theorem dL_law_851 : decode cL_law 851 = .ok (.iconst 1, 1) := by decide +kernel
theorem dL_law_852 : decode cL_law 852 = .ok (.iadd, 1) := by decide +kernel
theorem dL_law_853 : decode cL_law 853 = .ok (.iaload, 1) := by decide +kernel
theorem dL_law_854 : decode cL_law 854 = .ok (.aload_n 3, 1) := by decide +kernel
theorem dL_law_855 : decode cL_law 855 = .ok (.invokestatic 104, 3) := by decide +kernel
theorem dL_law_858 : decode cL_law 858 = .ok (.istore 5, 2) := by decide +kernel
theorem dL_law_860 : decode cL_law 860 = .ok (.aload_n 2, 1) := by decide +kernel
theorem dL_law_861 : decode cL_law 861 = .ok (.aload_n 0, 1) := by decide +kernel
theorem dL_law_862 : decode cL_law 862 = .ok (.iload 4, 2) := by decide +kernel
theorem dL_law_864 : decode cL_law 864 = .ok (.iconst 1, 1) := by decide +kernel
theorem dL_law_865 : decode cL_law 865 = .ok (.iadd, 1) := by decide +kernel
theorem dL_law_866 : decode cL_law 866 = .ok (.iaload, 1) := by decide +kernel
theorem dL_law_867 : decode cL_law 867 = .ok (.invokevirtual 106, 3) := by decide +kernel
theorem dL_law_870 : decode cL_law 870 = .ok (.istore 6, 2) := by decide +kernel
theorem dL_law_872 : decode cL_law 872 = .ok (.aload_n 2, 1) := by decide +kernel
theorem dL_law_873 : decode cL_law 873 = .ok (.invokevirtual 69, 3) := by decide +kernel
theorem dL_law_876 : decode cL_law 876 = .ok (.iload 5, 2) := by decide +kernel
theorem dL_law_878 : decode cL_law 878 = .ok (.if_icmp .eq 5, 3) := by decide +kernel
theorem dL_law_881 : decode cL_law 881 = .ok (.iconst 0, 1) := by decide +kernel
theorem dL_law_882 : decode cL_law 882 = .ok (.ireturn, 1) := by decide +kernel
theorem dL_law_883 : decode cL_law 883 = .ok (.iload 5, 2) := by decide +kernel
theorem dL_law_885 : decode cL_law 885 = .ok (.ifCond .ne 15, 3) := by decide +kernel
theorem dL_law_888 : decode cL_law 888 = .ok (.aload_n 3, 1) := by decide +kernel
theorem dL_law_889 : decode cL_law 889 = .ok (.iconst 0, 1) := by decide +kernel
theorem dL_law_890 : decode cL_law 890 = .ok (.laload, 1) := by decide +kernel
theorem dL_law_891 : decode cL_law 891 = .ok (.iload 6, 2) := by decide +kernel
theorem dL_law_893 : decode cL_law 893 = .ok (.i2l, 1) := by decide +kernel
theorem dL_law_894 : decode cL_law 894 = .ok (.lcmp, 1) := by decide +kernel
theorem dL_law_895 : decode cL_law 895 = .ok (.ifCond .eq 5, 3) := by decide +kernel
theorem dL_law_898 : decode cL_law 898 = .ok (.iconst 0, 1) := by decide +kernel
theorem dL_law_899 : decode cL_law 899 = .ok (.ireturn, 1) := by decide +kernel
theorem dL_law_900 : decode cL_law 900 = .ok (.goto 84, 3) := by decide +kernel
theorem dL_law_903 : decode cL_law 903 = .ok (.aload_n 1, 1) := by decide +kernel
theorem dL_law_904 : decode cL_law 904 = .ok (.aload_n 0, 1) := by decide +kernel
theorem dL_law_905 : decode cL_law 905 = .ok (.iload 4, 2) := by decide +kernel
theorem dL_law_907 : decode cL_law 907 = .ok (.iconst 1, 1) := by decide +kernel
theorem dL_law_908 : decode cL_law 908 = .ok (.iadd, 1) := by decide +kernel
theorem dL_law_909 : decode cL_law 909 = .ok (.iaload, 1) := by decide +kernel
theorem dL_law_910 : decode cL_law 910 = .ok (.aload_n 3, 1) := by decide +kernel
theorem dL_law_911 : decode cL_law 911 = .ok (.invokestatic 107, 3) := by decide +kernel
theorem dL_law_914 : decode cL_law 914 = .ok (.istore 5, 2) := by decide +kernel
theorem dL_law_916 : decode cL_law 916 = .ok (.aload_n 2, 1) := by decide +kernel
theorem dL_law_917 : decode cL_law 917 = .ok (.aload_n 0, 1) := by decide +kernel
theorem dL_law_918 : decode cL_law 918 = .ok (.iload 4, 2) := by decide +kernel
theorem dL_law_920 : decode cL_law 920 = .ok (.iconst 1, 1) := by decide +kernel
theorem dL_law_921 : decode cL_law 921 = .ok (.iadd, 1) := by decide +kernel
theorem dL_law_922 : decode cL_law 922 = .ok (.iaload, 1) := by decide +kernel
theorem dL_law_923 : decode cL_law 923 = .ok (.invokevirtual 109, 3) := by decide +kernel
theorem dL_law_926 : decode cL_law 926 = .ok (.istore 6, 2) := by decide +kernel
theorem dL_law_928 : decode cL_law 928 = .ok (.aload_n 2, 1) := by decide +kernel
theorem dL_law_929 : decode cL_law 929 = .ok (.invokevirtual 69, 3) := by decide +kernel
theorem dL_law_932 : decode cL_law 932 = .ok (.iload 5, 2) := by decide +kernel
theorem dL_law_934 : decode cL_law 934 = .ok (.if_icmp .eq 5, 3) := by decide +kernel
theorem dL_law_937 : decode cL_law 937 = .ok (.iconst 0, 1) := by decide +kernel
theorem dL_law_938 : decode cL_law 938 = .ok (.ireturn, 1) := by decide +kernel
theorem dL_law_939 : decode cL_law 939 = .ok (.iload 5, 2) := by decide +kernel
theorem dL_law_941 : decode cL_law 941 = .ok (.ifCond .ne 15, 3) := by decide +kernel
theorem dL_law_944 : decode cL_law 944 = .ok (.aload_n 3, 1) := by decide +kernel
theorem dL_law_945 : decode cL_law 945 = .ok (.iconst 0, 1) := by decide +kernel
theorem dL_law_946 : decode cL_law 946 = .ok (.laload, 1) := by decide +kernel
theorem dL_law_947 : decode cL_law 947 = .ok (.iload 6, 2) := by decide +kernel
theorem dL_law_949 : decode cL_law 949 = .ok (.i2l, 1) := by decide +kernel
theorem dL_law_950 : decode cL_law 950 = .ok (.lcmp, 1) := by decide +kernel
theorem dL_law_951 : decode cL_law 951 = .ok (.ifCond .eq 5, 3) := by decide +kernel
theorem dL_law_954 : decode cL_law 954 = .ok (.iconst 0, 1) := by decide +kernel
theorem dL_law_955 : decode cL_law 955 = .ok (.ireturn, 1) := by decide +kernel
theorem dL_law_956 : decode cL_law 956 = .ok (.goto 28, 3) := by decide +kernel
theorem dL_law_959 : decode cL_law 959 = .ok (.aload_n 1, 1) := by decide +kernel
theorem dL_law_960 : decode cL_law 960 = .ok (.aload_n 0, 1) := by decide +kernel
theorem dL_law_961 : decode cL_law 961 = .ok (.iload 4, 2) := by decide +kernel
theorem dL_law_963 : decode cL_law 963 = .ok (.iconst 1, 1) := by decide +kernel
theorem dL_law_964 : decode cL_law 964 = .ok (.iadd, 1) := by decide +kernel
theorem dL_law_965 : decode cL_law 965 = .ok (.iaload, 1) := by decide +kernel
theorem dL_law_966 : decode cL_law 966 = .ok (.invokevirtual 110, 3) := by decide +kernel
theorem dL_law_969 : decode cL_law 969 = .ok (.aload_n 2, 1) := by decide +kernel
theorem dL_law_970 : decode cL_law 970 = .ok (.aload_n 0, 1) := by decide +kernel
theorem dL_law_971 : decode cL_law 971 = .ok (.iload 4, 2) := by decide +kernel
theorem dL_law_973 : decode cL_law 973 = .ok (.iconst 1, 1) := by decide +kernel
theorem dL_law_974 : decode cL_law 974 = .ok (.iadd, 1) := by decide +kernel
theorem dL_law_975 : decode cL_law 975 = .ok (.iaload, 1) := by decide +kernel
theorem dL_law_976 : decode cL_law 976 = .ok (.invokevirtual 113, 3) := by decide +kernel
theorem dL_law_979 : decode cL_law 979 = .ok (.if_icmp .eq 5, 3) := by decide +kernel
theorem dL_law_982 : decode cL_law 982 = .ok (.iconst 0, 1) := by decide +kernel
theorem dL_law_983 : decode cL_law 983 = .ok (.ireturn, 1) := by decide +kernel
theorem dL_law_984 : decode cL_law 984 = .ok (.iinc 4 6, 3) := by decide +kernel
theorem dL_law_987 : decode cL_law 987 = .ok (.goto (-964), 3) := by decide +kernel
theorem dL_law_990 : decode cL_law 990 = .ok (.iconst 1, 1) := by decide +kernel
theorem dL_law_991 : decode cL_law 991 = .ok (.ireturn, 1) := by decide +kernel
end
section
/-! THE GROUND. mG: the classes' numbers and slots, and the numbers of the classes int[], long[], Instrument[]. -/
abbrev mG : Type := va_G × ClassId × ClassId × ClassId
abbrev mTys (D : mG) : List (ClassId × FieldType) := [(D.2.1, .int), (D.2.2.1, .long), (D.2.2.2, .object RX1)]
def gfD : List MethodName := [⟨"java/lang/RuntimeException", "<init>", "()V"⟩, ⟨"java/lang/RuntimeException", "<init>", "(Ljava/lang/String;)V"⟩, ⟨"java/lang/Exception", "<init>", "()V"⟩, ⟨"java/lang/Exception", "<init>", "(Ljava/lang/String;)V"⟩, ⟨"java/lang/Throwable", "<init>", "()V"⟩, ⟨"java/lang/Throwable", "<init>", "(Ljava/lang/String;)V"⟩, ⟨"WeatherMast$Numbers", "isNumber", "(J)Z"⟩, ⟨"WeatherMast$Numbers", "amount", "(J)J"⟩, ⟨"WeatherMast$Numbers", "ofWidth", "(J)J"⟩, ⟨"WeatherMast$Numbers", "rank", "(J)J"⟩, ⟨"WeatherMast$Numbers", "furtherStepped", "(IJJ)J"⟩, ⟨"WeatherMast$Numbers", "apart", "(JJ)J"⟩, ⟨"WeatherMast$Numbers", "plus", "(JJ)J"⟩, ⟨"WeatherMast$Numbers", "level", "(J)J"⟩, ⟨"WeatherMast$Numbers", "toInt", "(J)I"⟩]
def gfC : List (String × String) := [("java/lang/IllegalArgumentException", "java/lang/IllegalArgumentException"), ("java/lang/UnsupportedOperationException", "java/lang/UnsupportedOperationException"), ("java/lang/IndexOutOfBoundsException", "java/lang/IndexOutOfBoundsException"), ("java/lang/IllegalStateException", "java/lang/IllegalStateException"), ("java/util/NoSuchElementException", "java/util/NoSuchElementException")]
def gfN : List (String × String) := [("java/lang/IllegalArgumentException", "java/lang/UnsupportedOperationException"), ("java/lang/IllegalArgumentException", "java/lang/IndexOutOfBoundsException"), ("java/lang/IllegalArgumentException", "java/lang/IllegalStateException"), ("java/lang/IllegalArgumentException", "java/util/NoSuchElementException"), ("java/lang/UnsupportedOperationException", "java/lang/IllegalArgumentException"), ("java/lang/UnsupportedOperationException", "java/lang/IndexOutOfBoundsException"), ("java/lang/UnsupportedOperationException", "java/lang/IllegalStateException"), ("java/lang/UnsupportedOperationException", "java/util/NoSuchElementException"), ("java/lang/IndexOutOfBoundsException", "java/lang/IllegalArgumentException"), ("java/lang/IndexOutOfBoundsException", "java/lang/UnsupportedOperationException"), ("java/lang/IndexOutOfBoundsException", "java/lang/IllegalStateException"), ("java/lang/IndexOutOfBoundsException", "java/util/NoSuchElementException"), ("java/lang/IllegalStateException", "java/lang/IllegalArgumentException"), ("java/lang/IllegalStateException", "java/lang/UnsupportedOperationException"), ("java/lang/IllegalStateException", "java/lang/IndexOutOfBoundsException"), ("java/lang/IllegalStateException", "java/util/NoSuchElementException"), ("java/util/NoSuchElementException", "java/lang/IllegalArgumentException"), ("java/util/NoSuchElementException", "java/lang/UnsupportedOperationException"), ("java/util/NoSuchElementException", "java/lang/IndexOutOfBoundsException"), ("java/util/NoSuchElementException", "java/lang/IllegalStateException")]
def gfS : List (Nat × String) := [(21, "no such sort"), (32, "there are eight instruments"), (177, "no such instrument"), (55, "no such step of this sort"), (68, "K is no number"), (76, "there are six steps"), (83, "no such step with K of this sort"), (88, "the other instrument is of another sort"), (90, "the bits are no number"), (122, "no such reading is kept"), (129, "no such thing to tell"), (134, "nothing has been read"), (153, "a limit is no number"), (169, "no instrument of this sort has read anything")]
/-- what the tables say beside the words of 'aw' -/
def GF (D : mG) (U : State) : Prop := va_K D.1 vwCl (mTys D) U ∧ va_AO RX1 U ∧ (∀ x ∈ gfD, va_Nw (.declares x) U) ∧ (∀ x ∈ gfC, va_Nw (.castable x.1 x.2) U) ∧ (∀ x ∈ gfN, va_Nc x.1 x.2 U) ∧ ∀ x ∈ gfS, ∃ a : Nat, vk_R RX4 x.1 x.2 a U
theorem GF.K {D : mG} {U : State} (g : GF D U) : va_K D.1 vwCl (mTys D) U := g.1
theorem GF.dec {D : mG} {U : State} (g : GF D U) {x : MethodName} (h : x ∈ gfD) : va_Nw (.declares x) U := g.2.2.1 x h
theorem GF.warm {D : mG} {s U : State} (hW : s.WarmedH U.vm) (g : GF D s) : GF D U :=
  ⟨va_K.moved hW.alike g.1, va_AO.moved hW.alike g.2.1, fun x h => va_Nw.warmD hW (g.2.2.1 x h), fun x h => va_Nw.warmC hW (g.2.2.2.1 x h), fun x h => va_Nc.moved hW.alike (g.2.2.2.2.1 x h), fun x h => by obtain ⟨a, q⟩ := g.2.2.2.2.2 x h; exact ⟨a, vk_R.warm hW q⟩⟩
theorem GF.calling {D : mG} {U : State} (fr : JFrame) (mk : MethodId) (a : Array Value) (h : GF D U) : GF D (U.calling fr mk a) :=
  ⟨va_K.moved (u := U) (U := U.calling fr mk a) (Vm.Alike.refl U.vm) h.1, va_AO.moved (u := U) (U := U.calling fr mk a) (Vm.Alike.refl U.vm) h.2.1, fun x q => va_Nw.same (u := U) (U := U.calling fr mk a) rfl rfl (h.2.2.1 x q), fun x q => va_Nw.same (u := U) (U := U.calling fr mk a) rfl rfl (h.2.2.2.1 x q), fun x q => va_Nc.moved (u := U) (U := U.calling fr mk a) (Vm.Alike.refl U.vm) (h.2.2.2.2.1 x q), fun x q => by obtain ⟨a1, q1⟩ := h.2.2.2.2.2 x q; exact ⟨a1, vk_R.same (u := U) (U := U.calling fr mk a) rfl q1⟩⟩
/-! METHODS THAT CHANGE NOTHING: room by their height -/
def rmP (k : Nat) : Room := { frames := k, cells := 0, slots := 0, locals := 42 * k }
def mP (D : mG) (Pic : Heap → Prop) : State → Prop := fun U => GF D U ∧ Pic U.heap
theorem mP.blind {D : mG} {Pic : Heap → Prop} {As : List Value} : FrameBlind (va_Pc As (mP D Pic)) := fun a U g mk q => ⟨q.1, GF.calling g mk a q.2.1, q.2.2⟩
/-- it answers v, the heap is as it was -/
def mS (v : Value) : Array Value → State → Outcome → State → Prop := fun _ st o t => o = .returned (some v) ∧ t.heap = st.heap
def cV (l : Launch) (D : mG) (y : MethodName) (b : ByteArray) (n : Nat) (ret : FieldType) (k : Nat) (Pic : Heap → Prop) (As : List Value) (v : Value) : Prop :=
  Met l y (.code y b n (some ret) :: aw) (rmP k) (va_Pc As (mP D Pic)) (mS v) 0 0 (fun _ => False)
theorem cV_of {l : Launch} {D : mG} {y : MethodName} {b : ByteArray} {n : Nat} {ret : FieldType} {k : Nat} {Pic : Heap → Prop} {As : List Value} {v : Value} (hy : plainName y.cls = true) (hn : (lg_sl As).length ≤ n)
    (body : ∀ (p : Program) (e : Env) (s : State) (m : MethodId) (below : List Frame) (meth : Method) (c : Code) (ls : Array Slot), p.tables.exec = Jvm.exec → c.code = b → meth.sig.returnType = some ret → meth.locks = false → CallFix p m c b n s As.toArray aw y.cls → GF D s → Pic s.heap → lv_has ls n (lv_args 0 As) →
      W p l e (rmP k) s m As.toArray below meth c s.heap [] 0 0 (MQ below (mS v) As.toArray s 0 0 (fun _ => False)) (F0 m 0 ls [])) : cV l D y b n ret k Pic As v := by
  refine Met.ofW (cc := b) (maxL := n) (ret := some ret) hy rfl ?_
  intro p e s m args below meth c s₁ B hml hv
  obtain ⟨rfl, hg, hpic⟩ := hv
  have hts := atoms_spec (ws := .code y b n (some ret) :: aw) B.pre
  rw [lg_entry_eq]
  exact body p e s m below meth c _ B.exec B.bytes B.returns B.notSynchronized ⟨B.exec, B.bytes, hml, findClass_of_methodNamed B.named, fun w h => hts w (List.mem_cons_of_mem _ h)⟩ hg hpic (lv_entry As hn)
section MW
variable {p : Program} {l : Launch} {e : Env} {R : Room} {s : State} {m : MethodId} {args : Array Value} {below : List Frame} {meth : Method} {c : Code} {H : Heap} {locs : List Loc} {cells slots : Nat} {Q : State → Prop}
variable {cc : ByteArray} {pc nL index n k : Nat} {ls : Array Slot} {st rest As : List Value} {D : mG} {own C : String} {v : Value} {y x : MethodName} {b : ByteArray} {ret : FieldType} {Pic : Heap → Prop} {o : Nat}
theorem mw_call {a : Array Value} (hr : va_Run p l e R s m args below meth c H locs cells slots 0 0 (F0 m pc ls st) rest (mS v a) (fun _ => False)) (kk : W p l e R s m args below meth c H locs cells slots Q (F0 m (pc + 3) ls (v :: rest))) : W p l e R s m args below meth c H locs cells slots Q (F0 m pc ls st) := by
  intro T hT X
  obtain ⟨v1, st₀, t, T', L, h0, X', hL, e1, e2, ⟨hv, hh⟩, go⟩ := hr T hT X
  cases hv
  obtain ⟨t2, a1, b1⟩ := kk T' (by rw [e1, hh, h0]) (Stand.forget X' (fun q h => (hL q h).elim))
  exact ⟨t2, go t2 a1, b1⟩
/-- what a callee brings of its own -/
def okS (y : MethodName) (b : ByteArray) (n : Nat) (ret : FieldType) (na : Nat) : Prop := Cond.static y ∈ aw ∧ Cond.initialized y.cls ∈ aw ∧ Cond.code y b n (some ret) ∈ aw ∧ (y.cls ≠ "java/lang/invoke/MethodHandle" ∧ y.cls ≠ "java/lang/invoke/VarHandle" ∧ (parseMethodDescriptor y.desc).map (fun d => d.parameters.length) = some na)
def okV (C : String) (y : MethodName) (b : ByteArray) (n : Nat) (ret : FieldType) (na : Nat) : Prop := Cond.instanceMethod y ∈ aw ∧ Cond.selects C y y ∈ aw ∧ Cond.initialized C ∈ aw ∧ Cond.code y b n (some ret) ∈ aw ∧ (y.cls = C ∧ y.cls ≠ "java/lang/invoke/MethodHandle" ∧ y.cls ≠ "java/lang/invoke/VarHandle" ∧ (parseMethodDescriptor y.desc).map (fun d => d.parameters.length) = some na)
/-- a method x named at a class above, found at the receiver's class C as y, which is declared there -/
def okU (C owner : String) (x y : MethodName) (b : ByteArray) (n : Nat) (ret : FieldType) (na : Nat) : Prop := Cond.sameMethod x.cls owner x.name x.desc ∈ aw ∧ Cond.selects C x y ∈ aw ∧ Cond.instanceMethod y ∈ aw ∧ Cond.initialized y.cls ∈ aw ∧ Cond.code y b n (some ret) ∈ aw ∧ (owner ≠ "java/lang/invoke/MethodHandle" ∧ owner ≠ "java/lang/invoke/VarHandle" ∧ (parseMethodDescriptor x.desc).map (fun d => d.parameters.length) = some na) ∧ (y = ⟨owner, x.name, x.desc⟩ ∨ (⟨owner, x.name, x.desc⟩ : MethodName) ∈ gfD)
theorem aw_g {w : Cond} (h : w ∈ aw) : w ∈ aw ∧ ((w.onTables && w.keeps) = true ∨ ∃ ty, w = .arrayClass ty) := ⟨h, good_of_word (aw_good h)⟩
theorem aw_gl {ws : List Cond} (h : ∀ w ∈ ws, w ∈ aw) : GoodIn aw ws := fun w q => aw_g (h w q)
theorem kS (G : CallFix p m c cc nL s args aw own) (hM : cV l D y b n ret k Pic As v) (hok : okS y b n ret As.length) (hgf : GF D s) (hpic : Pic H) (hl : Cond.methodLink own index y ∈ aw) (hR : k + 1 ≤ R.frames ∧ 8 + (n + 11) + 42 * k ≤ R.locals) (hcs : cells ≤ R.cells ∧ slots ≤ R.slots) (hls : ls.size = nL) (hrest : (rest.map fun v => v.category).sum ≤ 8)
    (hst : st = As.reverse ++ rest) (hdg : decode cc pc = .ok (.invokestatic index, 3)) (kk : W p l e R s m args below meth c H locs cells slots Q (F0 m (pc + 3) ls (v :: rest))) : W p l e R s m args below meth c H locs cells slots Q (F0 m pc ls st) := by
  obtain ⟨h2, h3, h4, hd⟩ := hok
  refine mw_call (va_runS (As := As) (rest := rest) G hM (va_cwS As.length G.2.2.2.2 (aw_gl (fun w h => ?_)) rfl rfl rfl hd hR) ⟨mP.blind, fun U hU hW => ⟨rfl, GF.warm hW hgf, by rw [hU]; exact hpic⟩⟩ rfl rfl hls hst (lv_room hrest) hdg hcs) kk
  simp only [va_wsS, List.mem_append, List.mem_cons, List.not_mem_nil, or_false] at h
  rcases h with (rfl | rfl | rfl) | rfl | h
  · exact hl
  · exact h2
  · exact h3
  · exact h4
  · exact h
theorem kV (G : CallFix p m c cc nL s args aw own) (hM : cV l D y b n ret k Pic (.ref o :: As) v) (hok : okV C y b n ret As.length) (hgf : GF D s) (hpic : Pic H) (hrc : ∃ cell : Cell, H[o]? = some cell ∧ cell.vm.isStatics = false ∧ s.vm.findClass C = some cell.cls) (hl : Cond.methodLink own index y ∈ aw) (hR : k + 1 ≤ R.frames ∧ 8 + (n + 11) + 42 * k ≤ R.locals) (hcs : cells ≤ R.cells ∧ slots ≤ R.slots) (hls : ls.size = nL) (hrest : (rest.map fun v => v.category).sum ≤ 8)
    (hst : st = As.reverse ++ .ref o :: rest) (hdg : decode cc pc = .ok (.invokevirtual index, 3)) (kk : W p l e R s m args below meth c H locs cells slots Q (F0 m (pc + 3) ls (v :: rest))) : W p l e R s m args below meth c H locs cells slots Q (F0 m pc ls st) := by
  obtain ⟨h1, h2, h3, h4, hd⟩ := hok
  refine mw_call (va_runV (As := As) (rest := rest) G hM (cwV As.length G.2.2.2.2 (aw_gl (fun w h => ?_)) rfl rfl rfl hd hR) ⟨mP.blind, hrc, fun U hU hW => ⟨rfl, GF.warm hW hgf, by rw [hU]; exact hpic⟩⟩ rfl rfl hls hst (lv_room hrest) hdg hcs) kk
  simp only [wsV, List.mem_append, List.mem_cons, List.not_mem_nil, or_false] at h
  rcases h with (rfl | rfl | rfl | rfl) | rfl | h
  · exact hl
  · exact h1
  · exact h2
  · exact h3
  · exact h4
  · exact h
theorem kU {owner : String} (G : CallFix p m c cc nL s args aw own) (hM : cV l D y b n ret k Pic (.ref o :: As) v) (hok : okU C owner x y b n ret As.length) (hgf : GF D s) (hpic : Pic H) (hrc : ∃ cell : Cell, H[o]? = some cell ∧ cell.vm.isStatics = false ∧ s.vm.findClass C = some cell.cls) (hl : Cond.methodLink own index x ∈ aw) (hR : k + 1 ≤ R.frames ∧ 8 + (n + 11) + 42 * k ≤ R.locals) (hcs : cells ≤ R.cells ∧ slots ≤ R.slots) (hls : ls.size = nL) (hrest : (rest.map fun v => v.category).sum ≤ 8)
    (hst : st = As.reverse ++ .ref o :: rest) (hdg : decode cc pc = .ok (.invokevirtual index, 3)) (kk : W p l e R s m args below meth c H locs cells slots Q (F0 m (pc + 3) ls (v :: rest))) : W p l e R s m args below meth c H locs cells slots Q (F0 m pc ls st) := by
  obtain ⟨h1, h2, h3, h4, h5, hd, ha⟩ := hok
  have hG : GoodIn aw (va_wsU own index C owner x y (.code y b n (some ret) :: aw)) := aw_gl (fun w h => by
    simp only [va_wsU, List.mem_append, List.mem_cons, List.not_mem_nil, or_false] at h
    rcases h with (rfl | rfl | rfl | rfl | rfl) | rfl | h
    · exact hl
    · exact h1
    · exact h2
    · exact h3
    · exact h4
    · exact h5
    · exact h)
  have cw : va_CU R s args own C owner index x y b n (some ret) (.code y b n (some ret) :: aw) (rmP k) 0 0 As.length := by
    rcases ha with ha | ha
    · exact va_cwU As.length G.2.2.2.2 hG rfl rfl rfl ha hd hR
    · exact va_cwA As.length G.2.2.2.2 hG rfl rfl rfl (GF.dec hgf ha) hd hR
  exact mw_call (va_runU (As := As) (rest := rest) G hM cw ⟨mP.blind, hrc, fun U hU hW => ⟨rfl, GF.warm hW hgf, by rw [hU]; exact hpic⟩⟩ rfl rfl hls hst (lv_room hrest) hdg hcs) kk
/-- a cell by itself -/
theorem va_at.P {D : va_G} {cl : List vw_C} {q : Nat × va_E} {H : Heap} (h : va_at D cl q H) : va_P D cl [q] H := fun k z hk => by
  match k, hk with
  | 0, hk => cases hk; exact h
theorem va_P.at {D : va_G} {cl : List vw_C} {ws : va_W} {q : Nat × va_E} {H : Heap} (h : va_P D cl ws H) (k : Nat) (hk : ws[k]? = some q) : va_at D cl q H := h k q hk
theorem mw_recv {ci : Nat} {q : vw_C} {fs : List Value} (hgf : GF D s) (hP : va_at D.1 vwCl (o, .inr (ci, fs)) H) (hc : vwCl[ci]? = some q) : ∃ cell : Cell, H[o]? = some cell ∧ cell.vm.isStatics = false ∧ s.vm.findClass q.1 = some cell.cls := va_recv hgf.K hP.P (q0 := 0) hc rfl
theorem mw_get {ci N : Nat} {fs : List Value} {T : u_T} (G : CallFix p m c cc nL s args aw own) (hgf : GF D s) (hP : va_at D.1 vwCl (o, .inr (ci, fs)) H) (hc : vwCl[ci]? = some (C, T, N)) (hin : ∀ w ∈ u_ws C T N, w ∈ aw) (k : Nat) (hk : k < N) (hl : Cond.fieldLink own index (T k).1 (T k).2.1 (T k).2.2.1 ∈ aw) (hv : fs[k]? = some v) (hdg : decode cc pc = .ok (.getfield index, 3)) (kk : W p l e R s m args below meth c H locs cells slots Q (F0 m (pc + 3) ls (v :: rest))) : W p l e R s m args below meth c H locs cells slots Q (F0 m pc ls (.ref o :: rest)) :=
  va_get G.1 G.2.1 G.2.2.2.2 hin G.2.2.2.1 hgf.K hP.P 0 rfl hc k hk (G.2.2.2.2 _ hl) (fun _ h => h) hv hdg kk
/-- the ends of methods that change nothing -/
theorem mw_lret {x w : Int64} (hx : p.tables.exec = Jvm.exec) (hb : c.code = cc) (hr : meth.sig.returnType = some .long) (hlocks : meth.locks = false) (hdg : decode cc pc = .ok (.lreturn, 1)) (hv : x = w) : W p l e R s m args below meth c s.heap [] 0 0 (MQ below (mS (.long w)) args s 0 0 (fun _ => False)) (F0 m pc ls [.long x]) :=
  W.lret hx hb hr (fun t ht _ => ⟨by rw [hv], ht⟩) (fun _ h => by cases h) hdg hlocks
theorem mw_iret {x w : Int32} (hx : p.tables.exec = Jvm.exec) (hb : c.code = cc) (hr : meth.sig.returnType = some .int) (hlocks : meth.locks = false) (hdg : decode cc pc = .ok (.ireturn, 1)) (hv : x = w) : W p l e R s m args below meth c s.heap [] 0 0 (MQ below (mS (.int w)) args s 0 0 (fun _ => False)) (F0 m pc ls [.int x]) :=
  W.iret hx hb hr (fun t ht _ => ⟨by rw [hv], ht⟩) (fun _ h => by cases h) hdg hlocks
theorem mw_zret {x w : Int32} (hx : p.tables.exec = Jvm.exec) (hb : c.code = cc) (hr : meth.sig.returnType = some .boolean) (hlocks : meth.locks = false) (hdg : decode cc pc = .ok (.ireturn, 1)) (hn : x = 0 ∨ x = 1) (hv : x = w) : W p l e R s m args below meth c s.heap [] 0 0 (MQ below (mS (.int w)) args s 0 0 (fun _ => False)) (F0 m pc ls [.int x]) :=
  W.zret hx hb hr (by rcases hn with rfl | rfl <;> decide) (fun t ht _ => ⟨by rw [hv], ht⟩) (fun _ h => by cases h) hdg hlocks
end MW

theorem okX4_count : okV RX4 yX4_count cX4_count 2 .int 1 := ⟨qw1_46, qw1_47, qw1_1, qw1_48, by decide +kernel⟩
theorem okX4_mount : okV RX4 yX4_mount cX4_mount 3 .int 1 := ⟨qw1_55, qw1_56, qw1_1, qw1_57, by decide +kernel⟩
theorem okX4_isSort : okS yX4_isSort cX4_isSort 1 .boolean 1 := ⟨qw1_59, qw1_1, qw1_60, by decide +kernel⟩
theorem okX4_numbersOf : okS yX4_numbersOf cX4_numbersOf 1 (.object "WeatherMast$Numbers") 1 := ⟨qw1_149, qw1_1, qw1_150, by decide +kernel⟩
theorem okX0_infinityOf : okS yX0_infinityOf cX0_infinityOf 2 .long 2 := ⟨qw1_183, qw1_11, qw1_184, by decide +kernel⟩
theorem okX4_step : okV RX4 yX4_step cX4_step 9 .int 3 := ⟨qw2_40, qw2_41, qw1_1, qw2_42, by decide +kernel⟩
theorem okX4_instrumentAt : okV RX4 yX4_instrumentAt cX4_instrumentAt 2 (.object "WeatherMast$Instrument") 1 := ⟨qw2_45, qs_1, qw1_1, qw2_46, by decide +kernel⟩
theorem okX4_takesK : okS yX4_takesK cX4_takesK 1 .boolean 1 := ⟨qw2_77, qw1_1, qw2_78, by decide +kernel⟩
theorem okX0_amount : okV RX0 yX0_amount cX0_amount 3 .long 1 := ⟨qw2_86, qw2_87, qw1_11, qw2_88, by decide +kernel⟩
theorem okX1_chainIsFull : okV RX1 yX1_chainIsFull cX1_chainIsFull 1 .boolean 0 := ⟨qw2_94, qw2_95, qw1_8, qw2_96, by decide +kernel⟩
theorem okX1_addStep : okV RX1 yX1_addStep cX1_addStep 5 .int 3 := ⟨qw2_114, qw2_115, qw1_8, qw2_116, by decide +kernel⟩
theorem okX4_follow : okV RX4 yX4_follow cX4_follow 6 .int 3 := ⟨qw2_121, qw2_122, qw1_1, qw2_123, by decide +kernel⟩
theorem okX4_read : okV RX4 yX4_read cX4_read 9 .long 2 := ⟨qw2_130, qw2_131, qw1_1, qw2_132, by decide +kernel⟩
theorem okX1_throughChain : okV RX1 yX1_throughChain cX1_throughChain 9 .long 1 := ⟨qw2_135, qw2_136, qw1_8, qw2_137, by decide +kernel⟩
theorem okX1_latestOrZero : okV RX1 yX1_latestOrZero cX1_latestOrZero 1 .long 0 := ⟨qw2_139, qw2_140, qw1_8, qw2_141, by decide +kernel⟩
theorem okX1_hasRead : okV RX1 yX1_hasRead cX1_hasRead 1 .boolean 0 := ⟨qw2_143, qw2_144, qw1_8, qw2_145, by decide +kernel⟩
theorem okX1_latest : okV RX1 yX1_latest cX1_latest 2 .long 1 := ⟨qw2_147, qw2_148, qw1_8, qw2_149, by decide +kernel⟩
theorem okX3_amount : okV RX3 yX3_amount cX3_amount 3 .long 1 := ⟨qw2_161, qw4_166, qw1_10, qw2_162, by decide +kernel⟩
theorem okX0_raised : okV RX0 yX0_raised cX0_raised 5 .long 1 := ⟨qw2_196, qs_2, qw1_11, qw2_197, by decide +kernel⟩
theorem okX0_cut : okV RX0 yX0_cut cX0_cut 4 .long 1 := ⟨qw2_200, qs_3, qw1_11, qw2_201, by decide +kernel⟩
theorem okX0_bitsBehindPoint : okV RX0 yX0_bitsBehindPoint cX0_bitsBehindPoint 3 .int 1 := ⟨qw2_204, qs_4, qw1_11, qw2_205, by decide +kernel⟩
theorem okX0_exponentOf : okV RX0 yX0_exponentOf cX0_exponentOf 3 .int 1 := ⟨qw2_208, qs_5, qw1_11, qw2_209, by decide +kernel⟩
theorem okJ9_max_f86c9 : okS yJ9_max_f86c9 cJ9_max_f86c9 4 .long 2 := ⟨qw2_211, qw1_14, qw2_212, by decide +kernel⟩
theorem okX0_nextWhole : okV RX0 yX0_nextWhole cX0_nextWhole 5 .long 2 := ⟨qw2_215, qs_6, qw1_11, qw2_216, by decide +kernel⟩
theorem okX0_withSignOf : okV RX0 yX0_withSignOf cX0_withSignOf 5 .long 2 := ⟨qw2_219, qs_7, qw1_11, qw2_220, by decide +kernel⟩
theorem okX0_nearest : okV RX0 yX0_nearest cX0_nearest 11 .long 1 := ⟨qw2_223, qs_8, qw1_11, qw2_224, by decide +kernel⟩
theorem okX0_plus : okV RX0 yX0_plus cX0_plus 12 .long 2 := ⟨qw3_1, qw3_2, qw1_11, qw3_3, by decide +kernel⟩
theorem okJ9_min_f86c9 : okS yJ9_min_f86c9 cJ9_min_f86c9 4 .long 2 := ⟨qw3_5, qw1_14, qw3_6, by decide +kernel⟩
theorem okX0_significandOf : okV RX0 yX0_significandOf cX0_significandOf 5 .long 1 := ⟨qw3_9, qs_9, qw1_11, qw3_10, by decide +kernel⟩
theorem okX0_shiftedRight : okS yX0_shiftedRight cX0_shiftedRight 6 .long 2 := ⟨qw3_12, qw1_11, qw3_13, by decide +kernel⟩
theorem okJ9_min_7cf53 : okS yJ9_min_7cf53 cJ9_min_7cf53 2 .int 2 := ⟨qw3_15, qw1_14, qw3_16, by decide +kernel⟩
theorem okX0_rounded : okV RX0 yX0_rounded cX0_rounded 8 .long 2 := ⟨qw3_19, qs_10, qw1_11, qw3_20, by decide +kernel⟩
theorem okX0_minus : okV RX0 yX0_minus cX0_minus 8 .long 2 := ⟨qw3_25, qs_11, qw1_11, qw3_26, by decide +kernel⟩
theorem okX1_isBeyondLimits : okV RX1 yX1_isBeyondLimits cX1_isBeyondLimits 3 .boolean 1 := ⟨qw3_40, qw3_41, qw1_8, qw3_42, by decide +kernel⟩
theorem okX4_reading : okV RX4 yX4_reading cX4_reading 4 .long 2 := ⟨qw3_63, qw3_64, qw1_1, qw3_65, by decide +kernel⟩
theorem okX1_keeps : okV RX1 yX1_keeps cX1_keeps 2 .boolean 1 := ⟨qw3_67, qw3_68, qw1_8, qw3_69, by decide +kernel⟩
theorem okX4_tell : okV RX4 yX4_tell cX4_tell 4 .long 2 := ⟨qw3_91, qw3_92, qw1_1, qw3_93, by decide +kernel⟩
theorem okX4_whole : okV RX4 yX4_whole cX4_whole 3 .int 1 := ⟨qw3_101, qw3_102, qw1_1, qw3_103, by decide +kernel⟩
theorem okX4_limits : okV RX4 yX4_limits cX4_limits 12 .boolean 3 := ⟨qw3_123, qw3_124, qw1_1, qw3_125, by decide +kernel⟩
theorem okX4_widest : okV RX4 yX4_widest cX4_widest 7 .long 1 := ⟨qw3_132, qw3_133, qw1_1, qw3_134, by decide +kernel⟩
theorem okX4_forget : okV RX4 yX4_forget cX4_forget 2 .int 1 := ⟨qw3_141, qw3_142, qw1_1, qw3_143, by decide +kernel⟩
theorem okX1_dropReadings : okV RX1 yX1_dropReadings cX1_dropReadings 2 .int 0 := ⟨qw3_145, qw3_146, qw1_8, qw3_147, by decide +kernel⟩
theorem okX4_alarms : okV RX4 yX4_alarms cX4_alarms 2 .int 1 := ⟨qw3_152, qw3_153, qw1_1, qw3_154, by decide +kernel⟩
theorem okX5_thrown : okV RX5 yX5_thrown cX5_thrown 1 .int 0 := ⟨qw3_220, qw3_221, qw1_2, qw3_222, by decide +kernel⟩
theorem okX5_mount : okV RX5 yX5_mount cX5_mount 3 .int 1 := ⟨qw3_224, qw3_225, qw1_2, qw3_226, by decide +kernel⟩
theorem okX5_fail : okV RX5 yX5_fail cX5_fail 2 .int 1 := ⟨qw3_229, qs_12, qw1_2, qw3_230, by decide +kernel⟩
theorem okX5_endless : okS yX5_endless cX5_endless 1 .long 1 := ⟨qw3_234, qw1_2, qw3_235, by decide +kernel⟩
theorem okX5_signed : okS yX5_signed cX5_signed 4 .long 3 := ⟨qw3_239, qw1_2, qw4_0, by decide +kernel⟩
theorem okX5_signBit : okS yX5_signBit cX5_signBit 1 .long 1 := ⟨qw4_2, qw1_2, qw4_3, by decide +kernel⟩
theorem okX5_cut : okS yX5_cut cX5_cut 3 .long 2 := ⟨qw4_6, qw1_2, qw4_7, by decide +kernel⟩
theorem okX5_step : okV RX5 yX5_step cX5_step 6 .int 3 := ⟨qw4_11, qw4_12, qw1_2, qw4_13, by decide +kernel⟩
theorem okX5_isInstrument : okV RX5 yX5_isInstrument cX5_isInstrument 2 .boolean 1 := ⟨qw4_16, qs_13, qw1_2, qw4_17, by decide +kernel⟩
theorem okX5_isStep : okS yX5_isStep cX5_isStep 2 .boolean 2 := ⟨qw4_19, qw1_2, qw4_20, by decide +kernel⟩
theorem okX5_isReal : okS yX5_isReal cX5_isReal 1 .boolean 1 := ⟨qw4_22, qw1_2, qw4_23, by decide +kernel⟩
theorem okX5_takes : okS yX5_takes cX5_takes 1 .boolean 1 := ⟨qw4_25, qw1_2, qw4_26, by decide +kernel⟩
theorem okX5_isNone : okS yX5_isNone cX5_isNone 3 .boolean 2 := ⟨qw4_28, qw1_2, qw4_29, by decide +kernel⟩
theorem okX5_amountBits : okS yX5_amountBits cX5_amountBits 3 .long 2 := ⟨qw4_31, qw1_2, qw4_32, by decide +kernel⟩
theorem okX5_form : okS yX5_form cX5_form 3 .long 2 := ⟨qw4_34, qw1_2, qw4_35, by decide +kernel⟩
theorem okX5_link : okV RX5 yX5_link cX5_link 7 .int 4 := ⟨qw4_40, qs_14, qw1_2, qw4_41, by decide +kernel⟩
theorem okX5_follow : okV RX5 yX5_follow cX5_follow 4 .int 3 := ⟨qw4_43, qw4_44, qw1_2, qw4_45, by decide +kernel⟩
theorem okX5_limits : okV RX5 yX5_limits cX5_limits 7 .boolean 3 := ⟨qw4_47, qw4_48, qw1_2, qw4_49, by decide +kernel⟩
theorem okX5_isAbove : okS yX5_isAbove cX5_isAbove 5 .boolean 3 := ⟨qw4_51, qw1_2, qw4_52, by decide +kernel⟩
theorem okX5_height : okS yX5_height cX5_height 3 .long 2 := ⟨qw4_54, qw1_2, qw4_55, by decide +kernel⟩
theorem okX5_rank : okS yX5_rank cX5_rank 5 .long 2 := ⟨qw4_57, qw1_2, qw4_58, by decide +kernel⟩
theorem okX5_isMinus : okS yX5_isMinus cX5_isMinus 3 .boolean 2 := ⟨qw4_60, qw1_2, qw4_61, by decide +kernel⟩
theorem okX5_read : okV RX5 yX5_read cX5_read 9 .long 2 := ⟨qw4_63, qw4_64, qw1_2, qw4_65, by decide +kernel⟩
theorem okX5_through : okV RX5 yX5_through cX5_through 9 .long 2 := ⟨qw4_68, qs_15, qw1_2, qw4_69, by decide +kernel⟩
theorem okX5_latest : okV RX5 yX5_latest cX5_latest 2 .long 1 := ⟨qw4_72, qs_16, qw1_2, qw4_73, by decide +kernel⟩
theorem okX5_changed : okS yX5_changed cX5_changed 6 .long 4 := ⟨qw4_75, qw1_2, qw4_76, by decide +kernel⟩
theorem okX5_amount : okS yX5_amount cX5_amount 3 .long 2 := ⟨qw4_78, qw1_2, qw4_79, by decide +kernel⟩
theorem okX5_greater : okS yX5_greater cX5_greater 5 .long 3 := ⟨qw4_81, qw1_2, qw4_82, by decide +kernel⟩
theorem okX5_lesser : okS yX5_lesser cX5_lesser 5 .long 3 := ⟨qw4_84, qw1_2, qw4_85, by decide +kernel⟩
theorem okX5_one : okS yX5_one cX5_one 1 .long 1 := ⟨qw4_87, qw1_2, qw4_88, by decide +kernel⟩
theorem okX5_toWhole : okS yX5_toWhole cX5_toWhole 16 .long 3 := ⟨qw4_92, qw1_2, qw4_93, by decide +kernel⟩
theorem okX5_places : okS yX5_places cX5_places 1 .int 1 := ⟨qw4_95, qw1_2, qw4_96, by decide +kernel⟩
theorem okX5_swing : okS yX5_swing cX5_swing 5 .long 3 := ⟨qw4_99, qw1_2, qw4_100, by decide +kernel⟩
theorem okX5_single : okS yX5_single cX5_single 2 .float 1 := ⟨qw4_102, qw1_2, qw4_103, by decide +kernel⟩
theorem okJxf58ca_floatToIntBits_5c35a : okS yJxf58ca_floatToIntBits_5c35a cJxf58ca_floatToIntBits_5c35a 1 .int 1 := ⟨qw4_108, qw1_16, qw4_109, by decide +kernel⟩
theorem okJxf58ca_isNaN_12338 : okS yJxf58ca_isNaN_12338 cJxf58ca_isNaN_12338 1 .boolean 1 := ⟨qw4_111, qw1_16, qw4_112, by decide +kernel⟩
theorem okX5_real : okS yX5_real cX5_real 2 .double 1 := ⟨qw4_118, qw1_2, qw4_119, by decide +kernel⟩
theorem okJxe99ae_doubleToLongBits_ccdee : okS yJxe99ae_doubleToLongBits_ccdee cJxe99ae_doubleToLongBits_ccdee 2 .long 1 := ⟨qw4_124, qw1_17, qw4_125, by decide +kernel⟩
theorem okJxe99ae_isNaN_b9ae7 : okS yJxe99ae_isNaN_b9ae7 cJxe99ae_isNaN_b9ae7 2 .boolean 1 := ⟨qw4_127, qw1_17, qw4_128, by decide +kernel⟩
theorem okX5_sum : okS yX5_sum cX5_sum 5 .long 3 := ⟨qw4_134, qw1_2, qw4_135, by decide +kernel⟩
theorem okX5_forget : okV RX5 yX5_forget cX5_forget 3 .int 1 := ⟨qw4_137, qw4_138, qw1_2, qw4_139, by decide +kernel⟩
theorem okX5_reading : okV RX5 yX5_reading cX5_reading 4 .long 2 := ⟨qw4_141, qw4_142, qw1_2, qw4_143, by decide +kernel⟩
theorem okX5_tell : okV RX5 yX5_tell cX5_tell 3 .long 2 := ⟨qw4_145, qw4_146, qw1_2, qw4_147, by decide +kernel⟩
theorem okX5_whole : okV RX5 yX5_whole cX5_whole 4 .int 1 := ⟨qw4_149, qw4_150, qw1_2, qw4_151, by decide +kernel⟩
theorem okX5_widest : okV RX5 yX5_widest cX5_widest 6 .long 1 := ⟨qw4_153, qw4_154, qw1_2, qw4_155, by decide +kernel⟩
theorem okX5_alarms : okV RX5 yX5_alarms cX5_alarms 2 .int 1 := ⟨qw4_157, qw4_158, qw1_2, qw4_159, by decide +kernel⟩
theorem okX5_count : okV RX5 yX5_count cX5_count 2 .int 1 := ⟨qw4_161, qw4_162, qw1_2, qw4_163, by decide +kernel⟩
theorem ou_X0_X2_X2_hasStep : okU RX0 RX2 yX2_hasStep yX2_hasStep cX2_hasStep 2 .boolean 1 := ⟨qw2_65, qw2_66, qw2_64, qw1_9, qw2_68, by decide +kernel, Or.inl rfl⟩
theorem ou_X3_X2_X2_hasStep : okU RX3 RX2 yX2_hasStep yX2_hasStep cX2_hasStep 2 .boolean 1 := ⟨qw2_65, qw2_67, qw2_64, qw1_9, qw2_68, by decide +kernel, Or.inl rfl⟩
theorem ou_X0_X2_X2_ofWidth : okU RX0 RX2 yX2_ofWidth yX2_ofWidth cX2_ofWidth 3 .long 1 := ⟨qw2_72, qw2_73, qw2_71, qw1_9, qw2_75, by decide +kernel, Or.inl rfl⟩
theorem ou_X3_X2_X2_ofWidth : okU RX3 RX2 yX2_ofWidth yX2_ofWidth cX2_ofWidth 3 .long 1 := ⟨qw2_72, qw2_74, qw2_71, qw1_9, qw2_75, by decide +kernel, Or.inl rfl⟩
theorem ou_X0_X2_X0_isNumber : okU RX0 RX2 ⟨"WeatherMast$Numbers", "isNumber", "(J)Z"⟩ yX0_isNumber cX0_isNumber 3 .boolean 1 := ⟨qw2_81, qw2_82, qw2_83, qw1_11, qw2_84, by decide +kernel, Or.inr (by decide +kernel)⟩
theorem ou_X3_X2_X3_isNumber : okU RX3 RX2 ⟨"WeatherMast$Numbers", "isNumber", "(J)Z"⟩ yX3_isNumber cX3_isNumber 3 .boolean 1 := ⟨qw2_81, qw2_89, qw2_90, qw1_10, qw2_91, by decide +kernel, Or.inr (by decide +kernel)⟩
theorem ou_X0_X2_X2_stepped : okU RX0 RX2 yX2_stepped yX2_stepped cX2_stepped 6 .long 3 := ⟨qw2_152, qw2_153, qw2_151, qw1_9, qw2_155, by decide +kernel, Or.inl rfl⟩
theorem ou_X3_X2_X2_stepped : okU RX3 RX2 yX2_stepped yX2_stepped cX2_stepped 6 .long 3 := ⟨qw2_152, qw2_154, qw2_151, qw1_9, qw2_155, by decide +kernel, Or.inl rfl⟩
theorem ou_X0_X2_X0_amount : okU RX0 RX2 ⟨"WeatherMast$Numbers", "amount", "(J)J"⟩ yX0_amount cX0_amount 3 .long 1 := ⟨qw2_158, qw2_159, qw2_86, qw1_11, qw2_88, by decide +kernel, Or.inr (by decide +kernel)⟩
theorem ou_X3_X2_X3_amount : okU RX3 RX2 ⟨"WeatherMast$Numbers", "amount", "(J)J"⟩ yX3_amount cX3_amount 3 .long 1 := ⟨qw2_158, qw2_160, qw2_161, qw1_10, qw2_162, by decide +kernel, Or.inr (by decide +kernel)⟩
theorem ou_X3_X3_X2_ofWidth : okU RX3 RX2 ⟨"WeatherMast$Wrapping", "ofWidth", "(J)J"⟩ yX2_ofWidth cX2_ofWidth 3 .long 1 := ⟨qw2_164, qw2_166, qw2_71, qw1_9, qw2_75, by decide +kernel, Or.inl rfl⟩
theorem ou_X0_X2_X2_greater : okU RX0 RX2 yX2_greater yX2_greater cX2_greater 5 .long 2 := ⟨qw2_169, qw2_170, qw2_168, qw1_9, qw2_172, by decide +kernel, Or.inl rfl⟩
theorem ou_X3_X2_X2_greater : okU RX3 RX2 yX2_greater yX2_greater cX2_greater 5 .long 2 := ⟨qw2_169, qw2_171, qw2_168, qw1_9, qw2_172, by decide +kernel, Or.inl rfl⟩
theorem ou_X0_X2_X0_rank : okU RX0 RX2 ⟨"WeatherMast$Numbers", "rank", "(J)J"⟩ yX0_rank cX0_rank 3 .long 1 := ⟨qw2_175, qw2_176, qw2_177, qw1_11, qw2_178, by decide +kernel, Or.inr (by decide +kernel)⟩
theorem ou_X3_X2_X3_rank : okU RX3 RX2 ⟨"WeatherMast$Numbers", "rank", "(J)J"⟩ yX3_rank cX3_rank 3 .long 1 := ⟨qw2_175, qw2_179, qw2_180, qw1_10, qw2_181, by decide +kernel, Or.inr (by decide +kernel)⟩
theorem ou_X0_X2_X2_lesser : okU RX0 RX2 yX2_lesser yX2_lesser cX2_lesser 5 .long 2 := ⟨qw2_184, qw2_185, qw2_183, qw1_9, qw2_187, by decide +kernel, Or.inl rfl⟩
theorem ou_X3_X2_X2_lesser : okU RX3 RX2 yX2_lesser yX2_lesser cX2_lesser 5 .long 2 := ⟨qw2_184, qw2_186, qw2_183, qw1_9, qw2_187, by decide +kernel, Or.inl rfl⟩
theorem ou_X0_X2_X0_furtherStepped : okU RX0 RX2 ⟨"WeatherMast$Numbers", "furtherStepped", "(IJJ)J"⟩ yX0_furtherStepped cX0_furtherStepped 8 .long 3 := ⟨qw2_190, qw2_191, qw2_192, qw1_11, qw2_193, by decide +kernel, Or.inr (by decide +kernel)⟩
theorem ou_X3_X2_X3_furtherStepped : okU RX3 RX2 ⟨"WeatherMast$Numbers", "furtherStepped", "(IJJ)J"⟩ yX3_furtherStepped cX3_furtherStepped 6 .long 3 := ⟨qw2_190, qw2_225, qw2_226, qw1_10, qw2_227, by decide +kernel, Or.inr (by decide +kernel)⟩
theorem ou_X0_X2_X0_apart : okU RX0 RX2 ⟨"WeatherMast$Numbers", "apart", "(JJ)J"⟩ yX0_apart cX0_apart 9 .long 2 := ⟨qw2_236, qw2_237, qw2_238, qw1_11, qw2_239, by decide +kernel, Or.inr (by decide +kernel)⟩
theorem ou_X3_X2_X3_apart : okU RX3 RX2 ⟨"WeatherMast$Numbers", "apart", "(JJ)J"⟩ yX3_apart cX3_apart 5 .long 2 := ⟨qw2_236, qw3_27, qw3_28, qw1_10, qw3_29, by decide +kernel, Or.inr (by decide +kernel)⟩
theorem ou_X0_X2_X0_plus : okU RX0 RX2 ⟨"WeatherMast$Numbers", "plus", "(JJ)J"⟩ yX0_plus cX0_plus 12 .long 2 := ⟨qw3_34, qw3_35, qw3_1, qw1_11, qw3_3, by decide +kernel, Or.inr (by decide +kernel)⟩
theorem ou_X3_X2_X3_plus : okU RX3 RX2 ⟨"WeatherMast$Numbers", "plus", "(JJ)J"⟩ yX3_plus cX3_plus 5 .long 2 := ⟨qw3_34, qw3_36, qw3_37, qw1_10, qw3_38, by decide +kernel, Or.inr (by decide +kernel)⟩
theorem ou_X0_X2_X2_isAbove : okU RX0 RX2 yX2_isAbove yX2_isAbove cX2_isAbove 5 .boolean 2 := ⟨qw3_45, qw3_46, qw3_44, qw1_9, qw3_48, by decide +kernel, Or.inl rfl⟩
theorem ou_X3_X2_X2_isAbove : okU RX3 RX2 yX2_isAbove yX2_isAbove cX2_isAbove 5 .boolean 2 := ⟨qw3_45, qw3_47, qw3_44, qw1_9, qw3_48, by decide +kernel, Or.inl rfl⟩
theorem ou_X0_X2_X0_level : okU RX0 RX2 ⟨"WeatherMast$Numbers", "level", "(J)J"⟩ yX0_level cX0_level 3 .long 1 := ⟨qw3_51, qw3_52, qw3_53, qw1_11, qw3_54, by decide +kernel, Or.inr (by decide +kernel)⟩
theorem ou_X3_X2_X3_level : okU RX3 RX2 ⟨"WeatherMast$Numbers", "level", "(J)J"⟩ yX3_level cX3_level 3 .long 1 := ⟨qw3_51, qw3_55, qw3_56, qw1_10, qw3_57, by decide +kernel, Or.inr (by decide +kernel)⟩
theorem ou_X0_X2_X0_toInt : okU RX0 RX2 ⟨"WeatherMast$Numbers", "toInt", "(J)I"⟩ yX0_toInt cX0_toInt 9 .int 1 := ⟨qw3_106, qw3_107, qw3_108, qw1_11, qw3_109, by decide +kernel, Or.inr (by decide +kernel)⟩
theorem ou_X3_X2_X3_toInt : okU RX3 RX2 ⟨"WeatherMast$Numbers", "toInt", "(J)I"⟩ yX3_toInt cX3_toInt 3 .int 1 := ⟨qw3_106, qw3_112, qw3_113, qw1_10, qw3_114, by decide +kernel, Or.inr (by decide +kernel)⟩
end
section
/-! two rows in one: a comparison of longs and the branch behind it; joins; switches -/
theorem mw_cmp_eq (x y : Int64) : lg_cmp x y = 0 ↔ x = y := by
  unfold lg_cmp
  by_cases h1 : y < x
  · rw [if_pos h1]; exact ⟨fun h => absurd h (by decide), fun h => by rw [h] at h1; exact absurd h1 (by rw [Int64.lt_iff_toInt_lt]; omega)⟩
  · rw [if_neg h1]
    by_cases h2 : x = y
    · rw [if_pos h2]; exact ⟨fun _ => h2, fun _ => rfl⟩
    · rw [if_neg h2]; exact ⟨fun h => absurd h (by decide), fun h => absurd h h2⟩
theorem mw_cmp_gt (x y : Int64) : 0 < lg_cmp x y ↔ y < x := by
  unfold lg_cmp
  by_cases h1 : y < x
  · rw [if_pos h1]; exact ⟨fun _ => h1, fun _ => by decide⟩
  · rw [if_neg h1]
    by_cases h2 : x = y
    · rw [if_pos h2]; exact ⟨fun h => absurd h (by decide), fun h => absurd h h1⟩
    · rw [if_neg h2]; exact ⟨fun h => absurd h (by decide), fun h => absurd h h1⟩
theorem mw_cmp_lt (x y : Int64) : lg_cmp x y < 0 ↔ x < y := by
  unfold lg_cmp
  by_cases h1 : y < x
  · rw [if_pos h1]; exact ⟨fun h => absurd h (by decide), fun h => by rw [Int64.lt_iff_toInt_lt] at h h1; omega⟩
  · rw [if_neg h1]
    by_cases h2 : x = y
    · rw [if_pos h2]; exact ⟨fun h => absurd h (by decide), fun h => by rw [h2, Int64.lt_iff_toInt_lt] at h; omega⟩
    · rw [if_neg h2]; exact ⟨fun _ => by
        rw [Int64.lt_iff_toInt_lt] at h1 ⊢
        have h3 : x.toInt ≠ y.toInt := fun q => h2 (Int64.toInt_inj.mp q)
        omega, fun _ => by decide⟩
theorem mw_cmp_ge (x y : Int64) : 0 ≤ lg_cmp x y ↔ y ≤ x := by
  have h := mw_cmp_lt x y
  rw [Int32.lt_iff_toInt_lt, Int64.lt_iff_toInt_lt] at h
  rw [Int32.le_iff_toInt_le, Int64.le_iff_toInt_le]
  omega
theorem mw_cmp_le (x y : Int64) : lg_cmp x y ≤ 0 ↔ x ≤ y := by
  have h := mw_cmp_gt x y
  rw [Int32.lt_iff_toInt_lt, Int64.lt_iff_toInt_lt] at h
  rw [Int32.le_iff_toInt_le, Int64.le_iff_toInt_le]
  omega
section MWR
variable {p : Program} {l : Launch} {e : Env} {R : Room} {s : State} {m : MethodId} {args : Array Value} {below : List Frame} {meth : Method} {c : Code} {H : Heap} {locs : List Loc} {cells slots : Nat} {Q : State → Prop}
variable {cc : ByteArray} {pc : Nat} {ls : Array Slot} {st rest : List Value}
theorem mw_leq (hx : p.tables.exec = Jvm.exec) (hb : c.code = cc) {x y : Int64} {off : Int} {tgt : Nat} (hd1 : decode cc pc = .ok (.lcmp, 1)) (hd2 : decode cc (pc + 1) = .ok (.ifCond .eq off, 3)) (ht : ((pc + 1 : Nat) : Int) + off = (tgt : Int)) (kt : x = y → W p l e R s m args below meth c H locs cells slots Q (F0 m tgt ls rest)) (kf : ¬ x = y → W p l e R s m args below meth c H locs cells slots Q (F0 m (pc + 1 + 3) ls rest)) : W p l e R s m args below meth c H locs cells slots Q (F0 m pc ls (.long y :: .long x :: rest)) :=
  W.lcmp hx hb hd1 (lv_if_eq (tgt := tgt) hx hb hd2 ht (fun h => kt ((mw_cmp_eq x y).mp h)) (fun h => kf (fun q => h ((mw_cmp_eq x y).mpr q))))
theorem mw_lne (hx : p.tables.exec = Jvm.exec) (hb : c.code = cc) {x y : Int64} {off : Int} {tgt : Nat} (hd1 : decode cc pc = .ok (.lcmp, 1)) (hd2 : decode cc (pc + 1) = .ok (.ifCond .ne off, 3)) (ht : ((pc + 1 : Nat) : Int) + off = (tgt : Int)) (kt : ¬ x = y → W p l e R s m args below meth c H locs cells slots Q (F0 m tgt ls rest)) (kf : x = y → W p l e R s m args below meth c H locs cells slots Q (F0 m (pc + 1 + 3) ls rest)) : W p l e R s m args below meth c H locs cells slots Q (F0 m pc ls (.long y :: .long x :: rest)) :=
  W.lcmp hx hb hd1 (lv_if_ne (tgt := tgt) hx hb hd2 ht (fun h => kt (fun q => h ((mw_cmp_eq x y).mpr q))) (fun h => kf ((mw_cmp_eq x y).mp h)))
theorem mw_llt (hx : p.tables.exec = Jvm.exec) (hb : c.code = cc) {x y : Int64} {off : Int} {tgt : Nat} (hd1 : decode cc pc = .ok (.lcmp, 1)) (hd2 : decode cc (pc + 1) = .ok (.ifCond .lt off, 3)) (ht : ((pc + 1 : Nat) : Int) + off = (tgt : Int)) (kt : x < y → W p l e R s m args below meth c H locs cells slots Q (F0 m tgt ls rest)) (kf : ¬ x < y → W p l e R s m args below meth c H locs cells slots Q (F0 m (pc + 1 + 3) ls rest)) : W p l e R s m args below meth c H locs cells slots Q (F0 m pc ls (.long y :: .long x :: rest)) :=
  W.lcmp hx hb hd1 (lv_if_lt (tgt := tgt) hx hb hd2 ht (fun h => kt ((mw_cmp_lt x y).mp h)) (fun h => kf (fun q => h ((mw_cmp_lt x y).mpr q))))
theorem mw_lge (hx : p.tables.exec = Jvm.exec) (hb : c.code = cc) {x y : Int64} {off : Int} {tgt : Nat} (hd1 : decode cc pc = .ok (.lcmp, 1)) (hd2 : decode cc (pc + 1) = .ok (.ifCond .ge off, 3)) (ht : ((pc + 1 : Nat) : Int) + off = (tgt : Int)) (kt : y ≤ x → W p l e R s m args below meth c H locs cells slots Q (F0 m tgt ls rest)) (kf : ¬ y ≤ x → W p l e R s m args below meth c H locs cells slots Q (F0 m (pc + 1 + 3) ls rest)) : W p l e R s m args below meth c H locs cells slots Q (F0 m pc ls (.long y :: .long x :: rest)) :=
  W.lcmp hx hb hd1 (lv_if_ge (tgt := tgt) hx hb hd2 ht (fun h => kt ((mw_cmp_ge x y).mp h)) (fun h => kf (fun q => h ((mw_cmp_ge x y).mpr q))))
theorem mw_lgt (hx : p.tables.exec = Jvm.exec) (hb : c.code = cc) {x y : Int64} {off : Int} {tgt : Nat} (hd1 : decode cc pc = .ok (.lcmp, 1)) (hd2 : decode cc (pc + 1) = .ok (.ifCond .gt off, 3)) (ht : ((pc + 1 : Nat) : Int) + off = (tgt : Int)) (kt : y < x → W p l e R s m args below meth c H locs cells slots Q (F0 m tgt ls rest)) (kf : ¬ y < x → W p l e R s m args below meth c H locs cells slots Q (F0 m (pc + 1 + 3) ls rest)) : W p l e R s m args below meth c H locs cells slots Q (F0 m pc ls (.long y :: .long x :: rest)) :=
  W.lcmp hx hb hd1 (lv_if_gt (tgt := tgt) hx hb hd2 ht (fun h => kt ((mw_cmp_gt x y).mp h)) (fun h => kf (fun q => h ((mw_cmp_gt x y).mpr q))))
theorem mw_lle (hx : p.tables.exec = Jvm.exec) (hb : c.code = cc) {x y : Int64} {off : Int} {tgt : Nat} (hd1 : decode cc pc = .ok (.lcmp, 1)) (hd2 : decode cc (pc + 1) = .ok (.ifCond .le off, 3)) (ht : ((pc + 1 : Nat) : Int) + off = (tgt : Int)) (kt : x ≤ y → W p l e R s m args below meth c H locs cells slots Q (F0 m tgt ls rest)) (kf : ¬ x ≤ y → W p l e R s m args below meth c H locs cells slots Q (F0 m (pc + 1 + 3) ls rest)) : W p l e R s m args below meth c H locs cells slots Q (F0 m pc ls (.long y :: .long x :: rest)) :=
  W.lcmp hx hb hd1 (lv_if_le (tgt := tgt) hx hb hd2 ht (fun h => kt ((mw_cmp_le x y).mp h)) (fun h => kf (fun q => h ((mw_cmp_le x y).mpr q))))
/-- two roads come together at J with one value on top -/
theorem mw_join (J : Nat) (v : Value) (rest : List Value) (h1 : W p l e R s m args below meth c H locs cells slots Q (F0 m J ls (v :: rest)) → W p l e R s m args below meth c H locs cells slots Q (F0 m pc ls st)) (h2 : W p l e R s m args below meth c H locs cells slots Q (F0 m J ls (v :: rest))) : W p l e R s m args below meth c H locs cells slots Q (F0 m pc ls st) := h1 h2
theorem mw_topI {x y : Int32} (h : y = x) (K : W p l e R s m args below meth c H locs cells slots Q (F0 m pc ls (.int y :: rest))) : W p l e R s m args below meth c H locs cells slots Q (F0 m pc ls (.int x :: rest)) := by rw [← h]; exact K
theorem mw_topL {x y : Int64} (h : y = x) (K : W p l e R s m args below meth c H locs cells slots Q (F0 m pc ls (.long y :: rest))) : W p l e R s m args below meth c H locs cells slots Q (F0 m pc ls (.long x :: rest)) := by rw [← h]; exact K
end MWR
theorem mw_ne {x y : Int32} (h : ¬ x = y) : x.toInt ≠ y.toInt := fun q => h (Int32.toInt_inj.mp q)
end
section
/-! THE REFERENCE: its static methods that change nothing and make no float -/
def jshl (x : Int64) (y : Int32) : Int64 := x <<< (y.toInt64 &&& 63)
def jshr (x : Int64) (y : Int32) : Int64 := x >>> (y.toInt64 &&& 63)
def jushr (x : Int64) (y : Int32) : Int64 := (x.toUInt64 >>> (y.toInt64.toUInt64 &&& Int64.toUInt64 63)).toInt64
def fX5_isReal (sort : Int32) : Int32 := if sort < 2 then 0 else 1
set_option maxRecDepth 100000 in
set_option maxHeartbeats 4000000 in
theorem cvX5_isReal (l : Launch) (D : mG) (sort : Int32) : cV l D yX5_isReal cX5_isReal 1 .boolean 0 (fun _ => True) [.int sort] (.int (fX5_isReal  sort)) := by
  refine cV_of (by decide) (Nat.le_of_ble_eq_true rfl) ?_
  intro p e s m below meth c ls hx hb hr hlocks G hgf hpic hl
  have hl : lv_has ls 1 [(0, .int sort)] := hl
  refine lv_iload_n hx hb dX5_isReal_0 rfl (lv_at hl 0 rfl) ?_
  refine lv_iconst (v := 2) hx hb dX5_isReal_1 (by decide) ?_
  refine lv_icmp_lt (tgt := 9) hx hb dX5_isReal_2 (by decide) (fun c_1 => ?_) (fun c_1 => ?_)
  · refine lv_iconst (v := 0) hx hb dX5_isReal_9 (by decide) ?_
    exact mw_zret hx hb hr hlocks dX5_isReal_10 (Or.inl rfl) ((if_pos c_1).trans (rfl)).symm
  · refine lv_iconst (v := 1) hx hb dX5_isReal_5 (by decide) ?_
    refine lv_goto (tgt := 10) hx hb dX5_isReal_6 (by decide) ?_
    exact mw_zret hx hb hr hlocks dX5_isReal_10 (Or.inr rfl) ((if_neg c_1).trans (rfl)).symm
def fX5_places (sort : Int32) : Int32 := if sort = 2 then 23 else 52
set_option maxRecDepth 100000 in
set_option maxHeartbeats 4000000 in
theorem cvX5_places (l : Launch) (D : mG) (sort : Int32) : cV l D yX5_places cX5_places 1 .int 0 (fun _ => True) [.int sort] (.int (fX5_places  sort)) := by
  refine cV_of (by decide) (Nat.le_of_ble_eq_true rfl) ?_
  intro p e s m below meth c ls hx hb hr hlocks G hgf hpic hl
  have hl : lv_has ls 1 [(0, .int sort)] := hl
  refine lv_iload_n hx hb dX5_places_0 rfl (lv_at hl 0 rfl) ?_
  refine lv_iconst (v := 2) hx hb dX5_places_1 (by decide) ?_
  refine lv_icmp_ne (tgt := 10) hx hb dX5_places_2 (by decide) (fun c_1 => ?_) (fun c_1 => ?_)
  · refine lv_bipush (v := 52) hx hb dX5_places_10 (by decide) ?_
    exact mw_iret hx hb hr hlocks dX5_places_12 ((if_neg c_1).trans (rfl)).symm
  · refine lv_bipush (v := 23) hx hb dX5_places_5 (by decide) ?_
    refine lv_goto (tgt := 12) hx hb dX5_places_7 (by decide) ?_
    exact mw_iret hx hb hr hlocks dX5_places_12 ((if_pos c_1).trans (rfl)).symm
def fX5_signBit (sort : Int32) : Int64 := if sort = 2 then 2147483648 else (-9223372036854775808)
set_option maxRecDepth 100000 in
set_option maxHeartbeats 4000000 in
theorem cvX5_signBit (l : Launch) (D : mG) (sort : Int32) : cV l D yX5_signBit cX5_signBit 1 .long 0 (fun _ => True) [.int sort] (.long (fX5_signBit  sort)) := by
  refine cV_of (by decide) (Nat.le_of_ble_eq_true rfl) ?_
  intro p e s m below meth c ls hx hb hr hlocks G hgf hpic hl
  have hl : lv_has ls 1 [(0, .int sort)] := hl
  refine lv_iload_n hx hb dX5_signBit_0 rfl (lv_at hl 0 rfl) ?_
  refine lv_iconst (v := 2) hx hb dX5_signBit_1 (by decide) ?_
  refine lv_icmp_ne (tgt := 11) hx hb dX5_signBit_2 (by decide) (fun c_1 => ?_) (fun c_1 => ?_)
  · refine lv_ldc2 (v := (-9223372036854775808)) hx hb G.2.2.2.1 (G.2.2.2.2 _ qw3_232) dX5_signBit_11 ?_
    exact mw_lret hx hb hr hlocks dX5_signBit_14 ((if_neg c_1).trans (rfl)).symm
  · refine lv_ldc2 (v := 2147483648) hx hb G.2.2.2.1 (G.2.2.2.2 _ qw4_4) dX5_signBit_5 ?_
    refine lv_goto (tgt := 14) hx hb dX5_signBit_8 (by decide) ?_
    exact mw_lret hx hb hr hlocks dX5_signBit_14 ((if_pos c_1).trans (rfl)).symm
def fX5_endless (sort : Int32) : Int64 := if sort = 2 then 2139095040 else 9218868437227405312
set_option maxRecDepth 100000 in
set_option maxHeartbeats 4000000 in
theorem cvX5_endless (l : Launch) (D : mG) (sort : Int32) : cV l D yX5_endless cX5_endless 1 .long 0 (fun _ => True) [.int sort] (.long (fX5_endless  sort)) := by
  refine cV_of (by decide) (Nat.le_of_ble_eq_true rfl) ?_
  intro p e s m below meth c ls hx hb hr hlocks G hgf hpic hl
  have hl : lv_has ls 1 [(0, .int sort)] := hl
  refine lv_iload_n hx hb dX5_endless_0 rfl (lv_at hl 0 rfl) ?_
  refine lv_iconst (v := 2) hx hb dX5_endless_1 (by decide) ?_
  refine lv_icmp_ne (tgt := 11) hx hb dX5_endless_2 (by decide) (fun c_1 => ?_) (fun c_1 => ?_)
  · refine lv_ldc2 (v := 9218868437227405312) hx hb G.2.2.2.1 (G.2.2.2.2 _ qw3_237) dX5_endless_11 ?_
    exact mw_lret hx hb hr hlocks dX5_endless_14 ((if_neg c_1).trans (rfl)).symm
  · refine lv_ldc2 (v := 2139095040) hx hb G.2.2.2.1 (G.2.2.2.2 _ qw3_236) dX5_endless_5 ?_
    refine lv_goto (tgt := 14) hx hb dX5_endless_8 (by decide) ?_
    exact mw_lret hx hb hr hlocks dX5_endless_14 ((if_pos c_1).trans (rfl)).symm
def fX5_one (sort : Int32) : Int64 := if sort = 2 then 1065353216 else 4607182418800017408
set_option maxRecDepth 100000 in
set_option maxHeartbeats 4000000 in
theorem cvX5_one (l : Launch) (D : mG) (sort : Int32) : cV l D yX5_one cX5_one 1 .long 0 (fun _ => True) [.int sort] (.long (fX5_one  sort)) := by
  refine cV_of (by decide) (Nat.le_of_ble_eq_true rfl) ?_
  intro p e s m below meth c ls hx hb hr hlocks G hgf hpic hl
  have hl : lv_has ls 1 [(0, .int sort)] := hl
  refine lv_iload_n hx hb dX5_one_0 rfl (lv_at hl 0 rfl) ?_
  refine lv_iconst (v := 2) hx hb dX5_one_1 (by decide) ?_
  refine lv_icmp_ne (tgt := 11) hx hb dX5_one_2 (by decide) (fun c_1 => ?_) (fun c_1 => ?_)
  · refine lv_ldc2 (v := 4607182418800017408) hx hb G.2.2.2.1 (G.2.2.2.2 _ qw4_90) dX5_one_11 ?_
    exact mw_lret hx hb hr hlocks dX5_one_14 ((if_neg c_1).trans (rfl)).symm
  · refine lv_ldc2 (v := 1065353216) hx hb G.2.2.2.1 (G.2.2.2.2 _ qw4_89) dX5_one_5 ?_
    refine lv_goto (tgt := 14) hx hb dX5_one_8 (by decide) ?_
    exact mw_lret hx hb hr hlocks dX5_one_14 ((if_pos c_1).trans (rfl)).symm
def fX5_cut (sort : Int32) (bits : Int64) : Int64 := if sort = 0 then bits.toInt32.toInt64 else (if sort = 2 then bits.toInt32.toInt64 else bits)
set_option maxRecDepth 100000 in
set_option maxHeartbeats 4000000 in
theorem cvX5_cut (l : Launch) (D : mG) (sort : Int32) (bits : Int64) : cV l D yX5_cut cX5_cut 3 .long 0 (fun _ => True) [.int sort, .long bits] (.long (fX5_cut  sort bits)) := by
  refine cV_of (by decide) (Nat.le_of_ble_eq_true rfl) ?_
  intro p e s m below meth c ls hx hb hr hlocks G hgf hpic hl
  have hl : lv_has ls 3 [(0, .int sort), (1, .long bits)] := hl
  refine lv_iload_n hx hb dX5_cut_0 rfl (lv_at hl 0 rfl) ?_
  refine lv_if_eq (tgt := 9) hx hb dX5_cut_1 (by decide) (fun c_1 => ?_) (fun c_1 => ?_)
  · refine lv_lload_n hx hb dX5_cut_9 rfl (lv_at hl 1 rfl) ?_
    refine lv_l2i hx hb dX5_cut_10 rfl ?_
    refine lv_i2l hx hb dX5_cut_11 rfl ?_
    refine lv_goto (tgt := 16) hx hb dX5_cut_12 (by decide) ?_
    exact mw_lret hx hb hr hlocks dX5_cut_16 ((if_pos c_1).trans (rfl)).symm
  · refine lv_iload_n hx hb dX5_cut_4 rfl (lv_at hl 0 rfl) ?_
    refine lv_iconst (v := 2) hx hb dX5_cut_5 (by decide) ?_
    refine lv_icmp_ne (tgt := 15) hx hb dX5_cut_6 (by decide) (fun c_2 => ?_) (fun c_2 => ?_)
    · refine lv_lload_n hx hb dX5_cut_15 rfl (lv_at hl 1 rfl) ?_
      exact mw_lret hx hb hr hlocks dX5_cut_16 ((if_neg c_1).trans ((if_neg c_2).trans (rfl))).symm
    · refine lv_lload_n hx hb dX5_cut_9 rfl (lv_at hl 1 rfl) ?_
      refine lv_l2i hx hb dX5_cut_10 rfl ?_
      refine lv_i2l hx hb dX5_cut_11 rfl ?_
      refine lv_goto (tgt := 16) hx hb dX5_cut_12 (by decide) ?_
      exact mw_lret hx hb hr hlocks dX5_cut_16 ((if_neg c_1).trans ((if_pos c_2).trans (rfl))).symm
def fX5_form (sort : Int32) (v : Int64) : Int64 := if sort = 2 then v &&& 4294967295 else v
set_option maxRecDepth 100000 in
set_option maxHeartbeats 4000000 in
theorem cvX5_form (l : Launch) (D : mG) (sort : Int32) (v : Int64) : cV l D yX5_form cX5_form 3 .long 0 (fun _ => True) [.int sort, .long v] (.long (fX5_form  sort v)) := by
  refine cV_of (by decide) (Nat.le_of_ble_eq_true rfl) ?_
  intro p e s m below meth c ls hx hb hr hlocks G hgf hpic hl
  have hl : lv_has ls 3 [(0, .int sort), (1, .long v)] := hl
  refine lv_iload_n hx hb dX5_form_0 rfl (lv_at hl 0 rfl) ?_
  refine lv_iconst (v := 2) hx hb dX5_form_1 (by decide) ?_
  refine lv_icmp_ne (tgt := 13) hx hb dX5_form_2 (by decide) (fun c_1 => ?_) (fun c_1 => ?_)
  · refine lv_lload_n hx hb dX5_form_13 rfl (lv_at hl 1 rfl) ?_
    exact mw_lret hx hb hr hlocks dX5_form_14 ((if_neg c_1).trans (rfl)).symm
  · refine lv_lload_n hx hb dX5_form_5 rfl (lv_at hl 1 rfl) ?_
    refine lv_ldc2 (v := 4294967295) hx hb G.2.2.2.1 (G.2.2.2.2 _ qw4_36) dX5_form_6 ?_
    refine lv_land hx hb dX5_form_9 ?_
    refine lv_goto (tgt := 14) hx hb dX5_form_10 (by decide) ?_
    exact mw_lret hx hb hr hlocks dX5_form_14 ((if_pos c_1).trans (rfl)).symm
def fX5_amountBits (sort : Int32) (v : Int64) : Int64 := (fX5_form sort v) &&& ((fX5_signBit sort) ^^^ (-1))
set_option maxRecDepth 100000 in
set_option maxHeartbeats 4000000 in
theorem cvX5_amountBits (l : Launch) (D : mG) (sort : Int32) (v : Int64) : cV l D yX5_amountBits cX5_amountBits 3 .long 1 (fun _ => True) [.int sort, .long v] (.long (fX5_amountBits  sort v)) := by
  refine cV_of (by decide) (Nat.le_of_ble_eq_true rfl) ?_
  intro p e s m below meth c ls hx hb hr hlocks G hgf hpic hl
  have hl : lv_has ls 3 [(0, .int sort), (1, .long v)] := hl
  refine lv_iload_n hx hb dX5_amountBits_0 rfl (lv_at hl 0 rfl) ?_
  refine lv_lload_n hx hb dX5_amountBits_1 rfl (lv_at hl 1 rfl) ?_
  refine kS G (cvX5_form l D sort v) okX5_form hgf trivial qw4_33 ⟨Nat.le_of_ble_eq_true rfl, Nat.le_of_ble_eq_true rfl⟩ ⟨Nat.zero_le _, Nat.zero_le _⟩ hl.1 (Nat.le_of_ble_eq_true rfl) rfl dX5_amountBits_2 ?_
  refine lv_iload_n hx hb dX5_amountBits_5 rfl (lv_at hl 0 rfl) ?_
  refine kS G (cvX5_signBit l D sort) okX5_signBit hgf trivial qw4_1 ⟨Nat.le_of_ble_eq_true rfl, Nat.le_of_ble_eq_true rfl⟩ ⟨Nat.zero_le _, Nat.zero_le _⟩ hl.1 (Nat.le_of_ble_eq_true rfl) rfl dX5_amountBits_6 ?_
  refine lv_ldc2 (v := (-1)) hx hb G.2.2.2.1 (G.2.2.2.2 _ qw4_37) dX5_amountBits_9 ?_
  refine lv_lxor hx hb dX5_amountBits_12 ?_
  refine lv_land hx hb dX5_amountBits_13 ?_
  exact mw_lret hx hb hr hlocks dX5_amountBits_14 (rfl).symm
def fX5_isMinus (sort : Int32) (v : Int64) : Int32 := if 0 ≤ v then 0 else 1
set_option maxRecDepth 100000 in
set_option maxHeartbeats 4000000 in
theorem cvX5_isMinus (l : Launch) (D : mG) (sort : Int32) (v : Int64) : cV l D yX5_isMinus cX5_isMinus 3 .boolean 0 (fun _ => True) [.int sort, .long v] (.int (fX5_isMinus  sort v)) := by
  refine cV_of (by decide) (Nat.le_of_ble_eq_true rfl) ?_
  intro p e s m below meth c ls hx hb hr hlocks G hgf hpic hl
  have hl : lv_has ls 3 [(0, .int sort), (1, .long v)] := hl
  refine lv_lload_n hx hb dX5_isMinus_0 rfl (lv_at hl 1 rfl) ?_
  refine lv_lconst (v := 0) hx hb dX5_isMinus_1 (by decide) ?_
  refine mw_lge (tgt := 10) hx hb dX5_isMinus_2 dX5_isMinus_3 (by decide) (fun c_1 => ?_) (fun c_1 => ?_)
  · refine lv_iconst (v := 0) hx hb dX5_isMinus_10 (by decide) ?_
    exact mw_zret hx hb hr hlocks dX5_isMinus_11 (Or.inl rfl) ((if_pos c_1).trans (rfl)).symm
  · refine lv_iconst (v := 1) hx hb dX5_isMinus_6 (by decide) ?_
    refine lv_goto (tgt := 11) hx hb dX5_isMinus_7 (by decide) ?_
    exact mw_zret hx hb hr hlocks dX5_isMinus_11 (Or.inr rfl) ((if_neg c_1).trans (rfl)).symm
def fX5_isNone (sort : Int32) (bits : Int64) : Int32 := if (fX5_isReal sort) = 0 then 0 else (if (fX5_amountBits sort (fX5_cut sort bits)) ≤ (fX5_endless sort) then 0 else 1)
set_option maxRecDepth 100000 in
set_option maxHeartbeats 4000000 in
theorem cvX5_isNone (l : Launch) (D : mG) (sort : Int32) (bits : Int64) : cV l D yX5_isNone cX5_isNone 3 .boolean 2 (fun _ => True) [.int sort, .long bits] (.int (fX5_isNone  sort bits)) := by
  refine cV_of (by decide) (Nat.le_of_ble_eq_true rfl) ?_
  intro p e s m below meth c ls hx hb hr hlocks G hgf hpic hl
  have hl : lv_has ls 3 [(0, .int sort), (1, .long bits)] := hl
  refine lv_iload_n hx hb dX5_isNone_0 rfl (lv_at hl 0 rfl) ?_
  refine kS G (cvX5_isReal l D sort) okX5_isReal hgf trivial qw4_21 ⟨Nat.le_of_ble_eq_true rfl, Nat.le_of_ble_eq_true rfl⟩ ⟨Nat.zero_le _, Nat.zero_le _⟩ hl.1 (Nat.le_of_ble_eq_true rfl) rfl dX5_isNone_1 ?_
  refine lv_if_eq (tgt := 28) hx hb dX5_isNone_4 (by decide) (fun c_1 => ?_) (fun c_1 => ?_)
  · refine lv_iconst (v := 0) hx hb dX5_isNone_28 (by decide) ?_
    exact mw_zret hx hb hr hlocks dX5_isNone_29 (Or.inl rfl) ((if_pos c_1).trans (rfl)).symm
  · refine lv_iload_n hx hb dX5_isNone_7 rfl (lv_at hl 0 rfl) ?_
    refine lv_iload_n hx hb dX5_isNone_8 rfl (lv_at hl 0 rfl) ?_
    refine lv_lload_n hx hb dX5_isNone_9 rfl (lv_at hl 1 rfl) ?_
    refine kS G (cvX5_cut l D sort bits) okX5_cut hgf trivial qw4_5 ⟨Nat.le_of_ble_eq_true rfl, Nat.le_of_ble_eq_true rfl⟩ ⟨Nat.zero_le _, Nat.zero_le _⟩ hl.1 (Nat.le_of_ble_eq_true rfl) rfl dX5_isNone_10 ?_
    refine kS G (cvX5_amountBits l D sort (fX5_cut sort bits)) okX5_amountBits hgf trivial qw4_30 ⟨Nat.le_of_ble_eq_true rfl, Nat.le_of_ble_eq_true rfl⟩ ⟨Nat.zero_le _, Nat.zero_le _⟩ hl.1 (Nat.le_of_ble_eq_true rfl) rfl dX5_isNone_13 ?_
    refine lv_iload_n hx hb dX5_isNone_16 rfl (lv_at hl 0 rfl) ?_
    refine kS G (cvX5_endless l D sort) okX5_endless hgf trivial qw3_233 ⟨Nat.le_of_ble_eq_true rfl, Nat.le_of_ble_eq_true rfl⟩ ⟨Nat.zero_le _, Nat.zero_le _⟩ hl.1 (Nat.le_of_ble_eq_true rfl) rfl dX5_isNone_17 ?_
    refine mw_lle (tgt := 28) hx hb dX5_isNone_20 dX5_isNone_21 (by decide) (fun c_2 => ?_) (fun c_2 => ?_)
    · refine lv_iconst (v := 0) hx hb dX5_isNone_28 (by decide) ?_
      exact mw_zret hx hb hr hlocks dX5_isNone_29 (Or.inl rfl) ((if_neg c_1).trans ((if_pos c_2).trans (rfl))).symm
    · refine lv_iconst (v := 1) hx hb dX5_isNone_24 (by decide) ?_
      refine lv_goto (tgt := 29) hx hb dX5_isNone_25 (by decide) ?_
      exact mw_zret hx hb hr hlocks dX5_isNone_29 (Or.inr rfl) ((if_neg c_1).trans ((if_neg c_2).trans (rfl))).symm
def fX5_rank (sort : Int32) (v : Int64) : Int64 := if (fX5_isReal sort) = 0 then v else (if (fX5_isMinus sort v) = 0 then fX5_amountBits sort v else (-1) - (fX5_amountBits sort v))
set_option maxRecDepth 100000 in
set_option maxHeartbeats 4000000 in
theorem cvX5_rank (l : Launch) (D : mG) (sort : Int32) (v : Int64) : cV l D yX5_rank cX5_rank 5 .long 2 (fun _ => True) [.int sort, .long v] (.long (fX5_rank  sort v)) := by
  refine cV_of (by decide) (Nat.le_of_ble_eq_true rfl) ?_
  intro p e s m below meth c ls hx hb hr hlocks G hgf hpic hl
  have hl : lv_has ls 5 [(0, .int sort), (1, .long v)] := hl
  refine lv_iload_n hx hb dX5_rank_0 rfl (lv_at hl 0 rfl) ?_
  refine kS G (cvX5_isReal l D sort) okX5_isReal hgf trivial qw4_21 ⟨Nat.le_of_ble_eq_true rfl, Nat.le_of_ble_eq_true rfl⟩ ⟨Nat.zero_le _, Nat.zero_le _⟩ hl.1 (Nat.le_of_ble_eq_true rfl) rfl dX5_rank_1 ?_
  refine lv_if_ne (tgt := 9) hx hb dX5_rank_4 (by decide) (fun c_1 => ?_) (fun c_1 => ?_)
  · refine lv_iload_n hx hb dX5_rank_9 rfl (lv_at hl 0 rfl) ?_
    refine lv_lload_n hx hb dX5_rank_10 rfl (lv_at hl 1 rfl) ?_
    refine kS G (cvX5_amountBits l D sort v) okX5_amountBits hgf trivial qw4_30 ⟨Nat.le_of_ble_eq_true rfl, Nat.le_of_ble_eq_true rfl⟩ ⟨Nat.zero_le _, Nat.zero_le _⟩ hl.1 (Nat.le_of_ble_eq_true rfl) rfl dX5_rank_11 ?_
    refine lv_lstore_n (lv' := [(3, .long (fX5_amountBits sort v)), (0, .int sort), (1, .long v)]) hx hb dX5_rank_14 rfl hl (by decide) rfl (fun ls hl => ?_)
    refine lv_iload_n hx hb dX5_rank_15 rfl (lv_at hl 1 rfl) ?_
    refine lv_lload_n hx hb dX5_rank_16 rfl (lv_at hl 2 rfl) ?_
    refine kS G (cvX5_isMinus l D sort v) okX5_isMinus hgf trivial qw4_59 ⟨Nat.le_of_ble_eq_true rfl, Nat.le_of_ble_eq_true rfl⟩ ⟨Nat.zero_le _, Nat.zero_le _⟩ hl.1 (Nat.le_of_ble_eq_true rfl) rfl dX5_rank_17 ?_
    refine lv_if_eq (tgt := 31) hx hb dX5_rank_20 (by decide) (fun c_2 => ?_) (fun c_2 => ?_)
    · refine lv_lload_n hx hb dX5_rank_31 rfl (lv_at hl 0 rfl) ?_
      exact mw_lret hx hb hr hlocks dX5_rank_32 ((if_neg c_1).trans ((if_pos c_2).trans (rfl))).symm
    · refine lv_ldc2 (v := (-1)) hx hb G.2.2.2.1 (G.2.2.2.2 _ qw4_37) dX5_rank_23 ?_
      refine lv_lload_n hx hb dX5_rank_26 rfl (lv_at hl 0 rfl) ?_
      refine lv_lsub hx hb dX5_rank_27 ?_
      refine lv_goto (tgt := 32) hx hb dX5_rank_28 (by decide) ?_
      exact mw_lret hx hb hr hlocks dX5_rank_32 ((if_neg c_1).trans ((if_neg c_2).trans (rfl))).symm
  · refine lv_lload_n hx hb dX5_rank_7 rfl (lv_at hl 1 rfl) ?_
    exact mw_lret hx hb hr hlocks dX5_rank_8 ((if_pos c_1).trans (rfl)).symm
def fX5_height (sort : Int32) (v : Int64) : Int64 := if (fX5_isReal sort) = 0 then fX5_rank sort v else (if (fX5_amountBits sort v) = 0 then 0 else fX5_rank sort v)
set_option maxRecDepth 100000 in
set_option maxHeartbeats 4000000 in
theorem cvX5_height (l : Launch) (D : mG) (sort : Int32) (v : Int64) : cV l D yX5_height cX5_height 3 .long 3 (fun _ => True) [.int sort, .long v] (.long (fX5_height  sort v)) := by
  refine cV_of (by decide) (Nat.le_of_ble_eq_true rfl) ?_
  intro p e s m below meth c ls hx hb hr hlocks G hgf hpic hl
  have hl : lv_has ls 3 [(0, .int sort), (1, .long v)] := hl
  refine lv_iload_n hx hb dX5_height_0 rfl (lv_at hl 0 rfl) ?_
  refine kS G (cvX5_isReal l D sort) okX5_isReal hgf trivial qw4_21 ⟨Nat.le_of_ble_eq_true rfl, Nat.le_of_ble_eq_true rfl⟩ ⟨Nat.zero_le _, Nat.zero_le _⟩ hl.1 (Nat.le_of_ble_eq_true rfl) rfl dX5_height_1 ?_
  refine lv_if_eq (tgt := 21) hx hb dX5_height_4 (by decide) (fun c_1 => ?_) (fun c_1 => ?_)
  · refine lv_iload_n hx hb dX5_height_21 rfl (lv_at hl 0 rfl) ?_
    refine lv_lload_n hx hb dX5_height_22 rfl (lv_at hl 1 rfl) ?_
    refine kS G (cvX5_rank l D sort v) okX5_rank hgf trivial qw4_56 ⟨Nat.le_of_ble_eq_true rfl, Nat.le_of_ble_eq_true rfl⟩ ⟨Nat.zero_le _, Nat.zero_le _⟩ hl.1 (Nat.le_of_ble_eq_true rfl) rfl dX5_height_23 ?_
    exact mw_lret hx hb hr hlocks dX5_height_26 ((if_pos c_1).trans (rfl)).symm
  · refine lv_iload_n hx hb dX5_height_7 rfl (lv_at hl 0 rfl) ?_
    refine lv_lload_n hx hb dX5_height_8 rfl (lv_at hl 1 rfl) ?_
    refine kS G (cvX5_amountBits l D sort v) okX5_amountBits hgf trivial qw4_30 ⟨Nat.le_of_ble_eq_true rfl, Nat.le_of_ble_eq_true rfl⟩ ⟨Nat.zero_le _, Nat.zero_le _⟩ hl.1 (Nat.le_of_ble_eq_true rfl) rfl dX5_height_9 ?_
    refine lv_lconst (v := 0) hx hb dX5_height_12 (by decide) ?_
    refine mw_lne (tgt := 21) hx hb dX5_height_13 dX5_height_14 (by decide) (fun c_2 => ?_) (fun c_2 => ?_)
    · refine lv_iload_n hx hb dX5_height_21 rfl (lv_at hl 0 rfl) ?_
      refine lv_lload_n hx hb dX5_height_22 rfl (lv_at hl 1 rfl) ?_
      refine kS G (cvX5_rank l D sort v) okX5_rank hgf trivial qw4_56 ⟨Nat.le_of_ble_eq_true rfl, Nat.le_of_ble_eq_true rfl⟩ ⟨Nat.zero_le _, Nat.zero_le _⟩ hl.1 (Nat.le_of_ble_eq_true rfl) rfl dX5_height_23 ?_
      exact mw_lret hx hb hr hlocks dX5_height_26 ((if_neg c_1).trans ((if_neg c_2).trans (rfl))).symm
    · refine lv_lconst (v := 0) hx hb dX5_height_17 (by decide) ?_
      refine lv_goto (tgt := 26) hx hb dX5_height_18 (by decide) ?_
      exact mw_lret hx hb hr hlocks dX5_height_26 ((if_neg c_1).trans ((if_pos c_2).trans (rfl))).symm
def fX5_greater (sort : Int32) (a : Int64) (b : Int64) : Int64 := if (fX5_rank sort b) ≤ (fX5_rank sort a) then a else b
set_option maxRecDepth 100000 in
set_option maxHeartbeats 4000000 in
theorem cvX5_greater (l : Launch) (D : mG) (sort : Int32) (a : Int64) (b : Int64) : cV l D yX5_greater cX5_greater 5 .long 3 (fun _ => True) [.int sort, .long a, .long b] (.long (fX5_greater  sort a b)) := by
  refine cV_of (by decide) (Nat.le_of_ble_eq_true rfl) ?_
  intro p e s m below meth c ls hx hb hr hlocks G hgf hpic hl
  have hl : lv_has ls 5 [(0, .int sort), (1, .long a), (3, .long b)] := hl
  refine lv_iload_n hx hb dX5_greater_0 rfl (lv_at hl 0 rfl) ?_
  refine lv_lload_n hx hb dX5_greater_1 rfl (lv_at hl 1 rfl) ?_
  refine kS G (cvX5_rank l D sort a) okX5_rank hgf trivial qw4_56 ⟨Nat.le_of_ble_eq_true rfl, Nat.le_of_ble_eq_true rfl⟩ ⟨Nat.zero_le _, Nat.zero_le _⟩ hl.1 (Nat.le_of_ble_eq_true rfl) rfl dX5_greater_2 ?_
  refine lv_iload_n hx hb dX5_greater_5 rfl (lv_at hl 0 rfl) ?_
  refine lv_lload_n hx hb dX5_greater_6 rfl (lv_at hl 2 rfl) ?_
  refine kS G (cvX5_rank l D sort b) okX5_rank hgf trivial qw4_56 ⟨Nat.le_of_ble_eq_true rfl, Nat.le_of_ble_eq_true rfl⟩ ⟨Nat.zero_le _, Nat.zero_le _⟩ hl.1 (Nat.le_of_ble_eq_true rfl) rfl dX5_greater_7 ?_
  refine mw_lge (tgt := 18) hx hb dX5_greater_10 dX5_greater_11 (by decide) (fun c_1 => ?_) (fun c_1 => ?_)
  · refine lv_lload_n hx hb dX5_greater_18 rfl (lv_at hl 1 rfl) ?_
    exact mw_lret hx hb hr hlocks dX5_greater_19 ((if_pos c_1).trans (rfl)).symm
  · refine lv_lload_n hx hb dX5_greater_14 rfl (lv_at hl 2 rfl) ?_
    refine lv_goto (tgt := 19) hx hb dX5_greater_15 (by decide) ?_
    exact mw_lret hx hb hr hlocks dX5_greater_19 ((if_neg c_1).trans (rfl)).symm
def fX5_lesser (sort : Int32) (a : Int64) (b : Int64) : Int64 := if (fX5_rank sort a) ≤ (fX5_rank sort b) then a else b
set_option maxRecDepth 100000 in
set_option maxHeartbeats 4000000 in
theorem cvX5_lesser (l : Launch) (D : mG) (sort : Int32) (a : Int64) (b : Int64) : cV l D yX5_lesser cX5_lesser 5 .long 3 (fun _ => True) [.int sort, .long a, .long b] (.long (fX5_lesser  sort a b)) := by
  refine cV_of (by decide) (Nat.le_of_ble_eq_true rfl) ?_
  intro p e s m below meth c ls hx hb hr hlocks G hgf hpic hl
  have hl : lv_has ls 5 [(0, .int sort), (1, .long a), (3, .long b)] := hl
  refine lv_iload_n hx hb dX5_lesser_0 rfl (lv_at hl 0 rfl) ?_
  refine lv_lload_n hx hb dX5_lesser_1 rfl (lv_at hl 2 rfl) ?_
  refine kS G (cvX5_rank l D sort b) okX5_rank hgf trivial qw4_56 ⟨Nat.le_of_ble_eq_true rfl, Nat.le_of_ble_eq_true rfl⟩ ⟨Nat.zero_le _, Nat.zero_le _⟩ hl.1 (Nat.le_of_ble_eq_true rfl) rfl dX5_lesser_2 ?_
  refine lv_iload_n hx hb dX5_lesser_5 rfl (lv_at hl 0 rfl) ?_
  refine lv_lload_n hx hb dX5_lesser_6 rfl (lv_at hl 1 rfl) ?_
  refine kS G (cvX5_rank l D sort a) okX5_rank hgf trivial qw4_56 ⟨Nat.le_of_ble_eq_true rfl, Nat.le_of_ble_eq_true rfl⟩ ⟨Nat.zero_le _, Nat.zero_le _⟩ hl.1 (Nat.le_of_ble_eq_true rfl) rfl dX5_lesser_7 ?_
  refine mw_lge (tgt := 18) hx hb dX5_lesser_10 dX5_lesser_11 (by decide) (fun c_1 => ?_) (fun c_1 => ?_)
  · refine lv_lload_n hx hb dX5_lesser_18 rfl (lv_at hl 1 rfl) ?_
    exact mw_lret hx hb hr hlocks dX5_lesser_19 ((if_pos c_1).trans (rfl)).symm
  · refine lv_lload_n hx hb dX5_lesser_14 rfl (lv_at hl 2 rfl) ?_
    refine lv_goto (tgt := 19) hx hb dX5_lesser_15 (by decide) ?_
    exact mw_lret hx hb hr hlocks dX5_lesser_19 ((if_neg c_1).trans (rfl)).symm
def fX5_isAbove (sort : Int32) (a : Int64) (b : Int64) : Int32 := if (fX5_height sort a) ≤ (fX5_height sort b) then 0 else 1
set_option maxRecDepth 100000 in
set_option maxHeartbeats 4000000 in
theorem cvX5_isAbove (l : Launch) (D : mG) (sort : Int32) (a : Int64) (b : Int64) : cV l D yX5_isAbove cX5_isAbove 5 .boolean 4 (fun _ => True) [.int sort, .long a, .long b] (.int (fX5_isAbove  sort a b)) := by
  refine cV_of (by decide) (Nat.le_of_ble_eq_true rfl) ?_
  intro p e s m below meth c ls hx hb hr hlocks G hgf hpic hl
  have hl : lv_has ls 5 [(0, .int sort), (1, .long a), (3, .long b)] := hl
  refine lv_iload_n hx hb dX5_isAbove_0 rfl (lv_at hl 0 rfl) ?_
  refine lv_lload_n hx hb dX5_isAbove_1 rfl (lv_at hl 1 rfl) ?_
  refine kS G (cvX5_height l D sort a) okX5_height hgf trivial qw4_53 ⟨Nat.le_of_ble_eq_true rfl, Nat.le_of_ble_eq_true rfl⟩ ⟨Nat.zero_le _, Nat.zero_le _⟩ hl.1 (Nat.le_of_ble_eq_true rfl) rfl dX5_isAbove_2 ?_
  refine lv_iload_n hx hb dX5_isAbove_5 rfl (lv_at hl 0 rfl) ?_
  refine lv_lload_n hx hb dX5_isAbove_6 rfl (lv_at hl 2 rfl) ?_
  refine kS G (cvX5_height l D sort b) okX5_height hgf trivial qw4_53 ⟨Nat.le_of_ble_eq_true rfl, Nat.le_of_ble_eq_true rfl⟩ ⟨Nat.zero_le _, Nat.zero_le _⟩ hl.1 (Nat.le_of_ble_eq_true rfl) rfl dX5_isAbove_7 ?_
  refine mw_lle (tgt := 18) hx hb dX5_isAbove_10 dX5_isAbove_11 (by decide) (fun c_1 => ?_) (fun c_1 => ?_)
  · refine lv_iconst (v := 0) hx hb dX5_isAbove_18 (by decide) ?_
    exact mw_zret hx hb hr hlocks dX5_isAbove_19 (Or.inl rfl) ((if_pos c_1).trans (rfl)).symm
  · refine lv_iconst (v := 1) hx hb dX5_isAbove_14 (by decide) ?_
    refine lv_goto (tgt := 19) hx hb dX5_isAbove_15 (by decide) ?_
    exact mw_zret hx hb hr hlocks dX5_isAbove_19 (Or.inr rfl) ((if_neg c_1).trans (rfl)).symm
def fX5_amount (sort : Int32) (v : Int64) : Int64 := if (fX5_isReal sort) = 0 then fX5_cut sort (if 0 ≤ v then v else -v : Int64) else fX5_cut sort (fX5_amountBits sort v)
set_option maxRecDepth 100000 in
set_option maxHeartbeats 4000000 in
theorem cvX5_amount (l : Launch) (D : mG) (sort : Int32) (v : Int64) : cV l D yX5_amount cX5_amount 3 .long 2 (fun _ => True) [.int sort, .long v] (.long (fX5_amount  sort v)) := by
  refine cV_of (by decide) (Nat.le_of_ble_eq_true rfl) ?_
  intro p e s m below meth c ls hx hb hr hlocks G hgf hpic hl
  have hl : lv_has ls 3 [(0, .int sort), (1, .long v)] := hl
  refine lv_iload_n hx hb dX5_amount_0 rfl (lv_at hl 0 rfl) ?_
  refine kS G (cvX5_isReal l D sort) okX5_isReal hgf trivial qw4_21 ⟨Nat.le_of_ble_eq_true rfl, Nat.le_of_ble_eq_true rfl⟩ ⟨Nat.zero_le _, Nat.zero_le _⟩ hl.1 (Nat.le_of_ble_eq_true rfl) rfl dX5_amount_1 ?_
  refine lv_if_eq (tgt := 17) hx hb dX5_amount_4 (by decide) (fun c_1 => ?_) (fun c_1 => ?_)
  · refine lv_iload_n hx hb dX5_amount_17 rfl (lv_at hl 0 rfl) ?_
    refine lv_lload_n hx hb dX5_amount_18 rfl (lv_at hl 1 rfl) ?_
    refine lv_lconst (v := 0) hx hb dX5_amount_19 (by decide) ?_
    refine mw_join 30 (.long (if 0 ≤ v then v else -v : Int64)) [.int sort] (fun K => ?_) ?_
    · refine mw_lge (tgt := 29) hx hb dX5_amount_20 dX5_amount_21 (by decide) (fun c_2 => ?_) (fun c_2 => ?_)
      · refine lv_lload_n hx hb dX5_amount_29 rfl (lv_at hl 1 rfl) ?_
        exact mw_topL ((if_pos c_2).trans (rfl)) K
      · refine lv_lload_n hx hb dX5_amount_24 rfl (lv_at hl 1 rfl) ?_
        refine lv_lneg hx hb dX5_amount_25 ?_
        refine lv_goto (tgt := 30) hx hb dX5_amount_26 (by decide) ?_
        exact mw_topL ((if_neg c_2).trans (rfl)) K
    refine kS G (cvX5_cut l D sort (if 0 ≤ v then v else -v : Int64)) okX5_cut hgf trivial qw4_5 ⟨Nat.le_of_ble_eq_true rfl, Nat.le_of_ble_eq_true rfl⟩ ⟨Nat.zero_le _, Nat.zero_le _⟩ hl.1 (Nat.le_of_ble_eq_true rfl) rfl dX5_amount_30 ?_
    exact mw_lret hx hb hr hlocks dX5_amount_33 ((if_pos c_1).trans (rfl)).symm
  · refine lv_iload_n hx hb dX5_amount_7 rfl (lv_at hl 0 rfl) ?_
    refine lv_iload_n hx hb dX5_amount_8 rfl (lv_at hl 0 rfl) ?_
    refine lv_lload_n hx hb dX5_amount_9 rfl (lv_at hl 1 rfl) ?_
    refine kS G (cvX5_amountBits l D sort v) okX5_amountBits hgf trivial qw4_30 ⟨Nat.le_of_ble_eq_true rfl, Nat.le_of_ble_eq_true rfl⟩ ⟨Nat.zero_le _, Nat.zero_le _⟩ hl.1 (Nat.le_of_ble_eq_true rfl) rfl dX5_amount_10 ?_
    refine kS G (cvX5_cut l D sort (fX5_amountBits sort v)) okX5_cut hgf trivial qw4_5 ⟨Nat.le_of_ble_eq_true rfl, Nat.le_of_ble_eq_true rfl⟩ ⟨Nat.zero_le _, Nat.zero_le _⟩ hl.1 (Nat.le_of_ble_eq_true rfl) rfl dX5_amount_13 ?_
    exact mw_lret hx hb hr hlocks dX5_amount_16 ((if_neg c_1).trans (rfl)).symm
def fX5_signed (sort : Int32) (a : Int64) (minus : Int32) : Int64 := fX5_cut sort (if minus = 0 then a else a ||| (fX5_signBit sort) : Int64)
set_option maxRecDepth 100000 in
set_option maxHeartbeats 4000000 in
theorem cvX5_signed (l : Launch) (D : mG) (sort : Int32) (a : Int64) (minus : Int32) : cV l D yX5_signed cX5_signed 4 .long 1 (fun _ => True) [.int sort, .long a, .int minus] (.long (fX5_signed  sort a minus)) := by
  refine cV_of (by decide) (Nat.le_of_ble_eq_true rfl) ?_
  intro p e s m below meth c ls hx hb hr hlocks G hgf hpic hl
  have hl : lv_has ls 4 [(0, .int sort), (1, .long a), (3, .int minus)] := hl
  refine lv_iload_n hx hb dX5_signed_0 rfl (lv_at hl 0 rfl) ?_
  refine lv_iload_n hx hb dX5_signed_1 rfl (lv_at hl 2 rfl) ?_
  refine mw_join 15 (.long (if minus = 0 then a else a ||| (fX5_signBit sort) : Int64)) [.int sort] (fun K => ?_) ?_
  · refine lv_if_eq (tgt := 14) hx hb dX5_signed_2 (by decide) (fun c_1 => ?_) (fun c_1 => ?_)
    · refine lv_lload_n hx hb dX5_signed_14 rfl (lv_at hl 1 rfl) ?_
      exact mw_topL ((if_pos c_1).trans (rfl)) K
    · refine lv_lload_n hx hb dX5_signed_5 rfl (lv_at hl 1 rfl) ?_
      refine lv_iload_n hx hb dX5_signed_6 rfl (lv_at hl 0 rfl) ?_
      refine kS G (cvX5_signBit l D sort) okX5_signBit hgf trivial qw4_1 ⟨Nat.le_of_ble_eq_true rfl, Nat.le_of_ble_eq_true rfl⟩ ⟨Nat.zero_le _, Nat.zero_le _⟩ hl.1 (Nat.le_of_ble_eq_true rfl) rfl dX5_signed_7 ?_
      refine lv_lor hx hb dX5_signed_10 ?_
      refine lv_goto (tgt := 15) hx hb dX5_signed_11 (by decide) ?_
      exact mw_topL ((if_neg c_1).trans (rfl)) K
  refine kS G (cvX5_cut l D sort (if minus = 0 then a else a ||| (fX5_signBit sort) : Int64)) okX5_cut hgf trivial qw4_5 ⟨Nat.le_of_ble_eq_true rfl, Nat.le_of_ble_eq_true rfl⟩ ⟨Nat.zero_le _, Nat.zero_le _⟩ hl.1 (Nat.le_of_ble_eq_true rfl) rfl dX5_signed_15 ?_
  exact mw_lret hx hb hr hlocks dX5_signed_18 (rfl).symm
def fX5_takes (st : Int32) : Int32 := if st = 1 then 1 else (if st = 2 then 1 else (if st = 7 then 1 else 0))
set_option maxRecDepth 100000 in
set_option maxHeartbeats 4000000 in
theorem cvX5_takes (l : Launch) (D : mG) (st : Int32) : cV l D yX5_takes cX5_takes 1 .boolean 0 (fun _ => True) [.int st] (.int (fX5_takes  st)) := by
  refine cV_of (by decide) (Nat.le_of_ble_eq_true rfl) ?_
  intro p e s m below meth c ls hx hb hr hlocks G hgf hpic hl
  have hl : lv_has ls 1 [(0, .int st)] := hl
  refine lv_iload_n hx hb dX5_takes_0 rfl (lv_at hl 0 rfl) ?_
  refine lv_iconst (v := 1) hx hb dX5_takes_1 (by decide) ?_
  refine lv_icmp_eq (tgt := 16) hx hb dX5_takes_2 (by decide) (fun c_1 => ?_) (fun c_1 => ?_)
  · refine lv_iconst (v := 1) hx hb dX5_takes_16 (by decide) ?_
    refine lv_goto (tgt := 21) hx hb dX5_takes_17 (by decide) ?_
    exact mw_zret hx hb hr hlocks dX5_takes_21 (Or.inr rfl) ((if_pos c_1).trans (rfl)).symm
  · refine lv_iload_n hx hb dX5_takes_5 rfl (lv_at hl 0 rfl) ?_
    refine lv_iconst (v := 2) hx hb dX5_takes_6 (by decide) ?_
    refine lv_icmp_eq (tgt := 16) hx hb dX5_takes_7 (by decide) (fun c_2 => ?_) (fun c_2 => ?_)
    · refine lv_iconst (v := 1) hx hb dX5_takes_16 (by decide) ?_
      refine lv_goto (tgt := 21) hx hb dX5_takes_17 (by decide) ?_
      exact mw_zret hx hb hr hlocks dX5_takes_21 (Or.inr rfl) ((if_neg c_1).trans ((if_pos c_2).trans (rfl))).symm
    · refine lv_iload_n hx hb dX5_takes_10 rfl (lv_at hl 0 rfl) ?_
      refine lv_bipush (v := 7) hx hb dX5_takes_11 (by decide) ?_
      refine lv_icmp_ne (tgt := 20) hx hb dX5_takes_13 (by decide) (fun c_3 => ?_) (fun c_3 => ?_)
      · refine lv_iconst (v := 0) hx hb dX5_takes_20 (by decide) ?_
        exact mw_zret hx hb hr hlocks dX5_takes_21 (Or.inl rfl) ((if_neg c_1).trans ((if_neg c_2).trans ((if_neg c_3).trans (rfl)))).symm
      · refine lv_iconst (v := 1) hx hb dX5_takes_16 (by decide) ?_
        refine lv_goto (tgt := 21) hx hb dX5_takes_17 (by decide) ?_
        exact mw_zret hx hb hr hlocks dX5_takes_21 (Or.inr rfl) ((if_neg c_1).trans ((if_neg c_2).trans ((if_pos c_3).trans (rfl)))).symm
def fX5_isStep (sort : Int32) (st : Int32) : Int32 := if st < 0 then 0 else (if (if (fX5_isReal sort) = 0 then 3 else 8 : Int32) ≤ st then 0 else 1)
set_option maxRecDepth 100000 in
set_option maxHeartbeats 4000000 in
theorem cvX5_isStep (l : Launch) (D : mG) (sort : Int32) (st : Int32) : cV l D yX5_isStep cX5_isStep 2 .boolean 1 (fun _ => True) [.int sort, .int st] (.int (fX5_isStep  sort st)) := by
  refine cV_of (by decide) (Nat.le_of_ble_eq_true rfl) ?_
  intro p e s m below meth c ls hx hb hr hlocks G hgf hpic hl
  have hl : lv_has ls 2 [(0, .int sort), (1, .int st)] := hl
  refine lv_iload_n hx hb dX5_isStep_0 rfl (lv_at hl 1 rfl) ?_
  refine lv_if_lt (tgt := 25) hx hb dX5_isStep_1 (by decide) (fun c_1 => ?_) (fun c_1 => ?_)
  · refine lv_iconst (v := 0) hx hb dX5_isStep_25 (by decide) ?_
    exact mw_zret hx hb hr hlocks dX5_isStep_26 (Or.inl rfl) ((if_pos c_1).trans (rfl)).symm
  · refine lv_iload_n hx hb dX5_isStep_4 rfl (lv_at hl 1 rfl) ?_
    refine lv_iload_n hx hb dX5_isStep_5 rfl (lv_at hl 0 rfl) ?_
    refine kS G (cvX5_isReal l D sort) okX5_isReal hgf trivial qw4_21 ⟨Nat.le_of_ble_eq_true rfl, Nat.le_of_ble_eq_true rfl⟩ ⟨Nat.zero_le _, Nat.zero_le _⟩ hl.1 (Nat.le_of_ble_eq_true rfl) rfl dX5_isStep_6 ?_
    refine mw_join 18 (.int (if (fX5_isReal sort) = 0 then 3 else 8 : Int32)) [.int st] (fun K => ?_) ?_
    · refine lv_if_eq (tgt := 17) hx hb dX5_isStep_9 (by decide) (fun c_2 => ?_) (fun c_2 => ?_)
      · refine lv_iconst (v := 3) hx hb dX5_isStep_17 (by decide) ?_
        exact mw_topI ((if_pos c_2).trans (rfl)) K
      · refine lv_bipush (v := 8) hx hb dX5_isStep_12 (by decide) ?_
        refine lv_goto (tgt := 18) hx hb dX5_isStep_14 (by decide) ?_
        exact mw_topI ((if_neg c_2).trans (rfl)) K
    refine lv_icmp_ge (tgt := 25) hx hb dX5_isStep_18 (by decide) (fun c_3 => ?_) (fun c_3 => ?_)
    · refine lv_iconst (v := 0) hx hb dX5_isStep_25 (by decide) ?_
      exact mw_zret hx hb hr hlocks dX5_isStep_26 (Or.inl rfl) ((if_neg c_1).trans ((if_pos c_3).trans (rfl))).symm
    · refine lv_iconst (v := 1) hx hb dX5_isStep_21 (by decide) ?_
      refine lv_goto (tgt := 26) hx hb dX5_isStep_22 (by decide) ?_
      exact mw_zret hx hb hr hlocks dX5_isStep_26 (Or.inr rfl) ((if_neg c_1).trans ((if_neg c_3).trans (rfl))).symm
end
section
def fX5_toWhole_s22 (sort : Int32) (v : Int64) (how : Int32) (x_1 : Int32) (x_2 : Int64) (x_3 : Int32) (x_5 : Int32) (x_10 : Int32) (x_12 : Int64) (x_13 : Int64) (x_17 : Int32) (x_22 : Int32) : Int64 := fX5_signed sort (if x_22 = 0 then x_2 - x_13 else (x_2 - x_13) + x_12 : Int64) x_1
def fX5_toWhole_s17 (sort : Int32) (v : Int64) (how : Int32) (x_1 : Int32) (x_2 : Int64) (x_3 : Int32) (x_5 : Int32) (x_10 : Int32) (x_12 : Int64) (x_13 : Int64) (x_17 : Int32) : Int64 := fX5_toWhole_s22 sort v how x_1 x_2 x_3 x_5 x_10 x_12 x_13 x_17 (if how = 5 then (if (x_12 / 2) < x_13 then 1 else (if x_13 = (x_12 / 2) then (if x_17 = 0 then 0 else 1) else 0)) else x_10 : Int32)
def fX5_toWhole_s13 (sort : Int32) (v : Int64) (how : Int32) (x_1 : Int32) (x_2 : Int64) (x_3 : Int32) (x_5 : Int32) (x_10 : Int32) (x_12 : Int64) (x_13 : Int64) : Int64 := if x_13 = 0 then v else fX5_toWhole_s17 sort v how x_1 x_2 x_3 x_5 x_10 x_12 x_13 (if x_5 = 0 then 1 else (if (x_2 &&& x_12) = 0 then 0 else 1) : Int32)
def fX5_toWhole_s12 (sort : Int32) (v : Int64) (how : Int32) (x_1 : Int32) (x_2 : Int64) (x_3 : Int32) (x_5 : Int32) (x_10 : Int32) (x_12 : Int64) : Int64 := fX5_toWhole_s13 sort v how x_1 x_2 x_3 x_5 x_10 x_12 (x_2 &&& (x_12 - 1))
def fX5_toWhole_s27 (sort : Int32) (v : Int64) (how : Int32) (x_1 : Int32) (x_2 : Int64) (x_3 : Int32) (x_5 : Int32) (x_10 : Int32) (x_27 : Int32) : Int64 := fX5_signed sort (if x_27 = 0 then 0 else fX5_one sort : Int64) x_1
def fX5_toWhole_s10 (sort : Int32) (v : Int64) (how : Int32) (x_1 : Int32) (x_2 : Int64) (x_3 : Int32) (x_5 : Int32) (x_10 : Int32) : Int64 := if 0 ≤ x_5 then fX5_toWhole_s12 sort v how x_1 x_2 x_3 x_5 x_10 (jshl 1 (x_3 - x_5)) else fX5_toWhole_s27 sort v how x_1 x_2 x_3 x_5 x_10 (if how = 5 then (if x_5 = (-1) then (if (x_2 &&& ((jshl 1 x_3) - 1)) ≤ 0 then 0 else 1) else 0) else x_10 : Int32)
def fX5_toWhole_s5 (sort : Int32) (v : Int64) (how : Int32) (x_1 : Int32) (x_2 : Int64) (x_3 : Int32) (x_5 : Int32) : Int64 := if x_3 ≤ x_5 then v else (if x_2 = 0 then v else fX5_toWhole_s10 sort v how x_1 x_2 x_3 x_5 (if how = 3 then x_1 else (if x_1 = 0 then 1 else 0) : Int32))
def fX5_toWhole_s3 (sort : Int32) (v : Int64) (how : Int32) (x_1 : Int32) (x_2 : Int64) (x_3 : Int32) : Int64 := fX5_toWhole_s5 sort v how x_1 x_2 x_3 (((jshr x_2 x_3).toInt32) - (if sort = 2 then 127 else 1023 : Int32))
def fX5_toWhole_s2 (sort : Int32) (v : Int64) (how : Int32) (x_1 : Int32) (x_2 : Int64) : Int64 := fX5_toWhole_s3 sort v how x_1 x_2 (fX5_places sort)
def fX5_toWhole_s1 (sort : Int32) (v : Int64) (how : Int32) (x_1 : Int32) : Int64 := fX5_toWhole_s2 sort v how x_1 (fX5_amountBits sort v)
def fX5_toWhole (sort : Int32) (v : Int64) (how : Int32) : Int64 := fX5_toWhole_s1 sort v how (fX5_isMinus sort v)
set_option maxRecDepth 100000 in
set_option maxHeartbeats 4000000 in
theorem cvX5_toWhole (l : Launch) (D : mG) (sort : Int32) (v : Int64) (how : Int32) : cV l D yX5_toWhole cX5_toWhole 16 .long 2 (fun _ => True) [.int sort, .long v, .int how] (.long (fX5_toWhole  sort v how)) := by
  refine cV_of (by decide) (Nat.le_of_ble_eq_true rfl) ?_
  intro p e s m below meth c ls hx hb hr hlocks G hgf hpic hl
  have hl : lv_has ls 16 [(0, .int sort), (1, .long v), (3, .int how)] := hl
  refine lv_iload_n hx hb dX5_toWhole_0 rfl (lv_at hl 0 rfl) ?_
  refine lv_lload_n hx hb dX5_toWhole_1 rfl (lv_at hl 1 rfl) ?_
  refine kS G (cvX5_isMinus l D sort v) okX5_isMinus hgf trivial qw4_59 ⟨Nat.le_of_ble_eq_true rfl, Nat.le_of_ble_eq_true rfl⟩ ⟨Nat.zero_le _, Nat.zero_le _⟩ hl.1 (Nat.le_of_ble_eq_true rfl) rfl dX5_toWhole_2 ?_
  refine lv_topi (fun x_1 e_1 => ?_)
  refine lv_istore (lv' := [(4, .int x_1), (0, .int sort), (1, .long v), (3, .int how)]) hx hb dX5_toWhole_5 hl (by decide) rfl (fun ls hl => ?_)
  refine lv_iload_n hx hb dX5_toWhole_7 rfl (lv_at hl 1 rfl) ?_
  refine lv_lload_n hx hb dX5_toWhole_8 rfl (lv_at hl 2 rfl) ?_
  refine kS G (cvX5_amountBits l D sort v) okX5_amountBits hgf trivial qw4_30 ⟨Nat.le_of_ble_eq_true rfl, Nat.le_of_ble_eq_true rfl⟩ ⟨Nat.zero_le _, Nat.zero_le _⟩ hl.1 (Nat.le_of_ble_eq_true rfl) rfl dX5_toWhole_9 ?_
  refine lv_topl (fun x_2 e_2 => ?_)
  refine lv_lstore (lv' := [(5, .long x_2), (4, .int x_1), (0, .int sort), (1, .long v), (3, .int how)]) hx hb dX5_toWhole_12 hl (by decide) rfl (fun ls hl => ?_)
  refine lv_iload_n hx hb dX5_toWhole_14 rfl (lv_at hl 2 rfl) ?_
  refine kS G (cvX5_places l D sort) okX5_places hgf trivial qw4_94 ⟨Nat.le_of_ble_eq_true rfl, Nat.le_of_ble_eq_true rfl⟩ ⟨Nat.zero_le _, Nat.zero_le _⟩ hl.1 (Nat.le_of_ble_eq_true rfl) rfl dX5_toWhole_15 ?_
  refine lv_topi (fun x_3 e_3 => ?_)
  refine lv_istore (lv' := [(7, .int x_3), (5, .long x_2), (4, .int x_1), (0, .int sort), (1, .long v), (3, .int how)]) hx hb dX5_toWhole_18 hl (by decide) rfl (fun ls hl => ?_)
  refine lv_lload hx hb dX5_toWhole_20 (lv_at hl 1 rfl) ?_
  refine lv_iload hx hb dX5_toWhole_22 (lv_at hl 0 rfl) ?_
  refine lv_lshr (v := jshr x_2 x_3) hx hb dX5_toWhole_24 rfl ?_
  refine lv_l2i hx hb dX5_toWhole_25 rfl ?_
  refine lv_iload_n hx hb dX5_toWhole_26 rfl (lv_at hl 3 rfl) ?_
  refine lv_iconst (v := 2) hx hb dX5_toWhole_27 (by decide) ?_
  refine mw_join 39 (.int (if sort = 2 then 127 else 1023 : Int32)) [.int ((jshr x_2 x_3).toInt32)] (fun K => ?_) ?_
  · refine lv_icmp_ne (tgt := 36) hx hb dX5_toWhole_28 (by decide) (fun c_4 => ?_) (fun c_4 => ?_)
    · refine lv_sipush (v := 1023) hx hb dX5_toWhole_36 (by decide) ?_
      exact mw_topI ((if_neg c_4).trans (rfl)) K
    · refine lv_bipush (v := 127) hx hb dX5_toWhole_31 (by decide) ?_
      refine lv_goto (tgt := 39) hx hb dX5_toWhole_33 (by decide) ?_
      exact mw_topI ((if_pos c_4).trans (rfl)) K
  refine lv_isub hx hb dX5_toWhole_39 ?_
  refine lv_topi (fun x_5 e_5 => ?_)
  refine lv_istore (lv' := [(8, .int x_5), (7, .int x_3), (5, .long x_2), (4, .int x_1), (0, .int sort), (1, .long v), (3, .int how)]) hx hb dX5_toWhole_40 hl (by decide) rfl (fun ls hl => ?_)
  refine lv_iload hx hb dX5_toWhole_42 (lv_at hl 0 rfl) ?_
  refine lv_iload hx hb dX5_toWhole_44 (lv_at hl 1 rfl) ?_
  refine lv_icmp_ge (tgt := 56) hx hb dX5_toWhole_46 (by decide) (fun c_6 => ?_) (fun c_6 => ?_)
  · refine lv_lload_n hx hb dX5_toWhole_56 rfl (lv_at hl 5 rfl) ?_
    exact mw_lret hx hb hr hlocks dX5_toWhole_57 ((congrArg (fX5_toWhole_s1 sort v how) e_1.symm).trans ((congrArg (fX5_toWhole_s2 sort v how x_1) e_2.symm).trans ((congrArg (fX5_toWhole_s3 sort v how x_1 x_2) e_3.symm).trans ((congrArg (fX5_toWhole_s5 sort v how x_1 x_2 x_3) e_5.symm).trans ((if_pos c_6).trans (rfl)))))).symm
  · refine lv_lload hx hb dX5_toWhole_49 (lv_at hl 2 rfl) ?_
    refine lv_lconst (v := 0) hx hb dX5_toWhole_51 (by decide) ?_
    refine mw_lne (tgt := 58) hx hb dX5_toWhole_52 dX5_toWhole_53 (by decide) (fun c_7 => ?_) (fun c_7 => ?_)
    · refine lv_iload_n hx hb dX5_toWhole_58 rfl (lv_at hl 6 rfl) ?_
      refine lv_iconst (v := 3) hx hb dX5_toWhole_59 (by decide) ?_
      refine mw_join 78 (.int (if how = 3 then x_1 else (if x_1 = 0 then 1 else 0) : Int32)) [] (fun K => ?_) ?_
      · refine lv_icmp_ne (tgt := 68) hx hb dX5_toWhole_60 (by decide) (fun c_8 => ?_) (fun c_8 => ?_)
        · refine lv_iload hx hb dX5_toWhole_68 (lv_at hl 3 rfl) ?_
          refine lv_if_ne (tgt := 77) hx hb dX5_toWhole_70 (by decide) (fun c_9 => ?_) (fun c_9 => ?_)
          · refine lv_iconst (v := 0) hx hb dX5_toWhole_77 (by decide) ?_
            exact mw_topI ((if_neg c_8).trans ((if_neg c_9).trans (rfl))) K
          · refine lv_iconst (v := 1) hx hb dX5_toWhole_73 (by decide) ?_
            refine lv_goto (tgt := 78) hx hb dX5_toWhole_74 (by decide) ?_
            exact mw_topI ((if_neg c_8).trans ((if_pos c_9).trans (rfl))) K
        · refine lv_iload hx hb dX5_toWhole_63 (lv_at hl 3 rfl) ?_
          refine lv_goto (tgt := 78) hx hb dX5_toWhole_65 (by decide) ?_
          exact mw_topI ((if_pos c_8).trans (rfl)) K
      refine lv_topi (fun x_10 e_10 => ?_)
      refine lv_istore (lv' := [(9, .int x_10), (8, .int x_5), (7, .int x_3), (5, .long x_2), (4, .int x_1), (0, .int sort), (1, .long v), (3, .int how)]) hx hb dX5_toWhole_78 hl (by decide) rfl (fun ls hl => ?_)
      refine lv_iload hx hb dX5_toWhole_80 (lv_at hl 1 rfl) ?_
      refine lv_if_ge (tgt := 142) hx hb dX5_toWhole_82 (by decide) (fun c_11 => ?_) (fun c_11 => ?_)
      · refine lv_lconst (v := 1) hx hb dX5_toWhole_142 (by decide) ?_
        refine lv_iload hx hb dX5_toWhole_143 (lv_at hl 2 rfl) ?_
        refine lv_iload hx hb dX5_toWhole_145 (lv_at hl 1 rfl) ?_
        refine lv_isub hx hb dX5_toWhole_147 ?_
        refine lv_lshl (v := jshl 1 (x_3 - x_5)) hx hb dX5_toWhole_148 rfl ?_
        refine lv_topl (fun x_12 e_12 => ?_)
        refine lv_lstore (lv' := [(10, .long x_12), (9, .int x_10), (8, .int x_5), (7, .int x_3), (5, .long x_2), (4, .int x_1), (0, .int sort), (1, .long v), (3, .int how)]) hx hb dX5_toWhole_149 hl (by decide) rfl (fun ls hl => ?_)
        refine lv_lload hx hb dX5_toWhole_151 (lv_at hl 4 rfl) ?_
        refine lv_lload hx hb dX5_toWhole_153 (lv_at hl 0 rfl) ?_
        refine lv_lconst (v := 1) hx hb dX5_toWhole_155 (by decide) ?_
        refine lv_lsub hx hb dX5_toWhole_156 ?_
        refine lv_land hx hb dX5_toWhole_157 ?_
        refine lv_topl (fun x_13 e_13 => ?_)
        refine lv_lstore (lv' := [(12, .long x_13), (10, .long x_12), (9, .int x_10), (8, .int x_5), (7, .int x_3), (5, .long x_2), (4, .int x_1), (0, .int sort), (1, .long v), (3, .int how)]) hx hb dX5_toWhole_158 hl (by decide) rfl (fun ls hl => ?_)
        refine lv_lload hx hb dX5_toWhole_160 (lv_at hl 0 rfl) ?_
        refine lv_lconst (v := 0) hx hb dX5_toWhole_162 (by decide) ?_
        refine mw_lne (tgt := 169) hx hb dX5_toWhole_163 dX5_toWhole_164 (by decide) (fun c_14 => ?_) (fun c_14 => ?_)
        · refine lv_iload hx hb dX5_toWhole_169 (lv_at hl 3 rfl) ?_
          refine mw_join 189 (.int (if x_5 = 0 then 1 else (if (x_2 &&& x_12) = 0 then 0 else 1) : Int32)) [] (fun K => ?_) ?_
          · refine lv_if_eq (tgt := 184) hx hb dX5_toWhole_171 (by decide) (fun c_15 => ?_) (fun c_15 => ?_)
            · refine lv_iconst (v := 1) hx hb dX5_toWhole_184 (by decide) ?_
              refine lv_goto (tgt := 189) hx hb dX5_toWhole_185 (by decide) ?_
              exact mw_topI ((if_pos c_15).trans (rfl)) K
            · refine lv_lload hx hb dX5_toWhole_174 (lv_at hl 5 rfl) ?_
              refine lv_lload hx hb dX5_toWhole_176 (lv_at hl 1 rfl) ?_
              refine lv_land hx hb dX5_toWhole_178 ?_
              refine lv_lconst (v := 0) hx hb dX5_toWhole_179 (by decide) ?_
              refine mw_leq (tgt := 188) hx hb dX5_toWhole_180 dX5_toWhole_181 (by decide) (fun c_16 => ?_) (fun c_16 => ?_)
              · refine lv_iconst (v := 0) hx hb dX5_toWhole_188 (by decide) ?_
                exact mw_topI ((if_neg c_15).trans ((if_pos c_16).trans (rfl))) K
              · refine lv_iconst (v := 1) hx hb dX5_toWhole_184 (by decide) ?_
                refine lv_goto (tgt := 189) hx hb dX5_toWhole_185 (by decide) ?_
                exact mw_topI ((if_neg c_15).trans ((if_neg c_16).trans (rfl))) K
          refine lv_topi (fun x_17 e_17 => ?_)
          refine lv_istore (lv' := [(14, .int x_17), (12, .long x_13), (10, .long x_12), (9, .int x_10), (8, .int x_5), (7, .int x_3), (5, .long x_2), (4, .int x_1), (0, .int sort), (1, .long v), (3, .int how)]) hx hb dX5_toWhole_189 hl (by decide) rfl (fun ls hl => ?_)
          refine lv_iload_n hx hb dX5_toWhole_191 rfl (lv_at hl 10 rfl) ?_
          refine lv_iconst (v := 5) hx hb dX5_toWhole_192 (by decide) ?_
          refine mw_join 235 (.int (if how = 5 then (if (x_12 / 2) < x_13 then 1 else (if x_13 = (x_12 / 2) then (if x_17 = 0 then 0 else 1) else 0)) else x_10 : Int32)) [] (fun K => ?_) ?_
          · refine lv_icmp_ne (tgt := 233) hx hb dX5_toWhole_193 (by decide) (fun c_18 => ?_) (fun c_18 => ?_)
            · refine lv_iload hx hb dX5_toWhole_233 (lv_at hl 3 rfl) ?_
              exact mw_topI ((if_neg c_18).trans (rfl)) K
            · refine lv_lload hx hb dX5_toWhole_196 (lv_at hl 1 rfl) ?_
              refine lv_lload hx hb dX5_toWhole_198 (lv_at hl 2 rfl) ?_
              refine lv_ldc2 (v := 2) hx hb G.2.2.2.1 (G.2.2.2.2 _ qw4_97) dX5_toWhole_200 ?_
              refine lv_ldiv hx hb dX5_toWhole_203 (by decide) ?_
              refine mw_lgt (tgt := 225) hx hb dX5_toWhole_204 dX5_toWhole_205 (by decide) (fun c_19 => ?_) (fun c_19 => ?_)
              · refine lv_iconst (v := 1) hx hb dX5_toWhole_225 (by decide) ?_
                refine lv_goto (tgt := 235) hx hb dX5_toWhole_226 (by decide) ?_
                exact mw_topI ((if_pos c_18).trans ((if_pos c_19).trans (rfl))) K
              · refine lv_lload hx hb dX5_toWhole_208 (lv_at hl 1 rfl) ?_
                refine lv_lload hx hb dX5_toWhole_210 (lv_at hl 2 rfl) ?_
                refine lv_ldc2 (v := 2) hx hb G.2.2.2.1 (G.2.2.2.2 _ qw4_97) dX5_toWhole_212 ?_
                refine lv_ldiv hx hb dX5_toWhole_215 (by decide) ?_
                refine mw_lne (tgt := 229) hx hb dX5_toWhole_216 dX5_toWhole_217 (by decide) (fun c_20 => ?_) (fun c_20 => ?_)
                · refine lv_iconst (v := 0) hx hb dX5_toWhole_229 (by decide) ?_
                  refine lv_goto (tgt := 235) hx hb dX5_toWhole_230 (by decide) ?_
                  exact mw_topI ((if_pos c_18).trans ((if_neg c_19).trans ((if_neg c_20).trans (rfl)))) K
                · refine lv_iload hx hb dX5_toWhole_220 (lv_at hl 0 rfl) ?_
                  refine lv_if_eq (tgt := 229) hx hb dX5_toWhole_222 (by decide) (fun c_21 => ?_) (fun c_21 => ?_)
                  · refine lv_iconst (v := 0) hx hb dX5_toWhole_229 (by decide) ?_
                    refine lv_goto (tgt := 235) hx hb dX5_toWhole_230 (by decide) ?_
                    exact mw_topI ((if_pos c_18).trans ((if_neg c_19).trans ((if_pos c_20).trans ((if_pos c_21).trans (rfl))))) K
                  · refine lv_iconst (v := 1) hx hb dX5_toWhole_225 (by decide) ?_
                    refine lv_goto (tgt := 235) hx hb dX5_toWhole_226 (by decide) ?_
                    exact mw_topI ((if_pos c_18).trans ((if_neg c_19).trans ((if_pos c_20).trans ((if_neg c_21).trans (rfl))))) K
          refine lv_topi (fun x_22 e_22 => ?_)
          refine lv_istore (lv' := [(15, .int x_22), (14, .int x_17), (12, .long x_13), (10, .long x_12), (9, .int x_10), (8, .int x_5), (7, .int x_3), (5, .long x_2), (4, .int x_1), (0, .int sort), (1, .long v), (3, .int how)]) hx hb dX5_toWhole_235 hl (by decide) rfl (fun ls hl => ?_)
          refine lv_iload_n hx hb dX5_toWhole_237 rfl (lv_at hl 9 rfl) ?_
          refine lv_iload hx hb dX5_toWhole_238 (lv_at hl 0 rfl) ?_
          refine mw_join 259 (.long (if x_22 = 0 then x_2 - x_13 else (x_2 - x_13) + x_12 : Int64)) [.int sort] (fun K => ?_) ?_
          · refine lv_if_eq (tgt := 254) hx hb dX5_toWhole_240 (by decide) (fun c_23 => ?_) (fun c_23 => ?_)
            · refine lv_lload hx hb dX5_toWhole_254 (lv_at hl 7 rfl) ?_
              refine lv_lload hx hb dX5_toWhole_256 (lv_at hl 2 rfl) ?_
              refine lv_lsub hx hb dX5_toWhole_258 ?_
              exact mw_topL ((if_pos c_23).trans (rfl)) K
            · refine lv_lload hx hb dX5_toWhole_243 (lv_at hl 7 rfl) ?_
              refine lv_lload hx hb dX5_toWhole_245 (lv_at hl 2 rfl) ?_
              refine lv_lsub hx hb dX5_toWhole_247 ?_
              refine lv_lload hx hb dX5_toWhole_248 (lv_at hl 3 rfl) ?_
              refine lv_ladd hx hb dX5_toWhole_250 ?_
              refine lv_goto (tgt := 259) hx hb dX5_toWhole_251 (by decide) ?_
              exact mw_topL ((if_neg c_23).trans (rfl)) K
          refine lv_iload hx hb dX5_toWhole_259 (lv_at hl 8 rfl) ?_
          refine kS G (cvX5_signed l D sort (if x_22 = 0 then x_2 - x_13 else (x_2 - x_13) + x_12 : Int64) x_1) okX5_signed hgf trivial qw3_238 ⟨Nat.le_of_ble_eq_true rfl, Nat.le_of_ble_eq_true rfl⟩ ⟨Nat.zero_le _, Nat.zero_le _⟩ hl.1 (Nat.le_of_ble_eq_true rfl) rfl dX5_toWhole_261 ?_
          exact mw_lret hx hb hr hlocks dX5_toWhole_264 ((congrArg (fX5_toWhole_s1 sort v how) e_1.symm).trans ((congrArg (fX5_toWhole_s2 sort v how x_1) e_2.symm).trans ((congrArg (fX5_toWhole_s3 sort v how x_1 x_2) e_3.symm).trans ((congrArg (fX5_toWhole_s5 sort v how x_1 x_2 x_3) e_5.symm).trans ((if_neg c_6).trans ((if_neg c_7).trans ((congrArg (fX5_toWhole_s10 sort v how x_1 x_2 x_3 x_5) e_10.symm).trans ((if_pos c_11).trans ((congrArg (fX5_toWhole_s12 sort v how x_1 x_2 x_3 x_5 x_10) e_12.symm).trans ((congrArg (fX5_toWhole_s13 sort v how x_1 x_2 x_3 x_5 x_10 x_12) e_13.symm).trans ((if_neg c_14).trans ((congrArg (fX5_toWhole_s17 sort v how x_1 x_2 x_3 x_5 x_10 x_12 x_13) e_17.symm).trans ((congrArg (fX5_toWhole_s22 sort v how x_1 x_2 x_3 x_5 x_10 x_12 x_13 x_17) e_22.symm).trans (rfl)))))))))))))).symm
        · refine lv_lload_n hx hb dX5_toWhole_167 rfl (lv_at hl 8 rfl) ?_
          exact mw_lret hx hb hr hlocks dX5_toWhole_168 ((congrArg (fX5_toWhole_s1 sort v how) e_1.symm).trans ((congrArg (fX5_toWhole_s2 sort v how x_1) e_2.symm).trans ((congrArg (fX5_toWhole_s3 sort v how x_1 x_2) e_3.symm).trans ((congrArg (fX5_toWhole_s5 sort v how x_1 x_2 x_3) e_5.symm).trans ((if_neg c_6).trans ((if_neg c_7).trans ((congrArg (fX5_toWhole_s10 sort v how x_1 x_2 x_3 x_5) e_10.symm).trans ((if_pos c_11).trans ((congrArg (fX5_toWhole_s12 sort v how x_1 x_2 x_3 x_5 x_10) e_12.symm).trans ((congrArg (fX5_toWhole_s13 sort v how x_1 x_2 x_3 x_5 x_10 x_12) e_13.symm).trans ((if_pos c_14).trans (rfl)))))))))))).symm
      · refine lv_iload_n hx hb dX5_toWhole_85 rfl (lv_at hl 7 rfl) ?_
        refine lv_iconst (v := 5) hx hb dX5_toWhole_86 (by decide) ?_
        refine mw_join 120 (.int (if how = 5 then (if x_5 = (-1) then (if (x_2 &&& ((jshl 1 x_3) - 1)) ≤ 0 then 0 else 1) else 0) else x_10 : Int32)) [] (fun K => ?_) ?_
        · refine lv_icmp_ne (tgt := 118) hx hb dX5_toWhole_87 (by decide) (fun c_24 => ?_) (fun c_24 => ?_)
          · refine lv_iload hx hb dX5_toWhole_118 (lv_at hl 0 rfl) ?_
            exact mw_topI ((if_neg c_24).trans (rfl)) K
          · refine lv_iload hx hb dX5_toWhole_90 (lv_at hl 1 rfl) ?_
            refine lv_iconst (v := (-1)) hx hb dX5_toWhole_92 (by decide) ?_
            refine lv_icmp_ne (tgt := 114) hx hb dX5_toWhole_93 (by decide) (fun c_25 => ?_) (fun c_25 => ?_)
            · refine lv_iconst (v := 0) hx hb dX5_toWhole_114 (by decide) ?_
              refine lv_goto (tgt := 120) hx hb dX5_toWhole_115 (by decide) ?_
              exact mw_topI ((if_pos c_24).trans ((if_neg c_25).trans (rfl))) K
            · refine lv_lload hx hb dX5_toWhole_96 (lv_at hl 3 rfl) ?_
              refine lv_lconst (v := 1) hx hb dX5_toWhole_98 (by decide) ?_
              refine lv_iload hx hb dX5_toWhole_99 (lv_at hl 2 rfl) ?_
              refine lv_lshl (v := jshl 1 x_3) hx hb dX5_toWhole_101 rfl ?_
              refine lv_lconst (v := 1) hx hb dX5_toWhole_102 (by decide) ?_
              refine lv_lsub hx hb dX5_toWhole_103 ?_
              refine lv_land hx hb dX5_toWhole_104 ?_
              refine lv_lconst (v := 0) hx hb dX5_toWhole_105 (by decide) ?_
              refine mw_lle (tgt := 114) hx hb dX5_toWhole_106 dX5_toWhole_107 (by decide) (fun c_26 => ?_) (fun c_26 => ?_)
              · refine lv_iconst (v := 0) hx hb dX5_toWhole_114 (by decide) ?_
                refine lv_goto (tgt := 120) hx hb dX5_toWhole_115 (by decide) ?_
                exact mw_topI ((if_pos c_24).trans ((if_pos c_25).trans ((if_pos c_26).trans (rfl)))) K
              · refine lv_iconst (v := 1) hx hb dX5_toWhole_110 (by decide) ?_
                refine lv_goto (tgt := 120) hx hb dX5_toWhole_111 (by decide) ?_
                exact mw_topI ((if_pos c_24).trans ((if_pos c_25).trans ((if_neg c_26).trans (rfl)))) K
        refine lv_topi (fun x_27 e_27 => ?_)
        refine lv_istore (lv' := [(10, .int x_27), (9, .int x_10), (8, .int x_5), (7, .int x_3), (5, .long x_2), (4, .int x_1), (0, .int sort), (1, .long v), (3, .int how)]) hx hb dX5_toWhole_120 hl (by decide) rfl (fun ls hl => ?_)
        refine lv_iload_n hx hb dX5_toWhole_122 rfl (lv_at hl 6 rfl) ?_
        refine lv_iload hx hb dX5_toWhole_123 (lv_at hl 0 rfl) ?_
        refine mw_join 136 (.long (if x_27 = 0 then 0 else fX5_one sort : Int64)) [.int sort] (fun K => ?_) ?_
        · refine lv_if_eq (tgt := 135) hx hb dX5_toWhole_125 (by decide) (fun c_28 => ?_) (fun c_28 => ?_)
          · refine lv_lconst (v := 0) hx hb dX5_toWhole_135 (by decide) ?_
            exact mw_topL ((if_pos c_28).trans (rfl)) K
          · refine lv_iload_n hx hb dX5_toWhole_128 rfl (lv_at hl 6 rfl) ?_
            refine kS G (cvX5_one l D sort) okX5_one hgf trivial qw4_86 ⟨Nat.le_of_ble_eq_true rfl, Nat.le_of_ble_eq_true rfl⟩ ⟨Nat.zero_le _, Nat.zero_le _⟩ hl.1 (Nat.le_of_ble_eq_true rfl) rfl dX5_toWhole_129 ?_
            refine lv_goto (tgt := 136) hx hb dX5_toWhole_132 (by decide) ?_
            exact mw_topL ((if_neg c_28).trans (rfl)) K
        refine lv_iload hx hb dX5_toWhole_136 (lv_at hl 5 rfl) ?_
        refine kS G (cvX5_signed l D sort (if x_27 = 0 then 0 else fX5_one sort : Int64) x_1) okX5_signed hgf trivial qw3_238 ⟨Nat.le_of_ble_eq_true rfl, Nat.le_of_ble_eq_true rfl⟩ ⟨Nat.zero_le _, Nat.zero_le _⟩ hl.1 (Nat.le_of_ble_eq_true rfl) rfl dX5_toWhole_138 ?_
        exact mw_lret hx hb hr hlocks dX5_toWhole_141 ((congrArg (fX5_toWhole_s1 sort v how) e_1.symm).trans ((congrArg (fX5_toWhole_s2 sort v how x_1) e_2.symm).trans ((congrArg (fX5_toWhole_s3 sort v how x_1 x_2) e_3.symm).trans ((congrArg (fX5_toWhole_s5 sort v how x_1 x_2 x_3) e_5.symm).trans ((if_neg c_6).trans ((if_neg c_7).trans ((congrArg (fX5_toWhole_s10 sort v how x_1 x_2 x_3 x_5) e_10.symm).trans ((if_neg c_11).trans ((congrArg (fX5_toWhole_s27 sort v how x_1 x_2 x_3 x_5 x_10) e_27.symm).trans (rfl)))))))))).symm
    · refine lv_lload_n hx hb dX5_toWhole_56 rfl (lv_at hl 5 rfl) ?_
      exact mw_lret hx hb hr hlocks dX5_toWhole_57 ((congrArg (fX5_toWhole_s1 sort v how) e_1.symm).trans ((congrArg (fX5_toWhole_s2 sort v how x_1) e_2.symm).trans ((congrArg (fX5_toWhole_s3 sort v how x_1 x_2) e_3.symm).trans ((congrArg (fX5_toWhole_s5 sort v how x_1 x_2 x_3) e_5.symm).trans ((if_neg c_6).trans ((if_pos c_7).trans (rfl))))))).symm
def fX5_changed (sort : Int32) (st : Int32) (v : Int64) (k : Int64) : Int64 := if st = 0 then fX5_amount sort v else (if st = 1 then fX5_greater sort v k else (if st = 2 then fX5_lesser sort v k else (if st = 3 then fX5_toWhole sort v st else (if st = 4 then fX5_toWhole sort v st else (if st = 5 then fX5_toWhole sort v st else (if st = 6 then (if (fX5_amountBits sort v) = 0 then v else fX5_signed sort (fX5_one sort) (fX5_isMinus sort v)) else (if st = 7 then fX5_signed sort (fX5_amountBits sort v) (fX5_isMinus sort k) else fX5_toWhole sort v st)))))))
set_option maxRecDepth 100000 in
set_option maxHeartbeats 4000000 in
theorem cvX5_changed (l : Launch) (D : mG) (sort : Int32) (st : Int32) (v : Int64) (k : Int64) : cV l D yX5_changed cX5_changed 6 .long 4 (fun _ => True) [.int sort, .int st, .long v, .long k] (.long (fX5_changed  sort st v k)) := by
  refine cV_of (by decide) (Nat.le_of_ble_eq_true rfl) ?_
  intro p e s m below meth c ls hx hb hr hlocks G hgf hpic hl
  have hl : lv_has ls 6 [(0, .int sort), (1, .int st), (2, .long v), (4, .long k)] := hl
  refine lv_iload_n hx hb dX5_changed_0 rfl (lv_at hl 1 rfl) ?_
  by_cases c_1 : st = 0
  · refine lv_tableIn (off := 47) (tgt := 48) hx hb dX5_changed_1 (by rw [c_1]; decide) (by rw [c_1]; decide) (by rw [c_1]; rfl) (by decide) ?_
    refine lv_iload_n hx hb dX5_changed_48 rfl (lv_at hl 0 rfl) ?_
    refine lv_lload_n hx hb dX5_changed_49 rfl (lv_at hl 2 rfl) ?_
    refine kS G (cvX5_amount l D sort v) okX5_amount hgf trivial qw4_77 ⟨Nat.le_of_ble_eq_true rfl, Nat.le_of_ble_eq_true rfl⟩ ⟨Nat.zero_le _, Nat.zero_le _⟩ hl.1 (Nat.le_of_ble_eq_true rfl) rfl dX5_changed_50 ?_
    exact mw_lret hx hb hr hlocks dX5_changed_53 ((if_pos c_1).trans (rfl)).symm
  · by_cases c_2 : st = 1
    · refine lv_tableIn (off := 53) (tgt := 54) hx hb dX5_changed_1 (by rw [c_2]; decide) (by rw [c_2]; decide) (by rw [c_2]; rfl) (by decide) ?_
      refine lv_iload_n hx hb dX5_changed_54 rfl (lv_at hl 0 rfl) ?_
      refine lv_lload_n hx hb dX5_changed_55 rfl (lv_at hl 2 rfl) ?_
      refine lv_lload hx hb dX5_changed_56 (lv_at hl 3 rfl) ?_
      refine kS G (cvX5_greater l D sort v k) okX5_greater hgf trivial qw4_80 ⟨Nat.le_of_ble_eq_true rfl, Nat.le_of_ble_eq_true rfl⟩ ⟨Nat.zero_le _, Nat.zero_le _⟩ hl.1 (Nat.le_of_ble_eq_true rfl) rfl dX5_changed_58 ?_
      exact mw_lret hx hb hr hlocks dX5_changed_61 ((if_neg c_1).trans ((if_pos c_2).trans (rfl))).symm
    · by_cases c_3 : st = 2
      · refine lv_tableIn (off := 61) (tgt := 62) hx hb dX5_changed_1 (by rw [c_3]; decide) (by rw [c_3]; decide) (by rw [c_3]; rfl) (by decide) ?_
        refine lv_iload_n hx hb dX5_changed_62 rfl (lv_at hl 0 rfl) ?_
        refine lv_lload_n hx hb dX5_changed_63 rfl (lv_at hl 2 rfl) ?_
        refine lv_lload hx hb dX5_changed_64 (lv_at hl 3 rfl) ?_
        refine kS G (cvX5_lesser l D sort v k) okX5_lesser hgf trivial qw4_83 ⟨Nat.le_of_ble_eq_true rfl, Nat.le_of_ble_eq_true rfl⟩ ⟨Nat.zero_le _, Nat.zero_le _⟩ hl.1 (Nat.le_of_ble_eq_true rfl) rfl dX5_changed_66 ?_
        exact mw_lret hx hb hr hlocks dX5_changed_69 ((if_neg c_1).trans ((if_neg c_2).trans ((if_pos c_3).trans (rfl)))).symm
      · by_cases c_4 : st = 3
        · refine lv_tableIn (off := 113) (tgt := 114) hx hb dX5_changed_1 (by rw [c_4]; decide) (by rw [c_4]; decide) (by rw [c_4]; rfl) (by decide) ?_
          refine lv_iload_n hx hb dX5_changed_114 rfl (lv_at hl 0 rfl) ?_
          refine lv_lload_n hx hb dX5_changed_115 rfl (lv_at hl 2 rfl) ?_
          refine lv_iload_n hx hb dX5_changed_116 rfl (lv_at hl 1 rfl) ?_
          refine kS G (cvX5_toWhole l D sort v st) okX5_toWhole hgf trivial qw4_91 ⟨Nat.le_of_ble_eq_true rfl, Nat.le_of_ble_eq_true rfl⟩ ⟨Nat.zero_le _, Nat.zero_le _⟩ hl.1 (Nat.le_of_ble_eq_true rfl) rfl dX5_changed_117 ?_
          exact mw_lret hx hb hr hlocks dX5_changed_120 ((if_neg c_1).trans ((if_neg c_2).trans ((if_neg c_3).trans ((if_pos c_4).trans (rfl))))).symm
        · by_cases c_5 : st = 4
          · refine lv_tableIn (off := 113) (tgt := 114) hx hb dX5_changed_1 (by rw [c_5]; decide) (by rw [c_5]; decide) (by rw [c_5]; rfl) (by decide) ?_
            refine lv_iload_n hx hb dX5_changed_114 rfl (lv_at hl 0 rfl) ?_
            refine lv_lload_n hx hb dX5_changed_115 rfl (lv_at hl 2 rfl) ?_
            refine lv_iload_n hx hb dX5_changed_116 rfl (lv_at hl 1 rfl) ?_
            refine kS G (cvX5_toWhole l D sort v st) okX5_toWhole hgf trivial qw4_91 ⟨Nat.le_of_ble_eq_true rfl, Nat.le_of_ble_eq_true rfl⟩ ⟨Nat.zero_le _, Nat.zero_le _⟩ hl.1 (Nat.le_of_ble_eq_true rfl) rfl dX5_changed_117 ?_
            exact mw_lret hx hb hr hlocks dX5_changed_120 ((if_neg c_1).trans ((if_neg c_2).trans ((if_neg c_3).trans ((if_neg c_4).trans ((if_pos c_5).trans (rfl)))))).symm
          · by_cases c_6 : st = 5
            · refine lv_tableIn (off := 113) (tgt := 114) hx hb dX5_changed_1 (by rw [c_6]; decide) (by rw [c_6]; decide) (by rw [c_6]; rfl) (by decide) ?_
              refine lv_iload_n hx hb dX5_changed_114 rfl (lv_at hl 0 rfl) ?_
              refine lv_lload_n hx hb dX5_changed_115 rfl (lv_at hl 2 rfl) ?_
              refine lv_iload_n hx hb dX5_changed_116 rfl (lv_at hl 1 rfl) ?_
              refine kS G (cvX5_toWhole l D sort v st) okX5_toWhole hgf trivial qw4_91 ⟨Nat.le_of_ble_eq_true rfl, Nat.le_of_ble_eq_true rfl⟩ ⟨Nat.zero_le _, Nat.zero_le _⟩ hl.1 (Nat.le_of_ble_eq_true rfl) rfl dX5_changed_117 ?_
              exact mw_lret hx hb hr hlocks dX5_changed_120 ((if_neg c_1).trans ((if_neg c_2).trans ((if_neg c_3).trans ((if_neg c_4).trans ((if_neg c_5).trans ((if_pos c_6).trans (rfl))))))).symm
            · by_cases c_7 : st = 6
              · refine lv_tableIn (off := 69) (tgt := 70) hx hb dX5_changed_1 (by rw [c_7]; decide) (by rw [c_7]; decide) (by rw [c_7]; rfl) (by decide) ?_
                refine lv_iload_n hx hb dX5_changed_70 rfl (lv_at hl 0 rfl) ?_
                refine lv_lload_n hx hb dX5_changed_71 rfl (lv_at hl 2 rfl) ?_
                refine kS G (cvX5_amountBits l D sort v) okX5_amountBits hgf trivial qw4_30 ⟨Nat.le_of_ble_eq_true rfl, Nat.le_of_ble_eq_true rfl⟩ ⟨Nat.zero_le _, Nat.zero_le _⟩ hl.1 (Nat.le_of_ble_eq_true rfl) rfl dX5_changed_72 ?_
                refine lv_lconst (v := 0) hx hb dX5_changed_75 (by decide) ?_
                refine mw_lne (tgt := 84) hx hb dX5_changed_76 dX5_changed_77 (by decide) (fun c_8 => ?_) (fun c_8 => ?_)
                · refine lv_iload_n hx hb dX5_changed_84 rfl (lv_at hl 0 rfl) ?_
                  refine lv_iload_n hx hb dX5_changed_85 rfl (lv_at hl 0 rfl) ?_
                  refine kS G (cvX5_one l D sort) okX5_one hgf trivial qw4_86 ⟨Nat.le_of_ble_eq_true rfl, Nat.le_of_ble_eq_true rfl⟩ ⟨Nat.zero_le _, Nat.zero_le _⟩ hl.1 (Nat.le_of_ble_eq_true rfl) rfl dX5_changed_86 ?_
                  refine lv_iload_n hx hb dX5_changed_89 rfl (lv_at hl 0 rfl) ?_
                  refine lv_lload_n hx hb dX5_changed_90 rfl (lv_at hl 2 rfl) ?_
                  refine kS G (cvX5_isMinus l D sort v) okX5_isMinus hgf trivial qw4_59 ⟨Nat.le_of_ble_eq_true rfl, Nat.le_of_ble_eq_true rfl⟩ ⟨Nat.zero_le _, Nat.zero_le _⟩ hl.1 (Nat.le_of_ble_eq_true rfl) rfl dX5_changed_91 ?_
                  refine kS G (cvX5_signed l D sort (fX5_one sort) (fX5_isMinus sort v)) okX5_signed hgf trivial qw3_238 ⟨Nat.le_of_ble_eq_true rfl, Nat.le_of_ble_eq_true rfl⟩ ⟨Nat.zero_le _, Nat.zero_le _⟩ hl.1 (Nat.le_of_ble_eq_true rfl) rfl dX5_changed_94 ?_
                  exact mw_lret hx hb hr hlocks dX5_changed_97 ((if_neg c_1).trans ((if_neg c_2).trans ((if_neg c_3).trans ((if_neg c_4).trans ((if_neg c_5).trans ((if_neg c_6).trans ((if_pos c_7).trans ((if_neg c_8).trans (rfl))))))))).symm
                · refine lv_lload_n hx hb dX5_changed_80 rfl (lv_at hl 2 rfl) ?_
                  refine lv_goto (tgt := 97) hx hb dX5_changed_81 (by decide) ?_
                  exact mw_lret hx hb hr hlocks dX5_changed_97 ((if_neg c_1).trans ((if_neg c_2).trans ((if_neg c_3).trans ((if_neg c_4).trans ((if_neg c_5).trans ((if_neg c_6).trans ((if_pos c_7).trans ((if_pos c_8).trans (rfl))))))))).symm
              · by_cases c_9 : st = 7
                · refine lv_tableIn (off := 97) (tgt := 98) hx hb dX5_changed_1 (by rw [c_9]; decide) (by rw [c_9]; decide) (by rw [c_9]; rfl) (by decide) ?_
                  refine lv_iload_n hx hb dX5_changed_98 rfl (lv_at hl 0 rfl) ?_
                  refine lv_iload_n hx hb dX5_changed_99 rfl (lv_at hl 0 rfl) ?_
                  refine lv_lload_n hx hb dX5_changed_100 rfl (lv_at hl 2 rfl) ?_
                  refine kS G (cvX5_amountBits l D sort v) okX5_amountBits hgf trivial qw4_30 ⟨Nat.le_of_ble_eq_true rfl, Nat.le_of_ble_eq_true rfl⟩ ⟨Nat.zero_le _, Nat.zero_le _⟩ hl.1 (Nat.le_of_ble_eq_true rfl) rfl dX5_changed_101 ?_
                  refine lv_iload_n hx hb dX5_changed_104 rfl (lv_at hl 0 rfl) ?_
                  refine lv_lload hx hb dX5_changed_105 (lv_at hl 3 rfl) ?_
                  refine kS G (cvX5_isMinus l D sort k) okX5_isMinus hgf trivial qw4_59 ⟨Nat.le_of_ble_eq_true rfl, Nat.le_of_ble_eq_true rfl⟩ ⟨Nat.zero_le _, Nat.zero_le _⟩ hl.1 (Nat.le_of_ble_eq_true rfl) rfl dX5_changed_107 ?_
                  refine kS G (cvX5_signed l D sort (fX5_amountBits sort v) (fX5_isMinus sort k)) okX5_signed hgf trivial qw3_238 ⟨Nat.le_of_ble_eq_true rfl, Nat.le_of_ble_eq_true rfl⟩ ⟨Nat.zero_le _, Nat.zero_le _⟩ hl.1 (Nat.le_of_ble_eq_true rfl) rfl dX5_changed_110 ?_
                  exact mw_lret hx hb hr hlocks dX5_changed_113 ((if_neg c_1).trans ((if_neg c_2).trans ((if_neg c_3).trans ((if_neg c_4).trans ((if_neg c_5).trans ((if_neg c_6).trans ((if_neg c_7).trans ((if_pos c_9).trans (rfl))))))))).symm
                · refine lv_tableOut (tgt := 114) hx hb dX5_changed_1 (by have qc_1 : st.toInt ≠ 0 := mw_ne c_1; have qc_2 : st.toInt ≠ 1 := mw_ne c_2; have qc_3 : st.toInt ≠ 2 := mw_ne c_3; have qc_4 : st.toInt ≠ 3 := mw_ne c_4; have qc_5 : st.toInt ≠ 4 := mw_ne c_5; have qc_6 : st.toInt ≠ 5 := mw_ne c_6; have qc_7 : st.toInt ≠ 6 := mw_ne c_7; have qc_9 : st.toInt ≠ 7 := mw_ne c_9; omega) (by decide) ?_
                  refine lv_iload_n hx hb dX5_changed_114 rfl (lv_at hl 0 rfl) ?_
                  refine lv_lload_n hx hb dX5_changed_115 rfl (lv_at hl 2 rfl) ?_
                  refine lv_iload_n hx hb dX5_changed_116 rfl (lv_at hl 1 rfl) ?_
                  refine kS G (cvX5_toWhole l D sort v st) okX5_toWhole hgf trivial qw4_91 ⟨Nat.le_of_ble_eq_true rfl, Nat.le_of_ble_eq_true rfl⟩ ⟨Nat.zero_le _, Nat.zero_le _⟩ hl.1 (Nat.le_of_ble_eq_true rfl) rfl dX5_changed_117 ?_
                  exact mw_lret hx hb hr hlocks dX5_changed_120 ((if_neg c_1).trans ((if_neg c_2).trans ((if_neg c_3).trans ((if_neg c_4).trans ((if_neg c_5).trans ((if_neg c_6).trans ((if_neg c_7).trans ((if_neg c_9).trans (rfl))))))))).symm
end
section
/-! THE CLASS: numbers. z: 64 bits (true) or 32; what the fields of a Floating, a Wrapping of that width hold -/
def flo (z : Bool) : Int64 := if z = true then (-4503599627370496) else (-8388608)
def finf (z : Bool) : Int64 := if z = true then 9218868437227405312 else 2139095040
def fwd (z : Bool) : Int32 := if z = true then 64 else 32
def ffb (z : Bool) : Int32 := if z = true then 52 else 23
def fsm (z : Bool) : Int64 := if z = true then (-9223372036854775808) else (-2147483648)
def fbi (z : Bool) : Int32 := if z = true then 1023 else 127
def fon (z : Bool) : Int64 := if z = true then 4607182418800017408 else 1065353216
def fhf (z : Bool) : Int64 := if z = true then 4602678819172646912 else 1056964608
def fhi (z : Bool) : Int64 := if z = true then 4503599627370496 else 8388608
def wlo (z : Bool) : Int64 := if z = true then (-9223372036854775808) else (-2147483648)
def whi (z : Bool) : Int64 := if z = true then 9223372036854775807 else 2147483647
abbrev flF (z : Bool) : List Value := [.long (flo z), .long (finf z), .int (fwd z), .int (7), .int (ffb z), .long (fsm z), .long (finf z), .int (fbi z), .long (fon z), .long (fhf z), .long (fhi z)]
abbrev wrF (z : Bool) : List Value := [.long (wlo z), .long (whi z), .int (fwd z), .int (2)]
def fX0_infinityOf (width : Int32) (fb : Int32) : Int64 := ((jshl (-1) (width - 1)) ^^^ (-1)) &&& (jshl (-1) fb)
set_option maxRecDepth 100000 in
set_option maxHeartbeats 4000000 in
theorem cvX0_infinityOf (l : Launch) (D : mG) (width : Int32) (fb : Int32) : cV l D yX0_infinityOf cX0_infinityOf 2 .long 0 (fun _ => True) [.int width, .int fb] (.long (fX0_infinityOf  width fb)) := by
  refine cV_of (by decide) (Nat.le_of_ble_eq_true rfl) ?_
  intro p e s m below meth c ls hx hb hr hlocks G hgf hpic hl
  have hl : lv_has ls 2 [(0, .int width), (1, .int fb)] := hl
  refine lv_ldc2 (v := (-1)) hx hb G.2.2.2.1 (G.2.2.2.2 _ qw1_181) dX0_infinityOf_0 ?_
  refine lv_iload_n hx hb dX0_infinityOf_3 rfl (lv_at hl 0 rfl) ?_
  refine lv_iconst (v := 1) hx hb dX0_infinityOf_4 (by decide) ?_
  refine lv_isub hx hb dX0_infinityOf_5 ?_
  refine lv_lshl (v := jshl (-1) (width - 1)) hx hb dX0_infinityOf_6 rfl ?_
  refine lv_ldc2 (v := (-1)) hx hb G.2.2.2.1 (G.2.2.2.2 _ qw1_181) dX0_infinityOf_7 ?_
  refine lv_lxor hx hb dX0_infinityOf_10 ?_
  refine lv_ldc2 (v := (-1)) hx hb G.2.2.2.1 (G.2.2.2.2 _ qw1_181) dX0_infinityOf_11 ?_
  refine lv_iload_n hx hb dX0_infinityOf_14 rfl (lv_at hl 1 rfl) ?_
  refine lv_lshl (v := jshl (-1) fb) hx hb dX0_infinityOf_15 rfl ?_
  refine lv_land hx hb dX0_infinityOf_16 ?_
  exact mw_lret hx hb hr hlocks dX0_infinityOf_17 (rfl).symm
def fX0_shiftedRight_s2 (sg : Int64) (places : Int32) (x_1 : Int32) (x_2 : Int64) : Int64 := if (jshl x_2 x_1) = sg then x_2 else x_2 ||| 1
def fX0_shiftedRight_s1 (sg : Int64) (places : Int32) (x_1 : Int32) : Int64 := fX0_shiftedRight_s2 sg places x_1 (jushr sg x_1)
def fX0_shiftedRight (sg : Int64) (places : Int32) : Int64 := fX0_shiftedRight_s1 sg places (if 63 < places then 63 else places)
set_option maxRecDepth 100000 in
set_option maxHeartbeats 4000000 in
theorem cvX0_shiftedRight (l : Launch) (D : mG) (sg : Int64) (places : Int32) : cV l D yX0_shiftedRight cX0_shiftedRight 6 .long 1 (fun _ => True) [.long sg, .int places] (.long (fX0_shiftedRight  sg places)) := by
  refine cV_of (by decide) (Nat.le_of_ble_eq_true rfl) ?_
  intro p e s m below meth c ls hx hb hr hlocks G hgf hpic hl
  have hl : lv_has ls 6 [(0, .long sg), (2, .int places)] := hl
  refine lv_iload_n hx hb dX0_shiftedRight_0 rfl (lv_at hl 1 rfl) ?_
  refine lv_bipush (v := 63) hx hb dX0_shiftedRight_1 (by decide) ?_
  refine va_mmin hx hb (by rw [G.2.2.1]; exact hl.1.symm) G.2.2.2.1 (G.2.2.2.2 _ qw3_14) (G.2.2.2.2 _ qw3_15) (G.2.2.2.2 _ qw1_14) (G.2.2.2.2 _ qw3_16) (Nat.le_of_ble_eq_true rfl) (Nat.le_of_ble_eq_true rfl) (Nat.zero_le _) (Nat.zero_le _) dX0_shiftedRight_3 ?_
  refine lv_topi (fun x_1 e_1 => ?_)
  refine lv_istore_n (lv' := [(3, .int x_1), (0, .long sg), (2, .int places)]) hx hb dX0_shiftedRight_6 rfl hl (by decide) rfl (fun ls hl => ?_)
  refine lv_lload_n hx hb dX0_shiftedRight_7 rfl (lv_at hl 1 rfl) ?_
  refine lv_iload_n hx hb dX0_shiftedRight_8 rfl (lv_at hl 0 rfl) ?_
  refine lv_lushr (v := jushr sg x_1) hx hb dX0_shiftedRight_9 rfl ?_
  refine lv_topl (fun x_2 e_2 => ?_)
  refine lv_lstore (lv' := [(4, .long x_2), (3, .int x_1), (0, .long sg), (2, .int places)]) hx hb dX0_shiftedRight_10 hl (by decide) rfl (fun ls hl => ?_)
  refine lv_lload hx hb dX0_shiftedRight_12 (lv_at hl 0 rfl) ?_
  refine lv_iload_n hx hb dX0_shiftedRight_14 rfl (lv_at hl 1 rfl) ?_
  refine lv_lshl (v := jshl x_2 x_1) hx hb dX0_shiftedRight_15 rfl ?_
  refine lv_lload_n hx hb dX0_shiftedRight_16 rfl (lv_at hl 2 rfl) ?_
  refine mw_lne (tgt := 26) hx hb dX0_shiftedRight_17 dX0_shiftedRight_18 (by decide) (fun c_3 => ?_) (fun c_3 => ?_)
  · refine lv_lload hx hb dX0_shiftedRight_26 (lv_at hl 0 rfl) ?_
    refine lv_lconst (v := 1) hx hb dX0_shiftedRight_28 (by decide) ?_
    refine lv_lor hx hb dX0_shiftedRight_29 ?_
    exact mw_lret hx hb hr hlocks dX0_shiftedRight_30 ((congrArg (fX0_shiftedRight_s1 sg places) e_1.symm).trans ((congrArg (fX0_shiftedRight_s2 sg places x_1) e_2.symm).trans ((if_neg c_3).trans (rfl)))).symm
  · refine lv_lload hx hb dX0_shiftedRight_21 (lv_at hl 0 rfl) ?_
    refine lv_goto (tgt := 30) hx hb dX0_shiftedRight_23 (by decide) ?_
    exact mw_lret hx hb hr hlocks dX0_shiftedRight_30 ((congrArg (fX0_shiftedRight_s1 sg places) e_1.symm).trans ((congrArg (fX0_shiftedRight_s2 sg places x_1) e_2.symm).trans ((if_pos c_3).trans (rfl)))).symm
def fX0_amount (z : Bool) (v : Int64) : Int64 := v &&& ((fsm z) ^^^ (-1))
set_option maxRecDepth 100000 in
set_option maxHeartbeats 4000000 in
theorem cvX0_amount (l : Launch) (D : mG) (o : Nat) (z : Bool) (v : Int64) : cV l D yX0_amount cX0_amount 3 .long 0 (fun H => va_at D.1 vwCl (o, .inr (0, flF z)) H) [.ref o, .long v] (.long (fX0_amount z v)) := by
  refine cV_of (by decide) (Nat.le_of_ble_eq_true rfl) ?_
  intro p e s m below meth c ls hx hb hr hlocks G hgf hpic hl
  have hl : lv_has ls 3 [(0, .ref o), (1, .long v)] := hl
  have hpic : va_at D.1 vwCl (o, .inr (0, flF z)) s.heap := hpic
  refine lv_lload_n hx hb dX0_amount_0 rfl (lv_at hl 1 rfl) ?_
  refine lv_aload_n hx hb dX0_amount_1 rfl (lv_at hl 0 rfl) ?_
  refine mw_get G hgf hpic rfl inX0 5 (by decide) qw1_187 rfl dX0_amount_2 ?_
  refine lv_ldc2 (v := (-1)) hx hb G.2.2.2.1 (G.2.2.2.2 _ qw1_181) dX0_amount_5 ?_
  refine lv_lxor hx hb dX0_amount_8 ?_
  refine lv_land hx hb dX0_amount_9 ?_
  exact mw_lret hx hb hr hlocks dX0_amount_10 (rfl).symm
def fX0_isNumber (z : Bool) (v : Int64) : Int32 := if (finf z) < (fX0_amount z v) then 0 else 1
set_option maxRecDepth 100000 in
set_option maxHeartbeats 4000000 in
theorem cvX0_isNumber (l : Launch) (D : mG) (o : Nat) (z : Bool) (v : Int64) : cV l D yX0_isNumber cX0_isNumber 3 .boolean 1 (fun H => va_at D.1 vwCl (o, .inr (0, flF z)) H) [.ref o, .long v] (.int (fX0_isNumber z v)) := by
  refine cV_of (by decide) (Nat.le_of_ble_eq_true rfl) ?_
  intro p e s m below meth c ls hx hb hr hlocks G hgf hpic hl
  have hl : lv_has ls 3 [(0, .ref o), (1, .long v)] := hl
  have hpic : va_at D.1 vwCl (o, .inr (0, flF z)) s.heap := hpic
  refine lv_aload_n hx hb dX0_isNumber_0 rfl (lv_at hl 0 rfl) ?_
  refine lv_lload_n hx hb dX0_isNumber_1 rfl (lv_at hl 1 rfl) ?_
  refine kV (C := RX0) G (cvX0_amount l D o z v) okX0_amount hgf hpic (mw_recv hgf hpic rfl) qw2_85 ⟨Nat.le_of_ble_eq_true rfl, Nat.le_of_ble_eq_true rfl⟩ ⟨Nat.zero_le _, Nat.zero_le _⟩ hl.1 (Nat.le_of_ble_eq_true rfl) rfl dX0_isNumber_2 ?_
  refine lv_aload_n hx hb dX0_isNumber_5 rfl (lv_at hl 0 rfl) ?_
  refine mw_get G hgf hpic rfl inX0 6 (by decide) qw1_188 rfl dX0_isNumber_6 ?_
  refine mw_lgt (tgt := 17) hx hb dX0_isNumber_9 dX0_isNumber_10 (by decide) (fun c_1 => ?_) (fun c_1 => ?_)
  · refine lv_iconst (v := 0) hx hb dX0_isNumber_17 (by decide) ?_
    exact mw_zret hx hb hr hlocks dX0_isNumber_18 (Or.inl rfl) ((if_pos c_1).trans (rfl)).symm
  · refine lv_iconst (v := 1) hx hb dX0_isNumber_13 (by decide) ?_
    refine lv_goto (tgt := 18) hx hb dX0_isNumber_14 (by decide) ?_
    exact mw_zret hx hb hr hlocks dX0_isNumber_18 (Or.inr rfl) ((if_neg c_1).trans (rfl)).symm
def fX0_exponentOf (z : Bool) (a : Int64) : Int32 := (if (jushr a (ffb z)) < 1 then 1 else (jushr a (ffb z))).toInt32
set_option maxRecDepth 100000 in
set_option maxHeartbeats 4000000 in
theorem cvX0_exponentOf (l : Launch) (D : mG) (o : Nat) (z : Bool) (a : Int64) : cV l D yX0_exponentOf cX0_exponentOf 3 .int 1 (fun H => va_at D.1 vwCl (o, .inr (0, flF z)) H) [.ref o, .long a] (.int (fX0_exponentOf z a)) := by
  refine cV_of (by decide) (Nat.le_of_ble_eq_true rfl) ?_
  intro p e s m below meth c ls hx hb hr hlocks G hgf hpic hl
  have hl : lv_has ls 3 [(0, .ref o), (1, .long a)] := hl
  have hpic : va_at D.1 vwCl (o, .inr (0, flF z)) s.heap := hpic
  refine lv_lconst (v := 1) hx hb dX0_exponentOf_0 (by decide) ?_
  refine lv_lload_n hx hb dX0_exponentOf_1 rfl (lv_at hl 1 rfl) ?_
  refine lv_aload_n hx hb dX0_exponentOf_2 rfl (lv_at hl 0 rfl) ?_
  refine mw_get G hgf hpic rfl inX0 4 (by decide) qw1_186 rfl dX0_exponentOf_3 ?_
  refine lv_lushr (v := jushr a (ffb z)) hx hb dX0_exponentOf_6 rfl ?_
  refine va_mmax_long hx hb (by rw [G.2.2.1]; exact hl.1.symm) G.2.2.2.1 (G.2.2.2.2 _ qw2_210) (G.2.2.2.2 _ qw2_211) (G.2.2.2.2 _ qw1_14) (G.2.2.2.2 _ qw2_212) (Nat.le_of_ble_eq_true rfl) (Nat.le_of_ble_eq_true rfl) (Nat.zero_le _) (Nat.zero_le _) dX0_exponentOf_7 ?_
  refine lv_l2i hx hb dX0_exponentOf_10 rfl ?_
  exact mw_iret hx hb hr hlocks dX0_exponentOf_11 (rfl).symm
def fX0_significandOf (z : Bool) (a : Int64) : Int64 := jshl (if (fhi z) ≤ a then (a &&& ((fhi z) - 1)) ||| (fhi z) else a &&& ((fhi z) - 1) : Int64) 3
set_option maxRecDepth 100000 in
set_option maxHeartbeats 4000000 in
theorem cvX0_significandOf (l : Launch) (D : mG) (o : Nat) (z : Bool) (a : Int64) : cV l D yX0_significandOf cX0_significandOf 5 .long 0 (fun H => va_at D.1 vwCl (o, .inr (0, flF z)) H) [.ref o, .long a] (.long (fX0_significandOf z a)) := by
  refine cV_of (by decide) (Nat.le_of_ble_eq_true rfl) ?_
  intro p e s m below meth c ls hx hb hr hlocks G hgf hpic hl
  have hl : lv_has ls 5 [(0, .ref o), (1, .long a)] := hl
  have hpic : va_at D.1 vwCl (o, .inr (0, flF z)) s.heap := hpic
  refine lv_lload_n hx hb dX0_significandOf_0 rfl (lv_at hl 1 rfl) ?_
  refine lv_aload_n hx hb dX0_significandOf_1 rfl (lv_at hl 0 rfl) ?_
  refine mw_get G hgf hpic rfl inX0 10 (by decide) qw1_192 rfl dX0_significandOf_2 ?_
  refine lv_lconst (v := 1) hx hb dX0_significandOf_5 (by decide) ?_
  refine lv_lsub hx hb dX0_significandOf_6 ?_
  refine lv_land hx hb dX0_significandOf_7 ?_
  refine lv_lstore_n (lv' := [(3, .long (a &&& ((fhi z) - 1))), (0, .ref o), (1, .long a)]) hx hb dX0_significandOf_8 rfl hl (by decide) rfl (fun ls hl => ?_)
  refine lv_lload_n hx hb dX0_significandOf_9 rfl (lv_at hl 2 rfl) ?_
  refine lv_aload_n hx hb dX0_significandOf_10 rfl (lv_at hl 1 rfl) ?_
  refine mw_get G hgf hpic rfl inX0 10 (by decide) qw1_192 rfl dX0_significandOf_11 ?_
  refine mw_join 28 (.long (if (fhi z) ≤ a then (a &&& ((fhi z) - 1)) ||| (fhi z) else a &&& ((fhi z) - 1) : Int64)) [] (fun K => ?_) ?_
  · refine mw_lge (tgt := 22) hx hb dX0_significandOf_14 dX0_significandOf_15 (by decide) (fun c_1 => ?_) (fun c_1 => ?_)
    · refine lv_lload_n hx hb dX0_significandOf_22 rfl (lv_at hl 0 rfl) ?_
      refine lv_aload_n hx hb dX0_significandOf_23 rfl (lv_at hl 1 rfl) ?_
      refine mw_get G hgf hpic rfl inX0 10 (by decide) qw1_192 rfl dX0_significandOf_24 ?_
      refine lv_lor hx hb dX0_significandOf_27 ?_
      exact mw_topL ((if_pos c_1).trans (rfl)) K
    · refine lv_lload_n hx hb dX0_significandOf_18 rfl (lv_at hl 0 rfl) ?_
      refine lv_goto (tgt := 28) hx hb dX0_significandOf_19 (by decide) ?_
      exact mw_topL ((if_neg c_1).trans (rfl)) K
  refine lv_iconst (v := 3) hx hb dX0_significandOf_28 (by decide) ?_
  refine lv_lshl (v := jshl (if (fhi z) ≤ a then (a &&& ((fhi z) - 1)) ||| (fhi z) else a &&& ((fhi z) - 1) : Int64) 3) hx hb dX0_significandOf_29 rfl ?_
  exact mw_lret hx hb hr hlocks dX0_significandOf_30 (rfl).symm
def fX0_rounded_s5 (z : Bool) (sg : Int64) (ex : Int32) (x_2 : Int64) (x_3 : Int64) (x_5 : Int64) : Int64 := (jshl ((ex - 1).toInt64) (ffb z)) + x_5
def fX0_rounded_s8 (z : Bool) (sg : Int64) (ex : Int32) (x_2 : Int64) (x_3 : Int64) (x_8 : Int64) : Int64 := (jshl ((ex - 1).toInt64) (ffb z)) + x_8
def fX0_rounded_s3 (z : Bool) (sg : Int64) (ex : Int32) (x_2 : Int64) (x_3 : Int64) : Int64 := if 4 < x_3 then fX0_rounded_s5 z sg ex x_2 x_3 (x_2 + 1) else (if x_3 = 4 then (if (x_2 &&& 1) = 1 then fX0_rounded_s8 z sg ex x_2 x_3 (x_2 + 1) else (jshl ((ex - 1).toInt64) (ffb z)) + x_2) else (jshl ((ex - 1).toInt64) (ffb z)) + x_2)
def fX0_rounded_s2 (z : Bool) (sg : Int64) (ex : Int32) (x_2 : Int64) : Int64 := fX0_rounded_s3 z sg ex x_2 (sg &&& 7)
def fX0_rounded (z : Bool) (sg : Int64) (ex : Int32) : Int64 := if ex < (fX0_exponentOf z (finf z)) then fX0_rounded_s2 z sg ex (jushr sg 3) else finf z
set_option maxRecDepth 100000 in
set_option maxHeartbeats 4000000 in
theorem cvX0_rounded (l : Launch) (D : mG) (o : Nat) (z : Bool) (sg : Int64) (ex : Int32) : cV l D yX0_rounded cX0_rounded 8 .long 2 (fun H => va_at D.1 vwCl (o, .inr (0, flF z)) H) [.ref o, .long sg, .int ex] (.long (fX0_rounded z sg ex)) := by
  refine cV_of (by decide) (Nat.le_of_ble_eq_true rfl) ?_
  intro p e s m below meth c ls hx hb hr hlocks G hgf hpic hl
  have hl : lv_has ls 8 [(0, .ref o), (1, .long sg), (3, .int ex)] := hl
  have hpic : va_at D.1 vwCl (o, .inr (0, flF z)) s.heap := hpic
  refine lv_iload_n hx hb dX0_rounded_0 rfl (lv_at hl 2 rfl) ?_
  refine lv_aload_n hx hb dX0_rounded_1 rfl (lv_at hl 0 rfl) ?_
  refine lv_aload_n hx hb dX0_rounded_2 rfl (lv_at hl 0 rfl) ?_
  refine mw_get G hgf hpic rfl inX0 6 (by decide) qw1_188 rfl dX0_rounded_3 ?_
  refine kV (C := RX0) G (cvX0_exponentOf l D o z (finf z)) okX0_exponentOf hgf hpic (mw_recv hgf hpic rfl) qw2_206 ⟨Nat.le_of_ble_eq_true rfl, Nat.le_of_ble_eq_true rfl⟩ ⟨Nat.zero_le _, Nat.zero_le _⟩ hl.1 (Nat.le_of_ble_eq_true rfl) rfl dX0_rounded_6 ?_
  refine lv_icmp_lt (tgt := 17) hx hb dX0_rounded_9 (by decide) (fun c_1 => ?_) (fun c_1 => ?_)
  · refine lv_lload_n hx hb dX0_rounded_17 rfl (lv_at hl 1 rfl) ?_
    refine lv_iconst (v := 3) hx hb dX0_rounded_18 (by decide) ?_
    refine lv_lushr (v := jushr sg 3) hx hb dX0_rounded_19 rfl ?_
    refine lv_topl (fun x_2 e_2 => ?_)
    refine lv_lstore (lv' := [(4, .long x_2), (0, .ref o), (1, .long sg), (3, .int ex)]) hx hb dX0_rounded_20 hl (by decide) rfl (fun ls hl => ?_)
    refine lv_lload_n hx hb dX0_rounded_22 rfl (lv_at hl 2 rfl) ?_
    refine lv_ldc2 (v := 7) hx hb G.2.2.2.1 (G.2.2.2.2 _ qw3_21) dX0_rounded_23 ?_
    refine lv_land hx hb dX0_rounded_26 ?_
    refine lv_topl (fun x_3 e_3 => ?_)
    refine lv_lstore (lv' := [(6, .long x_3), (4, .long x_2), (0, .ref o), (1, .long sg), (3, .int ex)]) hx hb dX0_rounded_27 hl (by decide) rfl (fun ls hl => ?_)
    refine lv_lload hx hb dX0_rounded_29 (lv_at hl 0 rfl) ?_
    refine lv_ldc2 (v := 4) hx hb G.2.2.2.1 (G.2.2.2.2 _ qw3_22) dX0_rounded_31 ?_
    refine mw_lgt (tgt := 56) hx hb dX0_rounded_34 dX0_rounded_35 (by decide) (fun c_4 => ?_) (fun c_4 => ?_)
    · refine lv_lload hx hb dX0_rounded_56 (lv_at hl 1 rfl) ?_
      refine lv_lconst (v := 1) hx hb dX0_rounded_58 (by decide) ?_
      refine lv_ladd hx hb dX0_rounded_59 ?_
      refine lv_topl (fun x_5 e_5 => ?_)
      refine lv_lstore (lv' := [(4, .long x_5), (6, .long x_3), (0, .ref o), (1, .long sg), (3, .int ex)]) hx hb dX0_rounded_60 hl (by decide) rfl (fun ls hl => ?_)
      refine lv_iload_n hx hb dX0_rounded_62 rfl (lv_at hl 4 rfl) ?_
      refine lv_iconst (v := 1) hx hb dX0_rounded_63 (by decide) ?_
      refine lv_isub hx hb dX0_rounded_64 ?_
      refine lv_i2l hx hb dX0_rounded_65 rfl ?_
      refine lv_aload_n hx hb dX0_rounded_66 rfl (lv_at hl 2 rfl) ?_
      refine mw_get G hgf hpic rfl inX0 4 (by decide) qw1_186 rfl dX0_rounded_67 ?_
      refine lv_lshl (v := jshl ((ex - 1).toInt64) (ffb z)) hx hb dX0_rounded_70 rfl ?_
      refine lv_lload hx hb dX0_rounded_71 (lv_at hl 0 rfl) ?_
      refine lv_ladd hx hb dX0_rounded_73 ?_
      exact mw_lret hx hb hr hlocks dX0_rounded_74 ((if_pos c_1).trans ((congrArg (fX0_rounded_s2 z sg ex) e_2.symm).trans ((congrArg (fX0_rounded_s3 z sg ex x_2) e_3.symm).trans ((if_pos c_4).trans ((congrArg (fX0_rounded_s5 z sg ex x_2 x_3) e_5.symm).trans (rfl)))))).symm
    · refine lv_lload hx hb dX0_rounded_38 (lv_at hl 0 rfl) ?_
      refine lv_ldc2 (v := 4) hx hb G.2.2.2.1 (G.2.2.2.2 _ qw3_22) dX0_rounded_40 ?_
      refine mw_lne (tgt := 62) hx hb dX0_rounded_43 dX0_rounded_44 (by decide) (fun c_6 => ?_) (fun c_6 => ?_)
      · refine lv_iload_n hx hb dX0_rounded_62 rfl (lv_at hl 4 rfl) ?_
        refine lv_iconst (v := 1) hx hb dX0_rounded_63 (by decide) ?_
        refine lv_isub hx hb dX0_rounded_64 ?_
        refine lv_i2l hx hb dX0_rounded_65 rfl ?_
        refine lv_aload_n hx hb dX0_rounded_66 rfl (lv_at hl 2 rfl) ?_
        refine mw_get G hgf hpic rfl inX0 4 (by decide) qw1_186 rfl dX0_rounded_67 ?_
        refine lv_lshl (v := jshl ((ex - 1).toInt64) (ffb z)) hx hb dX0_rounded_70 rfl ?_
        refine lv_lload hx hb dX0_rounded_71 (lv_at hl 1 rfl) ?_
        refine lv_ladd hx hb dX0_rounded_73 ?_
        exact mw_lret hx hb hr hlocks dX0_rounded_74 ((if_pos c_1).trans ((congrArg (fX0_rounded_s2 z sg ex) e_2.symm).trans ((congrArg (fX0_rounded_s3 z sg ex x_2) e_3.symm).trans ((if_neg c_4).trans ((if_neg c_6).trans (rfl)))))).symm
      · refine lv_lload hx hb dX0_rounded_47 (lv_at hl 1 rfl) ?_
        refine lv_lconst (v := 1) hx hb dX0_rounded_49 (by decide) ?_
        refine lv_land hx hb dX0_rounded_50 ?_
        refine lv_lconst (v := 1) hx hb dX0_rounded_51 (by decide) ?_
        refine mw_lne (tgt := 62) hx hb dX0_rounded_52 dX0_rounded_53 (by decide) (fun c_7 => ?_) (fun c_7 => ?_)
        · refine lv_iload_n hx hb dX0_rounded_62 rfl (lv_at hl 4 rfl) ?_
          refine lv_iconst (v := 1) hx hb dX0_rounded_63 (by decide) ?_
          refine lv_isub hx hb dX0_rounded_64 ?_
          refine lv_i2l hx hb dX0_rounded_65 rfl ?_
          refine lv_aload_n hx hb dX0_rounded_66 rfl (lv_at hl 2 rfl) ?_
          refine mw_get G hgf hpic rfl inX0 4 (by decide) qw1_186 rfl dX0_rounded_67 ?_
          refine lv_lshl (v := jshl ((ex - 1).toInt64) (ffb z)) hx hb dX0_rounded_70 rfl ?_
          refine lv_lload hx hb dX0_rounded_71 (lv_at hl 1 rfl) ?_
          refine lv_ladd hx hb dX0_rounded_73 ?_
          exact mw_lret hx hb hr hlocks dX0_rounded_74 ((if_pos c_1).trans ((congrArg (fX0_rounded_s2 z sg ex) e_2.symm).trans ((congrArg (fX0_rounded_s3 z sg ex x_2) e_3.symm).trans ((if_neg c_4).trans ((if_pos c_6).trans ((if_neg c_7).trans (rfl))))))).symm
        · refine lv_lload hx hb dX0_rounded_56 (lv_at hl 1 rfl) ?_
          refine lv_lconst (v := 1) hx hb dX0_rounded_58 (by decide) ?_
          refine lv_ladd hx hb dX0_rounded_59 ?_
          refine lv_topl (fun x_8 e_8 => ?_)
          refine lv_lstore (lv' := [(4, .long x_8), (6, .long x_3), (0, .ref o), (1, .long sg), (3, .int ex)]) hx hb dX0_rounded_60 hl (by decide) rfl (fun ls hl => ?_)
          refine lv_iload_n hx hb dX0_rounded_62 rfl (lv_at hl 4 rfl) ?_
          refine lv_iconst (v := 1) hx hb dX0_rounded_63 (by decide) ?_
          refine lv_isub hx hb dX0_rounded_64 ?_
          refine lv_i2l hx hb dX0_rounded_65 rfl ?_
          refine lv_aload_n hx hb dX0_rounded_66 rfl (lv_at hl 2 rfl) ?_
          refine mw_get G hgf hpic rfl inX0 4 (by decide) qw1_186 rfl dX0_rounded_67 ?_
          refine lv_lshl (v := jshl ((ex - 1).toInt64) (ffb z)) hx hb dX0_rounded_70 rfl ?_
          refine lv_lload hx hb dX0_rounded_71 (lv_at hl 0 rfl) ?_
          refine lv_ladd hx hb dX0_rounded_73 ?_
          exact mw_lret hx hb hr hlocks dX0_rounded_74 ((if_pos c_1).trans ((congrArg (fX0_rounded_s2 z sg ex) e_2.symm).trans ((congrArg (fX0_rounded_s3 z sg ex x_2) e_3.symm).trans ((if_neg c_4).trans ((if_pos c_6).trans ((if_pos c_7).trans ((congrArg (fX0_rounded_s8 z sg ex x_2 x_3) e_8.symm).trans (rfl)))))))).symm
  · refine lv_aload_n hx hb dX0_rounded_12 rfl (lv_at hl 0 rfl) ?_
    refine mw_get G hgf hpic rfl inX0 6 (by decide) qw1_188 rfl dX0_rounded_13 ?_
    exact mw_lret hx hb hr hlocks dX0_rounded_16 ((if_neg c_1).trans (rfl)).symm
def fX0_plus_s7 (z : Bool) (a : Int64) (b : Int64) (x_1 : Int64) (x_2 : Int64) (x_4 : Int32) (x_5 : Int64) (x_7 : Int64) : Int64 := fX0_rounded z x_7 (x_4 + 1)
def fX0_plus_s5 (z : Bool) (a : Int64) (b : Int64) (x_1 : Int64) (x_2 : Int64) (x_4 : Int32) (x_5 : Int64) : Int64 := if x_5 < (jshl (fhi z) 4) then fX0_rounded z x_5 x_4 else fX0_plus_s7 z a b x_1 x_2 x_4 x_5 (fX0_shiftedRight x_5 1)
def fX0_plus_s4 (z : Bool) (a : Int64) (b : Int64) (x_1 : Int64) (x_2 : Int64) (x_4 : Int32) : Int64 := fX0_plus_s5 z a b x_1 x_2 x_4 ((fX0_significandOf z x_1) + (fX0_shiftedRight (fX0_significandOf z x_2) (x_4 - (fX0_exponentOf z x_2))))
def fX0_plus_s2 (z : Bool) (a : Int64) (b : Int64) (x_1 : Int64) (x_2 : Int64) : Int64 := if x_1 = (finf z) then finf z else fX0_plus_s4 z a b x_1 x_2 (fX0_exponentOf z x_1)
def fX0_plus_s1 (z : Bool) (a : Int64) (b : Int64) (x_1 : Int64) : Int64 := fX0_plus_s2 z a b x_1 (if b < a then b else a)
def fX0_plus (z : Bool) (a : Int64) (b : Int64) : Int64 := fX0_plus_s1 z a b (if b < a then a else b)
set_option maxRecDepth 100000 in
set_option maxHeartbeats 4000000 in
theorem cvX0_plus (l : Launch) (D : mG) (o : Nat) (z : Bool) (a : Int64) (b : Int64) : cV l D yX0_plus cX0_plus 12 .long 3 (fun H => va_at D.1 vwCl (o, .inr (0, flF z)) H) [.ref o, .long a, .long b] (.long (fX0_plus z a b)) := by
  refine cV_of (by decide) (Nat.le_of_ble_eq_true rfl) ?_
  intro p e s m below meth c ls hx hb hr hlocks G hgf hpic hl
  have hl : lv_has ls 12 [(0, .ref o), (1, .long a), (3, .long b)] := hl
  have hpic : va_at D.1 vwCl (o, .inr (0, flF z)) s.heap := hpic
  refine lv_lload_n hx hb dX0_plus_0 rfl (lv_at hl 1 rfl) ?_
  refine lv_lload_n hx hb dX0_plus_1 rfl (lv_at hl 2 rfl) ?_
  refine va_mmax_long hx hb (by rw [G.2.2.1]; exact hl.1.symm) G.2.2.2.1 (G.2.2.2.2 _ qw2_210) (G.2.2.2.2 _ qw2_211) (G.2.2.2.2 _ qw1_14) (G.2.2.2.2 _ qw2_212) (Nat.le_of_ble_eq_true rfl) (Nat.le_of_ble_eq_true rfl) (Nat.zero_le _) (Nat.zero_le _) dX0_plus_2 ?_
  refine lv_topl (fun x_1 e_1 => ?_)
  refine lv_lstore (lv' := [(5, .long x_1), (0, .ref o), (1, .long a), (3, .long b)]) hx hb dX0_plus_5 hl (by decide) rfl (fun ls hl => ?_)
  refine lv_lload_n hx hb dX0_plus_7 rfl (lv_at hl 2 rfl) ?_
  refine lv_lload_n hx hb dX0_plus_8 rfl (lv_at hl 3 rfl) ?_
  refine va_mmin_long hx hb (by rw [G.2.2.1]; exact hl.1.symm) G.2.2.2.1 (G.2.2.2.2 _ qw3_4) (G.2.2.2.2 _ qw3_5) (G.2.2.2.2 _ qw1_14) (G.2.2.2.2 _ qw3_6) (Nat.le_of_ble_eq_true rfl) (Nat.le_of_ble_eq_true rfl) (Nat.zero_le _) (Nat.zero_le _) dX0_plus_9 ?_
  refine lv_topl (fun x_2 e_2 => ?_)
  refine lv_lstore (lv' := [(7, .long x_2), (5, .long x_1), (0, .ref o), (1, .long a), (3, .long b)]) hx hb dX0_plus_12 hl (by decide) rfl (fun ls hl => ?_)
  refine lv_lload hx hb dX0_plus_14 (lv_at hl 1 rfl) ?_
  refine lv_aload_n hx hb dX0_plus_16 rfl (lv_at hl 2 rfl) ?_
  refine mw_get G hgf hpic rfl inX0 6 (by decide) qw1_188 rfl dX0_plus_17 ?_
  refine mw_lne (tgt := 29) hx hb dX0_plus_20 dX0_plus_21 (by decide) (fun c_3 => ?_) (fun c_3 => ?_)
  · refine lv_aload_n hx hb dX0_plus_29 rfl (lv_at hl 2 rfl) ?_
    refine lv_lload hx hb dX0_plus_30 (lv_at hl 1 rfl) ?_
    refine kV (C := RX0) G (cvX0_exponentOf l D o z x_1) okX0_exponentOf hgf hpic (mw_recv hgf hpic rfl) qw2_206 ⟨Nat.le_of_ble_eq_true rfl, Nat.le_of_ble_eq_true rfl⟩ ⟨Nat.zero_le _, Nat.zero_le _⟩ hl.1 (Nat.le_of_ble_eq_true rfl) rfl dX0_plus_32 ?_
    refine lv_topi (fun x_4 e_4 => ?_)
    refine lv_istore (lv' := [(9, .int x_4), (7, .long x_2), (5, .long x_1), (0, .ref o), (1, .long a), (3, .long b)]) hx hb dX0_plus_35 hl (by decide) rfl (fun ls hl => ?_)
    refine lv_aload_n hx hb dX0_plus_37 rfl (lv_at hl 3 rfl) ?_
    refine lv_lload hx hb dX0_plus_38 (lv_at hl 2 rfl) ?_
    refine kV (C := RX0) G (cvX0_significandOf l D o z x_1) okX0_significandOf hgf hpic (mw_recv hgf hpic rfl) qw3_7 ⟨Nat.le_of_ble_eq_true rfl, Nat.le_of_ble_eq_true rfl⟩ ⟨Nat.zero_le _, Nat.zero_le _⟩ hl.1 (Nat.le_of_ble_eq_true rfl) rfl dX0_plus_40 ?_
    refine lv_aload_n hx hb dX0_plus_43 rfl (lv_at hl 3 rfl) ?_
    refine lv_lload hx hb dX0_plus_44 (lv_at hl 1 rfl) ?_
    refine kV (C := RX0) G (cvX0_significandOf l D o z x_2) okX0_significandOf hgf hpic (mw_recv hgf hpic rfl) qw3_7 ⟨Nat.le_of_ble_eq_true rfl, Nat.le_of_ble_eq_true rfl⟩ ⟨Nat.zero_le _, Nat.zero_le _⟩ hl.1 (Nat.le_of_ble_eq_true rfl) rfl dX0_plus_46 ?_
    refine lv_iload hx hb dX0_plus_49 (lv_at hl 0 rfl) ?_
    refine lv_aload_n hx hb dX0_plus_51 rfl (lv_at hl 3 rfl) ?_
    refine lv_lload hx hb dX0_plus_52 (lv_at hl 1 rfl) ?_
    refine kV (C := RX0) G (cvX0_exponentOf l D o z x_2) okX0_exponentOf hgf hpic (mw_recv hgf hpic rfl) qw2_206 ⟨Nat.le_of_ble_eq_true rfl, Nat.le_of_ble_eq_true rfl⟩ ⟨Nat.zero_le _, Nat.zero_le _⟩ hl.1 (Nat.le_of_ble_eq_true rfl) rfl dX0_plus_54 ?_
    refine lv_isub hx hb dX0_plus_57 ?_
    refine kS G (cvX0_shiftedRight l D (fX0_significandOf z x_2) (x_4 - (fX0_exponentOf z x_2))) okX0_shiftedRight hgf trivial qw3_11 ⟨Nat.le_of_ble_eq_true rfl, Nat.le_of_ble_eq_true rfl⟩ ⟨Nat.zero_le _, Nat.zero_le _⟩ hl.1 (Nat.le_of_ble_eq_true rfl) rfl dX0_plus_58 ?_
    refine lv_ladd hx hb dX0_plus_61 ?_
    refine lv_topl (fun x_5 e_5 => ?_)
    refine lv_lstore (lv' := [(10, .long x_5), (9, .int x_4), (7, .long x_2), (5, .long x_1), (0, .ref o), (1, .long a), (3, .long b)]) hx hb dX0_plus_62 hl (by decide) rfl (fun ls hl => ?_)
    refine lv_lload hx hb dX0_plus_64 (lv_at hl 0 rfl) ?_
    refine lv_aload_n hx hb dX0_plus_66 rfl (lv_at hl 4 rfl) ?_
    refine mw_get G hgf hpic rfl inX0 10 (by decide) qw1_192 rfl dX0_plus_67 ?_
    refine lv_iconst (v := 4) hx hb dX0_plus_70 (by decide) ?_
    refine lv_lshl (v := jshl (fhi z) 4) hx hb dX0_plus_71 rfl ?_
    refine mw_llt (tgt := 87) hx hb dX0_plus_72 dX0_plus_73 (by decide) (fun c_6 => ?_) (fun c_6 => ?_)
    · refine lv_aload_n hx hb dX0_plus_87 rfl (lv_at hl 4 rfl) ?_
      refine lv_lload hx hb dX0_plus_88 (lv_at hl 0 rfl) ?_
      refine lv_iload hx hb dX0_plus_90 (lv_at hl 1 rfl) ?_
      refine kV (C := RX0) G (cvX0_rounded l D o z x_5 x_4) okX0_rounded hgf hpic (mw_recv hgf hpic rfl) qw3_17 ⟨Nat.le_of_ble_eq_true rfl, Nat.le_of_ble_eq_true rfl⟩ ⟨Nat.zero_le _, Nat.zero_le _⟩ hl.1 (Nat.le_of_ble_eq_true rfl) rfl dX0_plus_92 ?_
      exact mw_lret hx hb hr hlocks dX0_plus_95 ((congrArg (fX0_plus_s1 z a b) e_1.symm).trans ((congrArg (fX0_plus_s2 z a b x_1) e_2.symm).trans ((if_neg c_3).trans ((congrArg (fX0_plus_s4 z a b x_1 x_2) e_4.symm).trans ((congrArg (fX0_plus_s5 z a b x_1 x_2 x_4) e_5.symm).trans ((if_pos c_6).trans (rfl))))))).symm
    · refine lv_lload hx hb dX0_plus_76 (lv_at hl 0 rfl) ?_
      refine lv_iconst (v := 1) hx hb dX0_plus_78 (by decide) ?_
      refine kS G (cvX0_shiftedRight l D x_5 1) okX0_shiftedRight hgf trivial qw3_11 ⟨Nat.le_of_ble_eq_true rfl, Nat.le_of_ble_eq_true rfl⟩ ⟨Nat.zero_le _, Nat.zero_le _⟩ hl.1 (Nat.le_of_ble_eq_true rfl) rfl dX0_plus_79 ?_
      refine lv_topl (fun x_7 e_7 => ?_)
      refine lv_lstore (lv' := [(10, .long x_7), (9, .int x_4), (7, .long x_2), (5, .long x_1), (0, .ref o), (1, .long a), (3, .long b)]) hx hb dX0_plus_82 hl (by decide) rfl (fun ls hl => ?_)
      refine lv_iinc (v := x_4 + 1) (lv' := [(9, .int (x_4 + 1)), (10, .long x_7), (7, .long x_2), (5, .long x_1), (0, .ref o), (1, .long a), (3, .long b)]) hx hb dX0_plus_84 hl (k := 1) rfl rfl (by decide) rfl (fun ls hl => ?_)
      refine lv_aload_n hx hb dX0_plus_87 rfl (lv_at hl 4 rfl) ?_
      refine lv_lload hx hb dX0_plus_88 (lv_at hl 1 rfl) ?_
      refine lv_iload hx hb dX0_plus_90 (lv_at hl 0 rfl) ?_
      refine kV (C := RX0) G (cvX0_rounded l D o z x_7 (x_4 + 1)) okX0_rounded hgf hpic (mw_recv hgf hpic rfl) qw3_17 ⟨Nat.le_of_ble_eq_true rfl, Nat.le_of_ble_eq_true rfl⟩ ⟨Nat.zero_le _, Nat.zero_le _⟩ hl.1 (Nat.le_of_ble_eq_true rfl) rfl dX0_plus_92 ?_
      exact mw_lret hx hb hr hlocks dX0_plus_95 ((congrArg (fX0_plus_s1 z a b) e_1.symm).trans ((congrArg (fX0_plus_s2 z a b x_1) e_2.symm).trans ((if_neg c_3).trans ((congrArg (fX0_plus_s4 z a b x_1 x_2) e_4.symm).trans ((congrArg (fX0_plus_s5 z a b x_1 x_2 x_4) e_5.symm).trans ((if_neg c_6).trans ((congrArg (fX0_plus_s7 z a b x_1 x_2 x_4 x_5) e_7.symm).trans (rfl)))))))).symm
  · refine lv_aload_n hx hb dX0_plus_24 rfl (lv_at hl 2 rfl) ?_
    refine mw_get G hgf hpic rfl inX0 6 (by decide) qw1_188 rfl dX0_plus_25 ?_
    exact mw_lret hx hb hr hlocks dX0_plus_28 ((congrArg (fX0_plus_s1 z a b) e_1.symm).trans ((congrArg (fX0_plus_s2 z a b x_1) e_2.symm).trans ((if_pos c_3).trans (rfl)))).symm
def fX0_rank (z : Bool) (v : Int64) : Int64 := if 0 ≤ v then v else (-1) - (fX0_amount z v)
set_option maxRecDepth 100000 in
set_option maxHeartbeats 4000000 in
theorem cvX0_rank (l : Launch) (D : mG) (o : Nat) (z : Bool) (v : Int64) : cV l D yX0_rank cX0_rank 3 .long 1 (fun H => va_at D.1 vwCl (o, .inr (0, flF z)) H) [.ref o, .long v] (.long (fX0_rank z v)) := by
  refine cV_of (by decide) (Nat.le_of_ble_eq_true rfl) ?_
  intro p e s m below meth c ls hx hb hr hlocks G hgf hpic hl
  have hl : lv_has ls 3 [(0, .ref o), (1, .long v)] := hl
  have hpic : va_at D.1 vwCl (o, .inr (0, flF z)) s.heap := hpic
  refine lv_lload_n hx hb dX0_rank_0 rfl (lv_at hl 1 rfl) ?_
  refine lv_lconst (v := 0) hx hb dX0_rank_1 (by decide) ?_
  refine mw_lge (tgt := 18) hx hb dX0_rank_2 dX0_rank_3 (by decide) (fun c_1 => ?_) (fun c_1 => ?_)
  · refine lv_lload_n hx hb dX0_rank_18 rfl (lv_at hl 1 rfl) ?_
    exact mw_lret hx hb hr hlocks dX0_rank_19 ((if_pos c_1).trans (rfl)).symm
  · refine lv_ldc2 (v := (-1)) hx hb G.2.2.2.1 (G.2.2.2.2 _ qw1_181) dX0_rank_6 ?_
    refine lv_aload_n hx hb dX0_rank_9 rfl (lv_at hl 0 rfl) ?_
    refine lv_lload_n hx hb dX0_rank_10 rfl (lv_at hl 1 rfl) ?_
    refine kV (C := RX0) G (cvX0_amount l D o z v) okX0_amount hgf hpic (mw_recv hgf hpic rfl) qw2_85 ⟨Nat.le_of_ble_eq_true rfl, Nat.le_of_ble_eq_true rfl⟩ ⟨Nat.zero_le _, Nat.zero_le _⟩ hl.1 (Nat.le_of_ble_eq_true rfl) rfl dX0_rank_11 ?_
    refine lv_lsub hx hb dX0_rank_14 ?_
    refine lv_goto (tgt := 19) hx hb dX0_rank_15 (by decide) ?_
    exact mw_lret hx hb hr hlocks dX0_rank_19 ((if_neg c_1).trans (rfl)).symm
def fX0_level (z : Bool) (v : Int64) : Int64 := if 0 ≤ v then v else -(fX0_amount z v)
set_option maxRecDepth 100000 in
set_option maxHeartbeats 4000000 in
theorem cvX0_level (l : Launch) (D : mG) (o : Nat) (z : Bool) (v : Int64) : cV l D yX0_level cX0_level 3 .long 1 (fun H => va_at D.1 vwCl (o, .inr (0, flF z)) H) [.ref o, .long v] (.long (fX0_level z v)) := by
  refine cV_of (by decide) (Nat.le_of_ble_eq_true rfl) ?_
  intro p e s m below meth c ls hx hb hr hlocks G hgf hpic hl
  have hl : lv_has ls 3 [(0, .ref o), (1, .long v)] := hl
  have hpic : va_at D.1 vwCl (o, .inr (0, flF z)) s.heap := hpic
  refine lv_lload_n hx hb dX0_level_0 rfl (lv_at hl 1 rfl) ?_
  refine lv_lconst (v := 0) hx hb dX0_level_1 (by decide) ?_
  refine mw_lge (tgt := 15) hx hb dX0_level_2 dX0_level_3 (by decide) (fun c_1 => ?_) (fun c_1 => ?_)
  · refine lv_lload_n hx hb dX0_level_15 rfl (lv_at hl 1 rfl) ?_
    exact mw_lret hx hb hr hlocks dX0_level_16 ((if_pos c_1).trans (rfl)).symm
  · refine lv_aload_n hx hb dX0_level_6 rfl (lv_at hl 0 rfl) ?_
    refine lv_lload_n hx hb dX0_level_7 rfl (lv_at hl 1 rfl) ?_
    refine kV (C := RX0) G (cvX0_amount l D o z v) okX0_amount hgf hpic (mw_recv hgf hpic rfl) qw2_85 ⟨Nat.le_of_ble_eq_true rfl, Nat.le_of_ble_eq_true rfl⟩ ⟨Nat.zero_le _, Nat.zero_le _⟩ hl.1 (Nat.le_of_ble_eq_true rfl) rfl dX0_level_8 ?_
    refine lv_lneg hx hb dX0_level_11 ?_
    refine lv_goto (tgt := 16) hx hb dX0_level_12 (by decide) ?_
    exact mw_lret hx hb hr hlocks dX0_level_16 ((if_neg c_1).trans (rfl)).symm
def fX0_withSignOf (z : Bool) (v : Int64) (a : Int64) : Int64 := if 0 ≤ v then a else a ||| (fsm z)
set_option maxRecDepth 100000 in
set_option maxHeartbeats 4000000 in
theorem cvX0_withSignOf (l : Launch) (D : mG) (o : Nat) (z : Bool) (v : Int64) (a : Int64) : cV l D yX0_withSignOf cX0_withSignOf 5 .long 0 (fun H => va_at D.1 vwCl (o, .inr (0, flF z)) H) [.ref o, .long v, .long a] (.long (fX0_withSignOf z v a)) := by
  refine cV_of (by decide) (Nat.le_of_ble_eq_true rfl) ?_
  intro p e s m below meth c ls hx hb hr hlocks G hgf hpic hl
  have hl : lv_has ls 5 [(0, .ref o), (1, .long v), (3, .long a)] := hl
  have hpic : va_at D.1 vwCl (o, .inr (0, flF z)) s.heap := hpic
  refine lv_lload_n hx hb dX0_withSignOf_0 rfl (lv_at hl 1 rfl) ?_
  refine lv_lconst (v := 0) hx hb dX0_withSignOf_1 (by decide) ?_
  refine mw_lge (tgt := 15) hx hb dX0_withSignOf_2 dX0_withSignOf_3 (by decide) (fun c_1 => ?_) (fun c_1 => ?_)
  · refine lv_lload_n hx hb dX0_withSignOf_15 rfl (lv_at hl 2 rfl) ?_
    exact mw_lret hx hb hr hlocks dX0_withSignOf_16 ((if_pos c_1).trans (rfl)).symm
  · refine lv_lload_n hx hb dX0_withSignOf_6 rfl (lv_at hl 2 rfl) ?_
    refine lv_aload_n hx hb dX0_withSignOf_7 rfl (lv_at hl 0 rfl) ?_
    refine mw_get G hgf hpic rfl inX0 5 (by decide) qw1_187 rfl dX0_withSignOf_8 ?_
    refine lv_lor hx hb dX0_withSignOf_11 ?_
    refine lv_goto (tgt := 16) hx hb dX0_withSignOf_12 (by decide) ?_
    exact mw_lret hx hb hr hlocks dX0_withSignOf_16 ((if_neg c_1).trans (rfl)).symm
def fX0_bitsBehindPoint (z : Bool) (a : Int64) : Int32 := ((ffb z) + (fbi z)) - (fX0_exponentOf z a)
set_option maxRecDepth 100000 in
set_option maxHeartbeats 4000000 in
theorem cvX0_bitsBehindPoint (l : Launch) (D : mG) (o : Nat) (z : Bool) (a : Int64) : cV l D yX0_bitsBehindPoint cX0_bitsBehindPoint 3 .int 2 (fun H => va_at D.1 vwCl (o, .inr (0, flF z)) H) [.ref o, .long a] (.int (fX0_bitsBehindPoint z a)) := by
  refine cV_of (by decide) (Nat.le_of_ble_eq_true rfl) ?_
  intro p e s m below meth c ls hx hb hr hlocks G hgf hpic hl
  have hl : lv_has ls 3 [(0, .ref o), (1, .long a)] := hl
  have hpic : va_at D.1 vwCl (o, .inr (0, flF z)) s.heap := hpic
  refine lv_aload_n hx hb dX0_bitsBehindPoint_0 rfl (lv_at hl 0 rfl) ?_
  refine mw_get G hgf hpic rfl inX0 4 (by decide) qw1_186 rfl dX0_bitsBehindPoint_1 ?_
  refine lv_aload_n hx hb dX0_bitsBehindPoint_4 rfl (lv_at hl 0 rfl) ?_
  refine mw_get G hgf hpic rfl inX0 7 (by decide) qw1_189 rfl dX0_bitsBehindPoint_5 ?_
  refine lv_iadd hx hb dX0_bitsBehindPoint_8 ?_
  refine lv_aload_n hx hb dX0_bitsBehindPoint_9 rfl (lv_at hl 0 rfl) ?_
  refine lv_lload_n hx hb dX0_bitsBehindPoint_10 rfl (lv_at hl 1 rfl) ?_
  refine kV (C := RX0) G (cvX0_exponentOf l D o z a) okX0_exponentOf hgf hpic (mw_recv hgf hpic rfl) qw2_206 ⟨Nat.le_of_ble_eq_true rfl, Nat.le_of_ble_eq_true rfl⟩ ⟨Nat.zero_le _, Nat.zero_le _⟩ hl.1 (Nat.le_of_ble_eq_true rfl) rfl dX0_bitsBehindPoint_11 ?_
  refine lv_isub hx hb dX0_bitsBehindPoint_14 ?_
  exact mw_iret hx hb hr hlocks dX0_bitsBehindPoint_15 (rfl).symm
def fX0_cut_s2 (z : Bool) (a : Int64) (x_2 : Int32) : Int64 := if 0 < x_2 then a &&& (jshl (-1) x_2) else a
def fX0_cut (z : Bool) (a : Int64) : Int64 := if (fon z) ≤ a then fX0_cut_s2 z a (fX0_bitsBehindPoint z a) else 0
set_option maxRecDepth 100000 in
set_option maxHeartbeats 4000000 in
theorem cvX0_cut (l : Launch) (D : mG) (o : Nat) (z : Bool) (a : Int64) : cV l D yX0_cut cX0_cut 4 .long 3 (fun H => va_at D.1 vwCl (o, .inr (0, flF z)) H) [.ref o, .long a] (.long (fX0_cut z a)) := by
  refine cV_of (by decide) (Nat.le_of_ble_eq_true rfl) ?_
  intro p e s m below meth c ls hx hb hr hlocks G hgf hpic hl
  have hl : lv_has ls 4 [(0, .ref o), (1, .long a)] := hl
  have hpic : va_at D.1 vwCl (o, .inr (0, flF z)) s.heap := hpic
  refine lv_lload_n hx hb dX0_cut_0 rfl (lv_at hl 1 rfl) ?_
  refine lv_aload_n hx hb dX0_cut_1 rfl (lv_at hl 0 rfl) ?_
  refine mw_get G hgf hpic rfl inX0 8 (by decide) qw1_190 rfl dX0_cut_2 ?_
  refine mw_lge (tgt := 11) hx hb dX0_cut_5 dX0_cut_6 (by decide) (fun c_1 => ?_) (fun c_1 => ?_)
  · refine lv_aload_n hx hb dX0_cut_11 rfl (lv_at hl 0 rfl) ?_
    refine lv_lload_n hx hb dX0_cut_12 rfl (lv_at hl 1 rfl) ?_
    refine kV (C := RX0) G (cvX0_bitsBehindPoint l D o z a) okX0_bitsBehindPoint hgf hpic (mw_recv hgf hpic rfl) qw2_202 ⟨Nat.le_of_ble_eq_true rfl, Nat.le_of_ble_eq_true rfl⟩ ⟨Nat.zero_le _, Nat.zero_le _⟩ hl.1 (Nat.le_of_ble_eq_true rfl) rfl dX0_cut_13 ?_
    refine lv_topi (fun x_2 e_2 => ?_)
    refine lv_istore_n (lv' := [(3, .int x_2), (0, .ref o), (1, .long a)]) hx hb dX0_cut_16 rfl hl (by decide) rfl (fun ls hl => ?_)
    refine lv_iload_n hx hb dX0_cut_17 rfl (lv_at hl 0 rfl) ?_
    refine lv_if_gt (tgt := 25) hx hb dX0_cut_18 (by decide) (fun c_3 => ?_) (fun c_3 => ?_)
    · refine lv_lload_n hx hb dX0_cut_25 rfl (lv_at hl 2 rfl) ?_
      refine lv_ldc2 (v := (-1)) hx hb G.2.2.2.1 (G.2.2.2.2 _ qw1_181) dX0_cut_26 ?_
      refine lv_iload_n hx hb dX0_cut_29 rfl (lv_at hl 0 rfl) ?_
      refine lv_lshl (v := jshl (-1) x_2) hx hb dX0_cut_30 rfl ?_
      refine lv_land hx hb dX0_cut_31 ?_
      exact mw_lret hx hb hr hlocks dX0_cut_32 ((if_pos c_1).trans ((congrArg (fX0_cut_s2 z a) e_2.symm).trans ((if_pos c_3).trans (rfl)))).symm
    · refine lv_lload_n hx hb dX0_cut_21 rfl (lv_at hl 2 rfl) ?_
      refine lv_goto (tgt := 32) hx hb dX0_cut_22 (by decide) ?_
      exact mw_lret hx hb hr hlocks dX0_cut_32 ((if_pos c_1).trans ((congrArg (fX0_cut_s2 z a) e_2.symm).trans ((if_neg c_3).trans (rfl)))).symm
  · refine lv_lconst (v := 0) hx hb dX0_cut_9 (by decide) ?_
    exact mw_lret hx hb hr hlocks dX0_cut_10 ((if_neg c_1).trans (rfl)).symm
def fX0_nextWhole (z : Bool) (bw : Int64) (a : Int64) : Int64 := if (fon z) ≤ a then bw + (jshl 1 (fX0_bitsBehindPoint z a)) else fon z
set_option maxRecDepth 100000 in
set_option maxHeartbeats 4000000 in
theorem cvX0_nextWhole (l : Launch) (D : mG) (o : Nat) (z : Bool) (bw : Int64) (a : Int64) : cV l D yX0_nextWhole cX0_nextWhole 5 .long 3 (fun H => va_at D.1 vwCl (o, .inr (0, flF z)) H) [.ref o, .long bw, .long a] (.long (fX0_nextWhole z bw a)) := by
  refine cV_of (by decide) (Nat.le_of_ble_eq_true rfl) ?_
  intro p e s m below meth c ls hx hb hr hlocks G hgf hpic hl
  have hl : lv_has ls 5 [(0, .ref o), (1, .long bw), (3, .long a)] := hl
  have hpic : va_at D.1 vwCl (o, .inr (0, flF z)) s.heap := hpic
  refine lv_lload_n hx hb dX0_nextWhole_0 rfl (lv_at hl 2 rfl) ?_
  refine lv_aload_n hx hb dX0_nextWhole_1 rfl (lv_at hl 0 rfl) ?_
  refine mw_get G hgf hpic rfl inX0 8 (by decide) qw1_190 rfl dX0_nextWhole_2 ?_
  refine mw_lge (tgt := 16) hx hb dX0_nextWhole_5 dX0_nextWhole_6 (by decide) (fun c_1 => ?_) (fun c_1 => ?_)
  · refine lv_lload_n hx hb dX0_nextWhole_16 rfl (lv_at hl 1 rfl) ?_
    refine lv_lconst (v := 1) hx hb dX0_nextWhole_17 (by decide) ?_
    refine lv_aload_n hx hb dX0_nextWhole_18 rfl (lv_at hl 0 rfl) ?_
    refine lv_lload_n hx hb dX0_nextWhole_19 rfl (lv_at hl 2 rfl) ?_
    refine kV (C := RX0) G (cvX0_bitsBehindPoint l D o z a) okX0_bitsBehindPoint hgf hpic (mw_recv hgf hpic rfl) qw2_202 ⟨Nat.le_of_ble_eq_true rfl, Nat.le_of_ble_eq_true rfl⟩ ⟨Nat.zero_le _, Nat.zero_le _⟩ hl.1 (Nat.le_of_ble_eq_true rfl) rfl dX0_nextWhole_20 ?_
    refine lv_lshl (v := jshl 1 (fX0_bitsBehindPoint z a)) hx hb dX0_nextWhole_23 rfl ?_
    refine lv_ladd hx hb dX0_nextWhole_24 ?_
    exact mw_lret hx hb hr hlocks dX0_nextWhole_25 ((if_pos c_1).trans (rfl)).symm
  · refine lv_aload_n hx hb dX0_nextWhole_9 rfl (lv_at hl 0 rfl) ?_
    refine mw_get G hgf hpic rfl inX0 8 (by decide) qw1_190 rfl dX0_nextWhole_10 ?_
    refine lv_goto (tgt := 25) hx hb dX0_nextWhole_13 (by decide) ?_
    exact mw_lret hx hb hr hlocks dX0_nextWhole_25 ((if_neg c_1).trans (rfl)).symm
def fX0_raised_s1 (z : Bool) (a : Int64) (x_1 : Int64) : Int64 := if x_1 = a then a else fX0_nextWhole z x_1 a
def fX0_raised (z : Bool) (a : Int64) : Int64 := fX0_raised_s1 z a (fX0_cut z a)
set_option maxRecDepth 100000 in
set_option maxHeartbeats 4000000 in
theorem cvX0_raised (l : Launch) (D : mG) (o : Nat) (z : Bool) (a : Int64) : cV l D yX0_raised cX0_raised 5 .long 4 (fun H => va_at D.1 vwCl (o, .inr (0, flF z)) H) [.ref o, .long a] (.long (fX0_raised z a)) := by
  refine cV_of (by decide) (Nat.le_of_ble_eq_true rfl) ?_
  intro p e s m below meth c ls hx hb hr hlocks G hgf hpic hl
  have hl : lv_has ls 5 [(0, .ref o), (1, .long a)] := hl
  have hpic : va_at D.1 vwCl (o, .inr (0, flF z)) s.heap := hpic
  refine lv_aload_n hx hb dX0_raised_0 rfl (lv_at hl 0 rfl) ?_
  refine lv_lload_n hx hb dX0_raised_1 rfl (lv_at hl 1 rfl) ?_
  refine kV (C := RX0) G (cvX0_cut l D o z a) okX0_cut hgf hpic (mw_recv hgf hpic rfl) qw2_198 ⟨Nat.le_of_ble_eq_true rfl, Nat.le_of_ble_eq_true rfl⟩ ⟨Nat.zero_le _, Nat.zero_le _⟩ hl.1 (Nat.le_of_ble_eq_true rfl) rfl dX0_raised_2 ?_
  refine lv_topl (fun x_1 e_1 => ?_)
  refine lv_lstore_n (lv' := [(3, .long x_1), (0, .ref o), (1, .long a)]) hx hb dX0_raised_5 rfl hl (by decide) rfl (fun ls hl => ?_)
  refine lv_lload_n hx hb dX0_raised_6 rfl (lv_at hl 0 rfl) ?_
  refine lv_lload_n hx hb dX0_raised_7 rfl (lv_at hl 2 rfl) ?_
  refine mw_lne (tgt := 16) hx hb dX0_raised_8 dX0_raised_9 (by decide) (fun c_2 => ?_) (fun c_2 => ?_)
  · refine lv_aload_n hx hb dX0_raised_16 rfl (lv_at hl 1 rfl) ?_
    refine lv_lload_n hx hb dX0_raised_17 rfl (lv_at hl 0 rfl) ?_
    refine lv_lload_n hx hb dX0_raised_18 rfl (lv_at hl 2 rfl) ?_
    refine kV (C := RX0) G (cvX0_nextWhole l D o z x_1 a) okX0_nextWhole hgf hpic (mw_recv hgf hpic rfl) qw2_213 ⟨Nat.le_of_ble_eq_true rfl, Nat.le_of_ble_eq_true rfl⟩ ⟨Nat.zero_le _, Nat.zero_le _⟩ hl.1 (Nat.le_of_ble_eq_true rfl) rfl dX0_raised_19 ?_
    exact mw_lret hx hb hr hlocks dX0_raised_22 ((congrArg (fX0_raised_s1 z a) e_1.symm).trans ((if_neg c_2).trans (rfl))).symm
  · refine lv_lload_n hx hb dX0_raised_12 rfl (lv_at hl 2 rfl) ?_
    refine lv_goto (tgt := 22) hx hb dX0_raised_13 (by decide) ?_
    exact mw_lret hx hb hr hlocks dX0_raised_22 ((congrArg (fX0_raised_s1 z a) e_1.symm).trans ((if_pos c_2).trans (rfl))).symm
def fX0_nearest_s8 (z : Bool) (a : Int64) (x_2 : Int64) (x_4 : Int32) (x_5 : Int64) (x_6 : Int64) (x_8 : Int32) : Int64 := if x_6 < x_5 then fX0_nextWhole z x_2 a else (if x_5 = x_6 then (if x_8 = 0 then x_2 else fX0_nextWhole z x_2 a) else x_2)
def fX0_nearest_s6 (z : Bool) (a : Int64) (x_2 : Int64) (x_4 : Int32) (x_5 : Int64) (x_6 : Int64) : Int64 := fX0_nearest_s8 z a x_2 x_4 x_5 x_6 (if ((jushr x_2 x_4) &&& 1) = 1 then 1 else 0 : Int32)
def fX0_nearest_s5 (z : Bool) (a : Int64) (x_2 : Int64) (x_4 : Int32) (x_5 : Int64) : Int64 := fX0_nearest_s6 z a x_2 x_4 x_5 (jshl 1 (x_4 - 1))
def fX0_nearest_s4 (z : Bool) (a : Int64) (x_2 : Int64) (x_4 : Int32) : Int64 := fX0_nearest_s5 z a x_2 x_4 (a - x_2)
def fX0_nearest_s2 (z : Bool) (a : Int64) (x_2 : Int64) : Int64 := if x_2 = a then a else fX0_nearest_s4 z a x_2 (fX0_bitsBehindPoint z a)
def fX0_nearest (z : Bool) (a : Int64) : Int64 := if (fon z) ≤ a then fX0_nearest_s2 z a (fX0_cut z a) else (if a ≤ (fhf z) then 0 else fon z)
set_option maxRecDepth 100000 in
set_option maxHeartbeats 4000000 in
theorem cvX0_nearest (l : Launch) (D : mG) (o : Nat) (z : Bool) (a : Int64) : cV l D yX0_nearest cX0_nearest 11 .long 4 (fun H => va_at D.1 vwCl (o, .inr (0, flF z)) H) [.ref o, .long a] (.long (fX0_nearest z a)) := by
  refine cV_of (by decide) (Nat.le_of_ble_eq_true rfl) ?_
  intro p e s m below meth c ls hx hb hr hlocks G hgf hpic hl
  have hl : lv_has ls 11 [(0, .ref o), (1, .long a)] := hl
  have hpic : va_at D.1 vwCl (o, .inr (0, flF z)) s.heap := hpic
  refine lv_lload_n hx hb dX0_nearest_0 rfl (lv_at hl 1 rfl) ?_
  refine lv_aload_n hx hb dX0_nearest_1 rfl (lv_at hl 0 rfl) ?_
  refine mw_get G hgf hpic rfl inX0 8 (by decide) qw1_190 rfl dX0_nearest_2 ?_
  refine mw_lge (tgt := 27) hx hb dX0_nearest_5 dX0_nearest_6 (by decide) (fun c_1 => ?_) (fun c_1 => ?_)
  · refine lv_aload_n hx hb dX0_nearest_27 rfl (lv_at hl 0 rfl) ?_
    refine lv_lload_n hx hb dX0_nearest_28 rfl (lv_at hl 1 rfl) ?_
    refine kV (C := RX0) G (cvX0_cut l D o z a) okX0_cut hgf hpic (mw_recv hgf hpic rfl) qw2_198 ⟨Nat.le_of_ble_eq_true rfl, Nat.le_of_ble_eq_true rfl⟩ ⟨Nat.zero_le _, Nat.zero_le _⟩ hl.1 (Nat.le_of_ble_eq_true rfl) rfl dX0_nearest_29 ?_
    refine lv_topl (fun x_2 e_2 => ?_)
    refine lv_lstore_n (lv' := [(3, .long x_2), (0, .ref o), (1, .long a)]) hx hb dX0_nearest_32 rfl hl (by decide) rfl (fun ls hl => ?_)
    refine lv_lload_n hx hb dX0_nearest_33 rfl (lv_at hl 0 rfl) ?_
    refine lv_lload_n hx hb dX0_nearest_34 rfl (lv_at hl 2 rfl) ?_
    refine mw_lne (tgt := 41) hx hb dX0_nearest_35 dX0_nearest_36 (by decide) (fun c_3 => ?_) (fun c_3 => ?_)
    · refine lv_aload_n hx hb dX0_nearest_41 rfl (lv_at hl 1 rfl) ?_
      refine lv_lload_n hx hb dX0_nearest_42 rfl (lv_at hl 2 rfl) ?_
      refine kV (C := RX0) G (cvX0_bitsBehindPoint l D o z a) okX0_bitsBehindPoint hgf hpic (mw_recv hgf hpic rfl) qw2_202 ⟨Nat.le_of_ble_eq_true rfl, Nat.le_of_ble_eq_true rfl⟩ ⟨Nat.zero_le _, Nat.zero_le _⟩ hl.1 (Nat.le_of_ble_eq_true rfl) rfl dX0_nearest_43 ?_
      refine lv_topi (fun x_4 e_4 => ?_)
      refine lv_istore (lv' := [(5, .int x_4), (3, .long x_2), (0, .ref o), (1, .long a)]) hx hb dX0_nearest_46 hl (by decide) rfl (fun ls hl => ?_)
      refine lv_lload_n hx hb dX0_nearest_48 rfl (lv_at hl 3 rfl) ?_
      refine lv_lload_n hx hb dX0_nearest_49 rfl (lv_at hl 1 rfl) ?_
      refine lv_lsub hx hb dX0_nearest_50 ?_
      refine lv_topl (fun x_5 e_5 => ?_)
      refine lv_lstore (lv' := [(6, .long x_5), (5, .int x_4), (3, .long x_2), (0, .ref o), (1, .long a)]) hx hb dX0_nearest_51 hl (by decide) rfl (fun ls hl => ?_)
      refine lv_lconst (v := 1) hx hb dX0_nearest_53 (by decide) ?_
      refine lv_iload hx hb dX0_nearest_54 (lv_at hl 1 rfl) ?_
      refine lv_iconst (v := 1) hx hb dX0_nearest_56 (by decide) ?_
      refine lv_isub hx hb dX0_nearest_57 ?_
      refine lv_lshl (v := jshl 1 (x_4 - 1)) hx hb dX0_nearest_58 rfl ?_
      refine lv_topl (fun x_6 e_6 => ?_)
      refine lv_lstore (lv' := [(8, .long x_6), (6, .long x_5), (5, .int x_4), (3, .long x_2), (0, .ref o), (1, .long a)]) hx hb dX0_nearest_59 hl (by decide) rfl (fun ls hl => ?_)
      refine lv_lload_n hx hb dX0_nearest_61 rfl (lv_at hl 3 rfl) ?_
      refine lv_iload hx hb dX0_nearest_62 (lv_at hl 2 rfl) ?_
      refine lv_lushr (v := jushr x_2 x_4) hx hb dX0_nearest_64 rfl ?_
      refine lv_lconst (v := 1) hx hb dX0_nearest_65 (by decide) ?_
      refine lv_land hx hb dX0_nearest_66 ?_
      refine lv_lconst (v := 1) hx hb dX0_nearest_67 (by decide) ?_
      refine mw_join 77 (.int (if ((jushr x_2 x_4) &&& 1) = 1 then 1 else 0 : Int32)) [] (fun K => ?_) ?_
      · refine mw_lne (tgt := 76) hx hb dX0_nearest_68 dX0_nearest_69 (by decide) (fun c_7 => ?_) (fun c_7 => ?_)
        · refine lv_iconst (v := 0) hx hb dX0_nearest_76 (by decide) ?_
          exact mw_topI ((if_neg c_7).trans (rfl)) K
        · refine lv_iconst (v := 1) hx hb dX0_nearest_72 (by decide) ?_
          refine lv_goto (tgt := 77) hx hb dX0_nearest_73 (by decide) ?_
          exact mw_topI ((if_pos c_7).trans (rfl)) K
      refine lv_topi (fun x_8 e_8 => ?_)
      refine lv_istore (lv' := [(10, .int x_8), (8, .long x_6), (6, .long x_5), (5, .int x_4), (3, .long x_2), (0, .ref o), (1, .long a)]) hx hb dX0_nearest_77 hl (by decide) rfl (fun ls hl => ?_)
      refine lv_lload hx hb dX0_nearest_79 (lv_at hl 2 rfl) ?_
      refine lv_lload hx hb dX0_nearest_81 (lv_at hl 1 rfl) ?_
      refine mw_lgt (tgt := 100) hx hb dX0_nearest_83 dX0_nearest_84 (by decide) (fun c_9 => ?_) (fun c_9 => ?_)
      · refine lv_aload_n hx hb dX0_nearest_100 rfl (lv_at hl 5 rfl) ?_
        refine lv_lload_n hx hb dX0_nearest_101 rfl (lv_at hl 4 rfl) ?_
        refine lv_lload_n hx hb dX0_nearest_102 rfl (lv_at hl 6 rfl) ?_
        refine kV (C := RX0) G (cvX0_nextWhole l D o z x_2 a) okX0_nextWhole hgf hpic (mw_recv hgf hpic rfl) qw2_213 ⟨Nat.le_of_ble_eq_true rfl, Nat.le_of_ble_eq_true rfl⟩ ⟨Nat.zero_le _, Nat.zero_le _⟩ hl.1 (Nat.le_of_ble_eq_true rfl) rfl dX0_nearest_103 ?_
        refine lv_goto (tgt := 110) hx hb dX0_nearest_106 (by decide) ?_
        exact mw_lret hx hb hr hlocks dX0_nearest_110 ((if_pos c_1).trans ((congrArg (fX0_nearest_s2 z a) e_2.symm).trans ((if_neg c_3).trans ((congrArg (fX0_nearest_s4 z a x_2) e_4.symm).trans ((congrArg (fX0_nearest_s5 z a x_2 x_4) e_5.symm).trans ((congrArg (fX0_nearest_s6 z a x_2 x_4 x_5) e_6.symm).trans ((congrArg (fX0_nearest_s8 z a x_2 x_4 x_5 x_6) e_8.symm).trans ((if_pos c_9).trans (rfl))))))))).symm
      · refine lv_lload hx hb dX0_nearest_87 (lv_at hl 2 rfl) ?_
        refine lv_lload hx hb dX0_nearest_89 (lv_at hl 1 rfl) ?_
        refine mw_lne (tgt := 109) hx hb dX0_nearest_91 dX0_nearest_92 (by decide) (fun c_10 => ?_) (fun c_10 => ?_)
        · refine lv_lload_n hx hb dX0_nearest_109 rfl (lv_at hl 4 rfl) ?_
          exact mw_lret hx hb hr hlocks dX0_nearest_110 ((if_pos c_1).trans ((congrArg (fX0_nearest_s2 z a) e_2.symm).trans ((if_neg c_3).trans ((congrArg (fX0_nearest_s4 z a x_2) e_4.symm).trans ((congrArg (fX0_nearest_s5 z a x_2 x_4) e_5.symm).trans ((congrArg (fX0_nearest_s6 z a x_2 x_4 x_5) e_6.symm).trans ((congrArg (fX0_nearest_s8 z a x_2 x_4 x_5 x_6) e_8.symm).trans ((if_neg c_9).trans ((if_neg c_10).trans (rfl)))))))))).symm
        · refine lv_iload hx hb dX0_nearest_95 (lv_at hl 0 rfl) ?_
          refine lv_if_eq (tgt := 109) hx hb dX0_nearest_97 (by decide) (fun c_11 => ?_) (fun c_11 => ?_)
          · refine lv_lload_n hx hb dX0_nearest_109 rfl (lv_at hl 4 rfl) ?_
            exact mw_lret hx hb hr hlocks dX0_nearest_110 ((if_pos c_1).trans ((congrArg (fX0_nearest_s2 z a) e_2.symm).trans ((if_neg c_3).trans ((congrArg (fX0_nearest_s4 z a x_2) e_4.symm).trans ((congrArg (fX0_nearest_s5 z a x_2 x_4) e_5.symm).trans ((congrArg (fX0_nearest_s6 z a x_2 x_4 x_5) e_6.symm).trans ((congrArg (fX0_nearest_s8 z a x_2 x_4 x_5 x_6) e_8.symm).trans ((if_neg c_9).trans ((if_pos c_10).trans ((if_pos c_11).trans (rfl))))))))))).symm
          · refine lv_aload_n hx hb dX0_nearest_100 rfl (lv_at hl 5 rfl) ?_
            refine lv_lload_n hx hb dX0_nearest_101 rfl (lv_at hl 4 rfl) ?_
            refine lv_lload_n hx hb dX0_nearest_102 rfl (lv_at hl 6 rfl) ?_
            refine kV (C := RX0) G (cvX0_nextWhole l D o z x_2 a) okX0_nextWhole hgf hpic (mw_recv hgf hpic rfl) qw2_213 ⟨Nat.le_of_ble_eq_true rfl, Nat.le_of_ble_eq_true rfl⟩ ⟨Nat.zero_le _, Nat.zero_le _⟩ hl.1 (Nat.le_of_ble_eq_true rfl) rfl dX0_nearest_103 ?_
            refine lv_goto (tgt := 110) hx hb dX0_nearest_106 (by decide) ?_
            exact mw_lret hx hb hr hlocks dX0_nearest_110 ((if_pos c_1).trans ((congrArg (fX0_nearest_s2 z a) e_2.symm).trans ((if_neg c_3).trans ((congrArg (fX0_nearest_s4 z a x_2) e_4.symm).trans ((congrArg (fX0_nearest_s5 z a x_2 x_4) e_5.symm).trans ((congrArg (fX0_nearest_s6 z a x_2 x_4 x_5) e_6.symm).trans ((congrArg (fX0_nearest_s8 z a x_2 x_4 x_5 x_6) e_8.symm).trans ((if_neg c_9).trans ((if_pos c_10).trans ((if_neg c_11).trans (rfl))))))))))).symm
    · refine lv_lload_n hx hb dX0_nearest_39 rfl (lv_at hl 2 rfl) ?_
      exact mw_lret hx hb hr hlocks dX0_nearest_40 ((if_pos c_1).trans ((congrArg (fX0_nearest_s2 z a) e_2.symm).trans ((if_pos c_3).trans (rfl)))).symm
  · refine lv_lload_n hx hb dX0_nearest_9 rfl (lv_at hl 1 rfl) ?_
    refine lv_aload_n hx hb dX0_nearest_10 rfl (lv_at hl 0 rfl) ?_
    refine mw_get G hgf hpic rfl inX0 9 (by decide) qw1_191 rfl dX0_nearest_11 ?_
    refine mw_lle (tgt := 25) hx hb dX0_nearest_14 dX0_nearest_15 (by decide) (fun c_12 => ?_) (fun c_12 => ?_)
    · refine lv_lconst (v := 0) hx hb dX0_nearest_25 (by decide) ?_
      exact mw_lret hx hb hr hlocks dX0_nearest_26 ((if_neg c_1).trans ((if_pos c_12).trans (rfl))).symm
    · refine lv_aload_n hx hb dX0_nearest_18 rfl (lv_at hl 0 rfl) ?_
      refine mw_get G hgf hpic rfl inX0 8 (by decide) qw1_190 rfl dX0_nearest_19 ?_
      refine lv_goto (tgt := 26) hx hb dX0_nearest_22 (by decide) ?_
      exact mw_lret hx hb hr hlocks dX0_nearest_26 ((if_neg c_1).trans ((if_neg c_12).trans (rfl))).symm
def fX0_furtherStepped_s1 (z : Bool) (kd : Int32) (v : Int64) (k : Int64) (x_1 : Int64) : Int64 := if kd = 3 then fX0_withSignOf z v (if 0 ≤ v then fX0_cut z x_1 else fX0_raised z x_1 : Int64) else (if kd = 4 then fX0_withSignOf z v (if 0 ≤ v then fX0_raised z x_1 else fX0_cut z x_1 : Int64) else (if kd = 5 then fX0_withSignOf z v (fX0_nearest z x_1) else (if kd = 6 then (if x_1 = 0 then v else fX0_withSignOf z v (fon z)) else (if kd = 7 then fX0_withSignOf z k x_1 else v))))
def fX0_furtherStepped (z : Bool) (kd : Int32) (v : Int64) (k : Int64) : Int64 := fX0_furtherStepped_s1 z kd v k (fX0_amount z v)
set_option maxRecDepth 100000 in
set_option maxHeartbeats 4000000 in
theorem cvX0_furtherStepped (l : Launch) (D : mG) (o : Nat) (z : Bool) (kd : Int32) (v : Int64) (k : Int64) : cV l D yX0_furtherStepped cX0_furtherStepped 8 .long 5 (fun H => va_at D.1 vwCl (o, .inr (0, flF z)) H) [.ref o, .int kd, .long v, .long k] (.long (fX0_furtherStepped z kd v k)) := by
  refine cV_of (by decide) (Nat.le_of_ble_eq_true rfl) ?_
  intro p e s m below meth c ls hx hb hr hlocks G hgf hpic hl
  have hl : lv_has ls 8 [(0, .ref o), (1, .int kd), (2, .long v), (4, .long k)] := hl
  have hpic : va_at D.1 vwCl (o, .inr (0, flF z)) s.heap := hpic
  refine lv_aload_n hx hb dX0_furtherStepped_0 rfl (lv_at hl 0 rfl) ?_
  refine lv_lload_n hx hb dX0_furtherStepped_1 rfl (lv_at hl 2 rfl) ?_
  refine kV (C := RX0) G (cvX0_amount l D o z v) okX0_amount hgf hpic (mw_recv hgf hpic rfl) qw2_85 ⟨Nat.le_of_ble_eq_true rfl, Nat.le_of_ble_eq_true rfl⟩ ⟨Nat.zero_le _, Nat.zero_le _⟩ hl.1 (Nat.le_of_ble_eq_true rfl) rfl dX0_furtherStepped_2 ?_
  refine lv_topl (fun x_1 e_1 => ?_)
  refine lv_lstore (lv' := [(6, .long x_1), (0, .ref o), (1, .int kd), (2, .long v), (4, .long k)]) hx hb dX0_furtherStepped_5 hl (by decide) rfl (fun ls hl => ?_)
  refine lv_iload_n hx hb dX0_furtherStepped_7 rfl (lv_at hl 2 rfl) ?_
  by_cases c_2 : kd = 3
  · refine lv_tableIn (off := 36) (tgt := 44) hx hb dX0_furtherStepped_8 (by rw [c_2]; decide) (by rw [c_2]; decide) (by rw [c_2]; rfl) (by decide) ?_
    refine lv_aload_n hx hb dX0_furtherStepped_44 rfl (lv_at hl 1 rfl) ?_
    refine lv_lload_n hx hb dX0_furtherStepped_45 rfl (lv_at hl 3 rfl) ?_
    refine lv_lload_n hx hb dX0_furtherStepped_46 rfl (lv_at hl 3 rfl) ?_
    refine lv_lconst (v := 0) hx hb dX0_furtherStepped_47 (by decide) ?_
    refine mw_join 67 (.long (if 0 ≤ v then fX0_cut z x_1 else fX0_raised z x_1 : Int64)) [.long v, .ref o] (fun K => ?_) ?_
    · refine mw_lge (tgt := 61) hx hb dX0_furtherStepped_48 dX0_furtherStepped_49 (by decide) (fun c_3 => ?_) (fun c_3 => ?_)
      · refine lv_aload_n hx hb dX0_furtherStepped_61 rfl (lv_at hl 1 rfl) ?_
        refine lv_lload hx hb dX0_furtherStepped_62 (lv_at hl 0 rfl) ?_
        refine kV (C := RX0) G (cvX0_cut l D o z x_1) okX0_cut hgf hpic (mw_recv hgf hpic rfl) qw2_198 ⟨Nat.le_of_ble_eq_true rfl, Nat.le_of_ble_eq_true rfl⟩ ⟨Nat.zero_le _, Nat.zero_le _⟩ hl.1 (Nat.le_of_ble_eq_true rfl) rfl dX0_furtherStepped_64 ?_
        exact mw_topL ((if_pos c_3).trans (rfl)) K
      · refine lv_aload_n hx hb dX0_furtherStepped_52 rfl (lv_at hl 1 rfl) ?_
        refine lv_lload hx hb dX0_furtherStepped_53 (lv_at hl 0 rfl) ?_
        refine kV (C := RX0) G (cvX0_raised l D o z x_1) okX0_raised hgf hpic (mw_recv hgf hpic rfl) qw2_194 ⟨Nat.le_of_ble_eq_true rfl, Nat.le_of_ble_eq_true rfl⟩ ⟨Nat.zero_le _, Nat.zero_le _⟩ hl.1 (Nat.le_of_ble_eq_true rfl) rfl dX0_furtherStepped_55 ?_
        refine lv_goto (tgt := 67) hx hb dX0_furtherStepped_58 (by decide) ?_
        exact mw_topL ((if_neg c_3).trans (rfl)) K
    refine kV (C := RX0) G (cvX0_withSignOf l D o z v (if 0 ≤ v then fX0_cut z x_1 else fX0_raised z x_1 : Int64)) okX0_withSignOf hgf hpic (mw_recv hgf hpic rfl) qw2_217 ⟨Nat.le_of_ble_eq_true rfl, Nat.le_of_ble_eq_true rfl⟩ ⟨Nat.zero_le _, Nat.zero_le _⟩ hl.1 (Nat.le_of_ble_eq_true rfl) rfl dX0_furtherStepped_67 ?_
    exact mw_lret hx hb hr hlocks dX0_furtherStepped_70 ((congrArg (fX0_furtherStepped_s1 z kd v k) e_1.symm).trans ((if_pos c_2).trans (rfl))).symm
  · by_cases c_4 : kd = 4
    · refine lv_tableIn (off := 63) (tgt := 71) hx hb dX0_furtherStepped_8 (by rw [c_4]; decide) (by rw [c_4]; decide) (by rw [c_4]; rfl) (by decide) ?_
      refine lv_aload_n hx hb dX0_furtherStepped_71 rfl (lv_at hl 1 rfl) ?_
      refine lv_lload_n hx hb dX0_furtherStepped_72 rfl (lv_at hl 3 rfl) ?_
      refine lv_lload_n hx hb dX0_furtherStepped_73 rfl (lv_at hl 3 rfl) ?_
      refine lv_lconst (v := 0) hx hb dX0_furtherStepped_74 (by decide) ?_
      refine mw_join 94 (.long (if 0 ≤ v then fX0_raised z x_1 else fX0_cut z x_1 : Int64)) [.long v, .ref o] (fun K => ?_) ?_
      · refine mw_lge (tgt := 88) hx hb dX0_furtherStepped_75 dX0_furtherStepped_76 (by decide) (fun c_5 => ?_) (fun c_5 => ?_)
        · refine lv_aload_n hx hb dX0_furtherStepped_88 rfl (lv_at hl 1 rfl) ?_
          refine lv_lload hx hb dX0_furtherStepped_89 (lv_at hl 0 rfl) ?_
          refine kV (C := RX0) G (cvX0_raised l D o z x_1) okX0_raised hgf hpic (mw_recv hgf hpic rfl) qw2_194 ⟨Nat.le_of_ble_eq_true rfl, Nat.le_of_ble_eq_true rfl⟩ ⟨Nat.zero_le _, Nat.zero_le _⟩ hl.1 (Nat.le_of_ble_eq_true rfl) rfl dX0_furtherStepped_91 ?_
          exact mw_topL ((if_pos c_5).trans (rfl)) K
        · refine lv_aload_n hx hb dX0_furtherStepped_79 rfl (lv_at hl 1 rfl) ?_
          refine lv_lload hx hb dX0_furtherStepped_80 (lv_at hl 0 rfl) ?_
          refine kV (C := RX0) G (cvX0_cut l D o z x_1) okX0_cut hgf hpic (mw_recv hgf hpic rfl) qw2_198 ⟨Nat.le_of_ble_eq_true rfl, Nat.le_of_ble_eq_true rfl⟩ ⟨Nat.zero_le _, Nat.zero_le _⟩ hl.1 (Nat.le_of_ble_eq_true rfl) rfl dX0_furtherStepped_82 ?_
          refine lv_goto (tgt := 94) hx hb dX0_furtherStepped_85 (by decide) ?_
          exact mw_topL ((if_neg c_5).trans (rfl)) K
      refine kV (C := RX0) G (cvX0_withSignOf l D o z v (if 0 ≤ v then fX0_raised z x_1 else fX0_cut z x_1 : Int64)) okX0_withSignOf hgf hpic (mw_recv hgf hpic rfl) qw2_217 ⟨Nat.le_of_ble_eq_true rfl, Nat.le_of_ble_eq_true rfl⟩ ⟨Nat.zero_le _, Nat.zero_le _⟩ hl.1 (Nat.le_of_ble_eq_true rfl) rfl dX0_furtherStepped_94 ?_
      exact mw_lret hx hb hr hlocks dX0_furtherStepped_97 ((congrArg (fX0_furtherStepped_s1 z kd v k) e_1.symm).trans ((if_neg c_2).trans ((if_pos c_4).trans (rfl)))).symm
    · by_cases c_6 : kd = 5
      · refine lv_tableIn (off := 90) (tgt := 98) hx hb dX0_furtherStepped_8 (by rw [c_6]; decide) (by rw [c_6]; decide) (by rw [c_6]; rfl) (by decide) ?_
        refine lv_aload_n hx hb dX0_furtherStepped_98 rfl (lv_at hl 1 rfl) ?_
        refine lv_lload_n hx hb dX0_furtherStepped_99 rfl (lv_at hl 3 rfl) ?_
        refine lv_aload_n hx hb dX0_furtherStepped_100 rfl (lv_at hl 1 rfl) ?_
        refine lv_lload hx hb dX0_furtherStepped_101 (lv_at hl 0 rfl) ?_
        refine kV (C := RX0) G (cvX0_nearest l D o z x_1) okX0_nearest hgf hpic (mw_recv hgf hpic rfl) qw2_221 ⟨Nat.le_of_ble_eq_true rfl, Nat.le_of_ble_eq_true rfl⟩ ⟨Nat.zero_le _, Nat.zero_le _⟩ hl.1 (Nat.le_of_ble_eq_true rfl) rfl dX0_furtherStepped_103 ?_
        refine kV (C := RX0) G (cvX0_withSignOf l D o z v (fX0_nearest z x_1)) okX0_withSignOf hgf hpic (mw_recv hgf hpic rfl) qw2_217 ⟨Nat.le_of_ble_eq_true rfl, Nat.le_of_ble_eq_true rfl⟩ ⟨Nat.zero_le _, Nat.zero_le _⟩ hl.1 (Nat.le_of_ble_eq_true rfl) rfl dX0_furtherStepped_106 ?_
        exact mw_lret hx hb hr hlocks dX0_furtherStepped_109 ((congrArg (fX0_furtherStepped_s1 z kd v k) e_1.symm).trans ((if_neg c_2).trans ((if_neg c_4).trans ((if_pos c_6).trans (rfl))))).symm
      · by_cases c_7 : kd = 6
        · refine lv_tableIn (off := 102) (tgt := 110) hx hb dX0_furtherStepped_8 (by rw [c_7]; decide) (by rw [c_7]; decide) (by rw [c_7]; rfl) (by decide) ?_
          refine lv_lload hx hb dX0_furtherStepped_110 (lv_at hl 0 rfl) ?_
          refine lv_lconst (v := 0) hx hb dX0_furtherStepped_112 (by decide) ?_
          refine mw_lne (tgt := 121) hx hb dX0_furtherStepped_113 dX0_furtherStepped_114 (by decide) (fun c_8 => ?_) (fun c_8 => ?_)
          · refine lv_aload_n hx hb dX0_furtherStepped_121 rfl (lv_at hl 1 rfl) ?_
            refine lv_lload_n hx hb dX0_furtherStepped_122 rfl (lv_at hl 3 rfl) ?_
            refine lv_aload_n hx hb dX0_furtherStepped_123 rfl (lv_at hl 1 rfl) ?_
            refine mw_get G hgf hpic rfl inX0 8 (by decide) qw1_190 rfl dX0_furtherStepped_124 ?_
            refine kV (C := RX0) G (cvX0_withSignOf l D o z v (fon z)) okX0_withSignOf hgf hpic (mw_recv hgf hpic rfl) qw2_217 ⟨Nat.le_of_ble_eq_true rfl, Nat.le_of_ble_eq_true rfl⟩ ⟨Nat.zero_le _, Nat.zero_le _⟩ hl.1 (Nat.le_of_ble_eq_true rfl) rfl dX0_furtherStepped_127 ?_
            exact mw_lret hx hb hr hlocks dX0_furtherStepped_130 ((congrArg (fX0_furtherStepped_s1 z kd v k) e_1.symm).trans ((if_neg c_2).trans ((if_neg c_4).trans ((if_neg c_6).trans ((if_pos c_7).trans ((if_neg c_8).trans (rfl))))))).symm
          · refine lv_lload_n hx hb dX0_furtherStepped_117 rfl (lv_at hl 3 rfl) ?_
            refine lv_goto (tgt := 130) hx hb dX0_furtherStepped_118 (by decide) ?_
            exact mw_lret hx hb hr hlocks dX0_furtherStepped_130 ((congrArg (fX0_furtherStepped_s1 z kd v k) e_1.symm).trans ((if_neg c_2).trans ((if_neg c_4).trans ((if_neg c_6).trans ((if_pos c_7).trans ((if_pos c_8).trans (rfl))))))).symm
        · by_cases c_9 : kd = 7
          · refine lv_tableIn (off := 123) (tgt := 131) hx hb dX0_furtherStepped_8 (by rw [c_9]; decide) (by rw [c_9]; decide) (by rw [c_9]; rfl) (by decide) ?_
            refine lv_aload_n hx hb dX0_furtherStepped_131 rfl (lv_at hl 1 rfl) ?_
            refine lv_lload hx hb dX0_furtherStepped_132 (lv_at hl 4 rfl) ?_
            refine lv_lload hx hb dX0_furtherStepped_134 (lv_at hl 0 rfl) ?_
            refine kV (C := RX0) G (cvX0_withSignOf l D o z k x_1) okX0_withSignOf hgf hpic (mw_recv hgf hpic rfl) qw2_217 ⟨Nat.le_of_ble_eq_true rfl, Nat.le_of_ble_eq_true rfl⟩ ⟨Nat.zero_le _, Nat.zero_le _⟩ hl.1 (Nat.le_of_ble_eq_true rfl) rfl dX0_furtherStepped_136 ?_
            exact mw_lret hx hb hr hlocks dX0_furtherStepped_139 ((congrArg (fX0_furtherStepped_s1 z kd v k) e_1.symm).trans ((if_neg c_2).trans ((if_neg c_4).trans ((if_neg c_6).trans ((if_neg c_7).trans ((if_pos c_9).trans (rfl))))))).symm
          · refine lv_tableOut (tgt := 140) hx hb dX0_furtherStepped_8 (by have qc_2 : kd.toInt ≠ 3 := mw_ne c_2; have qc_4 : kd.toInt ≠ 4 := mw_ne c_4; have qc_6 : kd.toInt ≠ 5 := mw_ne c_6; have qc_7 : kd.toInt ≠ 6 := mw_ne c_7; have qc_9 : kd.toInt ≠ 7 := mw_ne c_9; omega) (by decide) ?_
            refine lv_lload_n hx hb dX0_furtherStepped_140 rfl (lv_at hl 3 rfl) ?_
            exact mw_lret hx hb hr hlocks dX0_furtherStepped_141 ((congrArg (fX0_furtherStepped_s1 z kd v k) e_1.symm).trans ((if_neg c_2).trans ((if_neg c_4).trans ((if_neg c_6).trans ((if_neg c_7).trans ((if_neg c_9).trans (rfl))))))).symm
def fX0_toInt_s7 (z : Bool) (v : Int64) (x_1 : Int64) (x_3 : Int32) (x_5 : Int64) (x_7 : Int32) : Int32 := if 0 ≤ v then x_7 else -x_7
def fX0_toInt_s5 (z : Bool) (v : Int64) (x_1 : Int64) (x_3 : Int32) (x_5 : Int64) : Int32 := fX0_toInt_s7 z v x_1 x_3 x_5 ((if (ffb z) < x_3 then jshl x_5 (x_3 - (ffb z)) else jushr x_5 ((ffb z) - x_3) : Int64).toInt32)
def fX0_toInt_s3 (z : Bool) (v : Int64) (x_1 : Int64) (x_3 : Int32) : Int32 := if x_3 ≤ 30 then fX0_toInt_s5 z v x_1 x_3 ((fhi z) ||| (x_1 &&& ((fhi z) - 1))) else (if 0 ≤ v then 2147483647 else (-2147483648))
def fX0_toInt_s1 (z : Bool) (v : Int64) (x_1 : Int64) : Int32 := if (fon z) ≤ x_1 then fX0_toInt_s3 z v x_1 ((fX0_exponentOf z x_1) - (fbi z)) else 0
def fX0_toInt (z : Bool) (v : Int64) : Int32 := fX0_toInt_s1 z v (fX0_amount z v)
set_option maxRecDepth 100000 in
set_option maxHeartbeats 4000000 in
theorem cvX0_toInt (l : Launch) (D : mG) (o : Nat) (z : Bool) (v : Int64) : cV l D yX0_toInt cX0_toInt 9 .int 2 (fun H => va_at D.1 vwCl (o, .inr (0, flF z)) H) [.ref o, .long v] (.int (fX0_toInt z v)) := by
  refine cV_of (by decide) (Nat.le_of_ble_eq_true rfl) ?_
  intro p e s m below meth c ls hx hb hr hlocks G hgf hpic hl
  have hl : lv_has ls 9 [(0, .ref o), (1, .long v)] := hl
  have hpic : va_at D.1 vwCl (o, .inr (0, flF z)) s.heap := hpic
  refine lv_aload_n hx hb dX0_toInt_0 rfl (lv_at hl 0 rfl) ?_
  refine lv_lload_n hx hb dX0_toInt_1 rfl (lv_at hl 1 rfl) ?_
  refine kV (C := RX0) G (cvX0_amount l D o z v) okX0_amount hgf hpic (mw_recv hgf hpic rfl) qw2_85 ⟨Nat.le_of_ble_eq_true rfl, Nat.le_of_ble_eq_true rfl⟩ ⟨Nat.zero_le _, Nat.zero_le _⟩ hl.1 (Nat.le_of_ble_eq_true rfl) rfl dX0_toInt_2 ?_
  refine lv_topl (fun x_1 e_1 => ?_)
  refine lv_lstore_n (lv' := [(3, .long x_1), (0, .ref o), (1, .long v)]) hx hb dX0_toInt_5 rfl hl (by decide) rfl (fun ls hl => ?_)
  refine lv_lload_n hx hb dX0_toInt_6 rfl (lv_at hl 0 rfl) ?_
  refine lv_aload_n hx hb dX0_toInt_7 rfl (lv_at hl 1 rfl) ?_
  refine mw_get G hgf hpic rfl inX0 8 (by decide) qw1_190 rfl dX0_toInt_8 ?_
  refine mw_lge (tgt := 17) hx hb dX0_toInt_11 dX0_toInt_12 (by decide) (fun c_2 => ?_) (fun c_2 => ?_)
  · refine lv_aload_n hx hb dX0_toInt_17 rfl (lv_at hl 1 rfl) ?_
    refine lv_lload_n hx hb dX0_toInt_18 rfl (lv_at hl 0 rfl) ?_
    refine kV (C := RX0) G (cvX0_exponentOf l D o z x_1) okX0_exponentOf hgf hpic (mw_recv hgf hpic rfl) qw2_206 ⟨Nat.le_of_ble_eq_true rfl, Nat.le_of_ble_eq_true rfl⟩ ⟨Nat.zero_le _, Nat.zero_le _⟩ hl.1 (Nat.le_of_ble_eq_true rfl) rfl dX0_toInt_19 ?_
    refine lv_aload_n hx hb dX0_toInt_22 rfl (lv_at hl 1 rfl) ?_
    refine mw_get G hgf hpic rfl inX0 7 (by decide) qw1_189 rfl dX0_toInt_23 ?_
    refine lv_isub hx hb dX0_toInt_26 ?_
    refine lv_topi (fun x_3 e_3 => ?_)
    refine lv_istore (lv' := [(5, .int x_3), (3, .long x_1), (0, .ref o), (1, .long v)]) hx hb dX0_toInt_27 hl (by decide) rfl (fun ls hl => ?_)
    refine lv_iload hx hb dX0_toInt_29 (lv_at hl 0 rfl) ?_
    refine lv_bipush (v := 30) hx hb dX0_toInt_31 (by decide) ?_
    refine lv_icmp_le (tgt := 50) hx hb dX0_toInt_33 (by decide) (fun c_4 => ?_) (fun c_4 => ?_)
    · refine lv_aload_n hx hb dX0_toInt_50 rfl (lv_at hl 2 rfl) ?_
      refine mw_get G hgf hpic rfl inX0 10 (by decide) qw1_192 rfl dX0_toInt_51 ?_
      refine lv_lload_n hx hb dX0_toInt_54 rfl (lv_at hl 1 rfl) ?_
      refine lv_aload_n hx hb dX0_toInt_55 rfl (lv_at hl 2 rfl) ?_
      refine mw_get G hgf hpic rfl inX0 10 (by decide) qw1_192 rfl dX0_toInt_56 ?_
      refine lv_lconst (v := 1) hx hb dX0_toInt_59 (by decide) ?_
      refine lv_lsub hx hb dX0_toInt_60 ?_
      refine lv_land hx hb dX0_toInt_61 ?_
      refine lv_lor hx hb dX0_toInt_62 ?_
      refine lv_topl (fun x_5 e_5 => ?_)
      refine lv_lstore (lv' := [(6, .long x_5), (5, .int x_3), (3, .long x_1), (0, .ref o), (1, .long v)]) hx hb dX0_toInt_63 hl (by decide) rfl (fun ls hl => ?_)
      refine lv_iload hx hb dX0_toInt_65 (lv_at hl 1 rfl) ?_
      refine lv_aload_n hx hb dX0_toInt_67 rfl (lv_at hl 3 rfl) ?_
      refine mw_get G hgf hpic rfl inX0 4 (by decide) qw1_186 rfl dX0_toInt_68 ?_
      refine mw_join 97 (.long (if (ffb z) < x_3 then jshl x_5 (x_3 - (ffb z)) else jushr x_5 ((ffb z) - x_3) : Int64)) [] (fun K => ?_) ?_
      · refine lv_icmp_gt (tgt := 87) hx hb dX0_toInt_71 (by decide) (fun c_6 => ?_) (fun c_6 => ?_)
        · refine lv_lload hx hb dX0_toInt_87 (lv_at hl 0 rfl) ?_
          refine lv_iload hx hb dX0_toInt_89 (lv_at hl 1 rfl) ?_
          refine lv_aload_n hx hb dX0_toInt_91 rfl (lv_at hl 3 rfl) ?_
          refine mw_get G hgf hpic rfl inX0 4 (by decide) qw1_186 rfl dX0_toInt_92 ?_
          refine lv_isub hx hb dX0_toInt_95 ?_
          refine lv_lshl (v := jshl x_5 (x_3 - (ffb z))) hx hb dX0_toInt_96 rfl ?_
          exact mw_topL ((if_pos c_6).trans (rfl)) K
        · refine lv_lload hx hb dX0_toInt_74 (lv_at hl 0 rfl) ?_
          refine lv_aload_n hx hb dX0_toInt_76 rfl (lv_at hl 3 rfl) ?_
          refine mw_get G hgf hpic rfl inX0 4 (by decide) qw1_186 rfl dX0_toInt_77 ?_
          refine lv_iload hx hb dX0_toInt_80 (lv_at hl 1 rfl) ?_
          refine lv_isub hx hb dX0_toInt_82 ?_
          refine lv_lushr (v := jushr x_5 ((ffb z) - x_3)) hx hb dX0_toInt_83 rfl ?_
          refine lv_goto (tgt := 97) hx hb dX0_toInt_84 (by decide) ?_
          exact mw_topL ((if_neg c_6).trans (rfl)) K
      refine lv_l2i hx hb dX0_toInt_97 rfl ?_
      refine lv_topi (fun x_7 e_7 => ?_)
      refine lv_istore (lv' := [(8, .int x_7), (6, .long x_5), (5, .int x_3), (3, .long x_1), (0, .ref o), (1, .long v)]) hx hb dX0_toInt_98 hl (by decide) rfl (fun ls hl => ?_)
      refine lv_lload_n hx hb dX0_toInt_100 rfl (lv_at hl 5 rfl) ?_
      refine lv_lconst (v := 0) hx hb dX0_toInt_101 (by decide) ?_
      refine mw_lge (tgt := 112) hx hb dX0_toInt_102 dX0_toInt_103 (by decide) (fun c_8 => ?_) (fun c_8 => ?_)
      · refine lv_iload hx hb dX0_toInt_112 (lv_at hl 0 rfl) ?_
        exact mw_iret hx hb hr hlocks dX0_toInt_114 ((congrArg (fX0_toInt_s1 z v) e_1.symm).trans ((if_pos c_2).trans ((congrArg (fX0_toInt_s3 z v x_1) e_3.symm).trans ((if_pos c_4).trans ((congrArg (fX0_toInt_s5 z v x_1 x_3) e_5.symm).trans ((congrArg (fX0_toInt_s7 z v x_1 x_3 x_5) e_7.symm).trans ((if_pos c_8).trans (rfl)))))))).symm
      · refine lv_iload hx hb dX0_toInt_106 (lv_at hl 0 rfl) ?_
        refine lv_ineg hx hb dX0_toInt_108 ?_
        refine lv_goto (tgt := 114) hx hb dX0_toInt_109 (by decide) ?_
        exact mw_iret hx hb hr hlocks dX0_toInt_114 ((congrArg (fX0_toInt_s1 z v) e_1.symm).trans ((if_pos c_2).trans ((congrArg (fX0_toInt_s3 z v x_1) e_3.symm).trans ((if_pos c_4).trans ((congrArg (fX0_toInt_s5 z v x_1 x_3) e_5.symm).trans ((congrArg (fX0_toInt_s7 z v x_1 x_3 x_5) e_7.symm).trans ((if_neg c_8).trans (rfl)))))))).symm
    · refine lv_lload_n hx hb dX0_toInt_36 rfl (lv_at hl 3 rfl) ?_
      refine lv_lconst (v := 0) hx hb dX0_toInt_37 (by decide) ?_
      refine mw_lge (tgt := 47) hx hb dX0_toInt_38 dX0_toInt_39 (by decide) (fun c_9 => ?_) (fun c_9 => ?_)
      · refine lv_ldc (v := 2147483647) hx hb G.2.2.2.1 (G.2.2.2.2 _ qw3_111) dX0_toInt_47 ?_
        exact mw_iret hx hb hr hlocks dX0_toInt_49 ((congrArg (fX0_toInt_s1 z v) e_1.symm).trans ((if_pos c_2).trans ((congrArg (fX0_toInt_s3 z v x_1) e_3.symm).trans ((if_neg c_4).trans ((if_pos c_9).trans (rfl)))))).symm
      · refine lv_ldc (v := (-2147483648)) hx hb G.2.2.2.1 (G.2.2.2.2 _ qw3_110) dX0_toInt_42 ?_
        refine lv_goto (tgt := 49) hx hb dX0_toInt_44 (by decide) ?_
        exact mw_iret hx hb hr hlocks dX0_toInt_49 ((congrArg (fX0_toInt_s1 z v) e_1.symm).trans ((if_pos c_2).trans ((congrArg (fX0_toInt_s3 z v x_1) e_3.symm).trans ((if_neg c_4).trans ((if_neg c_9).trans (rfl)))))).symm
  · refine lv_iconst (v := 0) hx hb dX0_toInt_15 (by decide) ?_
    exact mw_iret hx hb hr hlocks dX0_toInt_16 ((congrArg (fX0_toInt_s1 z v) e_1.symm).trans ((if_neg c_2).trans (rfl))).symm
end
section
theorem mw_dec {x : Int32} (h : ¬ x ≤ 1) : (x + (-1)).toInt = x.toInt - 1 := by
  rw [Int32.le_iff_toInt_le] at h
  have h1 : (1 : Int32).toInt = 1 := by decide
  have h2 := Int32.toInt_lt x
  have h3 : (-1 : Int32).toInt = -1 := by decide
  rw [Int32.toInt_add, h3, Int.bmod_eq_of_le (by omega) (by omega)]
  omega
/-- the loop of minus: at most n turns -/
def fX0_norm (z : Bool) : Nat → Int64 → Int32 → Int64
  | 0, r, ex => fX0_rounded z r ex
  | n + 1, r, ex => if ex ≤ 1 then fX0_rounded z r ex else if (jshl (fhi z) 3) ≤ r then fX0_rounded z r ex else fX0_norm z n (jshl r 1) (ex + (-1))
theorem fX0_norm_s (z : Bool) (n : Nat) (r : Int64) (ex : Int32) : fX0_norm z (n + 1) r ex = if ex ≤ 1 then fX0_rounded z r ex else if (jshl (fhi z) 3) ≤ r then fX0_rounded z r ex else fX0_norm z n (jshl r 1) (ex + (-1)) := rfl
set_option maxRecDepth 100000 in
set_option maxHeartbeats 4000000 in
theorem lpX0_minus {p : Program} {l : Launch} {e : Env} {s : State} {m : MethodId} {args : Array Value} {below : List Frame} {meth : Method} {c : Code} {D : mG} {o : Nat} {z : Bool} {a b w : Int64} (hx : p.tables.exec = Jvm.exec) (hb : c.code = cX0_minus) (hr : meth.sig.returnType = some .long) (hlocks : meth.locks = false) (G : CallFix p m c cX0_minus 8 s args aw RX0) (hgf : GF D s) (hpic : va_at D.1 vwCl (o, .inr (0, flF z)) s.heap) :
    ∀ (n : Nat) (r : Int64) (ex : Int32) (ls : Array Slot), ex.toInt ≤ n + 1 → lv_has ls 8 [(6, .long r), (5, .int ex), (0, .ref o), (1, .long a), (3, .long b)] → fX0_norm z n r ex = w → W p l e (rmP 3) s m args below meth c s.heap [] 0 0 (MQ below (mS (.long w)) args s 0 0 (fun _ => False)) (F0 m 53 ls []) := by
  intro n
  induction n with
  | zero =>
    intro r ex ls hn hl hw
    refine lv_iload hx hb dX0_minus_53 (lv_at hl 1 rfl) ?_
    refine lv_iconst (v := 1) hx hb dX0_minus_55 (by decide) ?_
    refine lv_icmp_le (tgt := 83) hx hb dX0_minus_56 (by decide) (fun c_1 => ?_) (fun c_1 => absurd (by rw [Int32.le_iff_toInt_le]; exact hn) c_1)
    refine lv_aload_n hx hb dX0_minus_83 rfl (lv_at hl 2 rfl) ?_
    refine lv_lload hx hb dX0_minus_84 (lv_at hl 0 rfl) ?_
    refine lv_iload hx hb dX0_minus_86 (lv_at hl 1 rfl) ?_
    refine kV (C := RX0) G (cvX0_rounded l D o z r ex) okX0_rounded hgf hpic (mw_recv hgf hpic rfl) qw3_17 ⟨Nat.le_of_ble_eq_true rfl, Nat.le_of_ble_eq_true rfl⟩ ⟨Nat.zero_le _, Nat.zero_le _⟩ hl.1 (Nat.le_of_ble_eq_true rfl) rfl dX0_minus_88 ?_
    exact mw_lret hx hb hr hlocks dX0_minus_91 hw
  | succ n ih =>
    intro r ex ls hn hl hw
    refine lv_iload hx hb dX0_minus_53 (lv_at hl 1 rfl) ?_
    refine lv_iconst (v := 1) hx hb dX0_minus_55 (by decide) ?_
    refine lv_icmp_le (tgt := 83) hx hb dX0_minus_56 (by decide) (fun c_1 => ?_) (fun c_1 => ?_)
    · refine lv_aload_n hx hb dX0_minus_83 rfl (lv_at hl 2 rfl) ?_
      refine lv_lload hx hb dX0_minus_84 (lv_at hl 0 rfl) ?_
      refine lv_iload hx hb dX0_minus_86 (lv_at hl 1 rfl) ?_
      refine kV (C := RX0) G (cvX0_rounded l D o z r ex) okX0_rounded hgf hpic (mw_recv hgf hpic rfl) qw3_17 ⟨Nat.le_of_ble_eq_true rfl, Nat.le_of_ble_eq_true rfl⟩ ⟨Nat.zero_le _, Nat.zero_le _⟩ hl.1 (Nat.le_of_ble_eq_true rfl) rfl dX0_minus_88 ?_
      exact mw_lret hx hb hr hlocks dX0_minus_91 (((fX0_norm_s z n r ex).trans ((if_pos c_1).trans (rfl))).symm.trans hw)
    · refine lv_lload hx hb dX0_minus_59 (lv_at hl 0 rfl) ?_
      refine lv_aload_n hx hb dX0_minus_61 rfl (lv_at hl 2 rfl) ?_
      refine mw_get G hgf hpic rfl inX0 10 (by decide) qw1_192 rfl dX0_minus_62 ?_
      refine lv_iconst (v := 3) hx hb dX0_minus_65 (by decide) ?_
      refine lv_lshl (v := jshl (fhi z) 3) hx hb dX0_minus_66 rfl ?_
      refine mw_lge (tgt := 83) hx hb dX0_minus_67 dX0_minus_68 (by decide) (fun c_2 => ?_) (fun c_2 => ?_)
      · refine lv_aload_n hx hb dX0_minus_83 rfl (lv_at hl 2 rfl) ?_
        refine lv_lload hx hb dX0_minus_84 (lv_at hl 0 rfl) ?_
        refine lv_iload hx hb dX0_minus_86 (lv_at hl 1 rfl) ?_
        refine kV (C := RX0) G (cvX0_rounded l D o z r ex) okX0_rounded hgf hpic (mw_recv hgf hpic rfl) qw3_17 ⟨Nat.le_of_ble_eq_true rfl, Nat.le_of_ble_eq_true rfl⟩ ⟨Nat.zero_le _, Nat.zero_le _⟩ hl.1 (Nat.le_of_ble_eq_true rfl) rfl dX0_minus_88 ?_
        exact mw_lret hx hb hr hlocks dX0_minus_91 (((fX0_norm_s z n r ex).trans ((if_neg c_1).trans ((if_pos c_2).trans (rfl)))).symm.trans hw)
      · refine lv_lload hx hb dX0_minus_71 (lv_at hl 0 rfl) ?_
        refine lv_iconst (v := 1) hx hb dX0_minus_73 (by decide) ?_
        refine lv_lshl (v := jshl r 1) hx hb dX0_minus_74 rfl ?_
        refine lv_lstore (lv' := [(6, .long (jshl r 1)), (5, .int ex), (0, .ref o), (1, .long a), (3, .long b)]) hx hb dX0_minus_75 hl (by decide) rfl (fun ls hl => ?_)
        refine lv_iinc (v := ex + (-1)) (lv' := [(5, .int (ex + (-1))), (6, .long (jshl r 1)), (0, .ref o), (1, .long a), (3, .long b)]) hx hb dX0_minus_77 hl (k := 1) rfl rfl (by decide) rfl (fun ls hl => ?_)
        refine lv_goto (tgt := 53) hx hb dX0_minus_80 (by decide) ?_
        exact ih _ _ ls (by have q := mw_dec c_1; omega) (lv_sub hl [1, 0, 2, 3, 4] rfl) (((fX0_norm_s z n r ex).trans ((if_neg c_1).trans ((if_neg c_2).trans (rfl)))).symm.trans hw)
def fX0_minus_s4 (z : Bool) (a : Int64) (b : Int64) (x_3 : Int32) (x_4 : Int64) : Int64 := fX0_norm z (x_3).toNatClampNeg x_4 x_3
def fX0_minus_s3 (z : Bool) (a : Int64) (b : Int64) (x_3 : Int32) : Int64 := fX0_minus_s4 z a b x_3 ((fX0_significandOf z a) - (fX0_shiftedRight (fX0_significandOf z b) (x_3 - (fX0_exponentOf z b))))
def fX0_minus (z : Bool) (a : Int64) (b : Int64) : Int64 := if a = b then 0 else (if a = (finf z) then finf z else fX0_minus_s3 z a b (fX0_exponentOf z a))
set_option maxRecDepth 100000 in
set_option maxHeartbeats 4000000 in
theorem cvX0_minus (l : Launch) (D : mG) (o : Nat) (z : Bool) (a : Int64) (b : Int64) : cV l D yX0_minus cX0_minus 8 .long 3 (fun H => va_at D.1 vwCl (o, .inr (0, flF z)) H) [.ref o, .long a, .long b] (.long (fX0_minus z a b)) := by
  refine cV_of (by decide) (Nat.le_of_ble_eq_true rfl) ?_
  intro p e s m below meth c ls hx hb hr hlocks G hgf hpic hl
  have hl : lv_has ls 8 [(0, .ref o), (1, .long a), (3, .long b)] := hl
  have hpic : va_at D.1 vwCl (o, .inr (0, flF z)) s.heap := hpic
  refine lv_lload_n hx hb dX0_minus_0 rfl (lv_at hl 1 rfl) ?_
  refine lv_lload_n hx hb dX0_minus_1 rfl (lv_at hl 2 rfl) ?_
  refine mw_lne (tgt := 8) hx hb dX0_minus_2 dX0_minus_3 (by decide) (fun c_1 => ?_) (fun c_1 => ?_)
  · refine lv_lload_n hx hb dX0_minus_8 rfl (lv_at hl 1 rfl) ?_
    refine lv_aload_n hx hb dX0_minus_9 rfl (lv_at hl 0 rfl) ?_
    refine mw_get G hgf hpic rfl inX0 6 (by decide) qw1_188 rfl dX0_minus_10 ?_
    refine mw_lne (tgt := 22) hx hb dX0_minus_13 dX0_minus_14 (by decide) (fun c_2 => ?_) (fun c_2 => ?_)
    · refine lv_aload_n hx hb dX0_minus_22 rfl (lv_at hl 0 rfl) ?_
      refine lv_lload_n hx hb dX0_minus_23 rfl (lv_at hl 1 rfl) ?_
      refine kV (C := RX0) G (cvX0_exponentOf l D o z a) okX0_exponentOf hgf hpic (mw_recv hgf hpic rfl) qw2_206 ⟨Nat.le_of_ble_eq_true rfl, Nat.le_of_ble_eq_true rfl⟩ ⟨Nat.zero_le _, Nat.zero_le _⟩ hl.1 (Nat.le_of_ble_eq_true rfl) rfl dX0_minus_24 ?_
      refine lv_topi (fun x_3 e_3 => ?_)
      refine lv_istore (lv' := [(5, .int x_3), (0, .ref o), (1, .long a), (3, .long b)]) hx hb dX0_minus_27 hl (by decide) rfl (fun ls hl => ?_)
      refine lv_aload_n hx hb dX0_minus_29 rfl (lv_at hl 1 rfl) ?_
      refine lv_lload_n hx hb dX0_minus_30 rfl (lv_at hl 2 rfl) ?_
      refine kV (C := RX0) G (cvX0_significandOf l D o z a) okX0_significandOf hgf hpic (mw_recv hgf hpic rfl) qw3_7 ⟨Nat.le_of_ble_eq_true rfl, Nat.le_of_ble_eq_true rfl⟩ ⟨Nat.zero_le _, Nat.zero_le _⟩ hl.1 (Nat.le_of_ble_eq_true rfl) rfl dX0_minus_31 ?_
      refine lv_aload_n hx hb dX0_minus_34 rfl (lv_at hl 1 rfl) ?_
      refine lv_lload_n hx hb dX0_minus_35 rfl (lv_at hl 3 rfl) ?_
      refine kV (C := RX0) G (cvX0_significandOf l D o z b) okX0_significandOf hgf hpic (mw_recv hgf hpic rfl) qw3_7 ⟨Nat.le_of_ble_eq_true rfl, Nat.le_of_ble_eq_true rfl⟩ ⟨Nat.zero_le _, Nat.zero_le _⟩ hl.1 (Nat.le_of_ble_eq_true rfl) rfl dX0_minus_36 ?_
      refine lv_iload hx hb dX0_minus_39 (lv_at hl 0 rfl) ?_
      refine lv_aload_n hx hb dX0_minus_41 rfl (lv_at hl 1 rfl) ?_
      refine lv_lload_n hx hb dX0_minus_42 rfl (lv_at hl 3 rfl) ?_
      refine kV (C := RX0) G (cvX0_exponentOf l D o z b) okX0_exponentOf hgf hpic (mw_recv hgf hpic rfl) qw2_206 ⟨Nat.le_of_ble_eq_true rfl, Nat.le_of_ble_eq_true rfl⟩ ⟨Nat.zero_le _, Nat.zero_le _⟩ hl.1 (Nat.le_of_ble_eq_true rfl) rfl dX0_minus_43 ?_
      refine lv_isub hx hb dX0_minus_46 ?_
      refine kS G (cvX0_shiftedRight l D (fX0_significandOf z b) (x_3 - (fX0_exponentOf z b))) okX0_shiftedRight hgf trivial qw3_11 ⟨Nat.le_of_ble_eq_true rfl, Nat.le_of_ble_eq_true rfl⟩ ⟨Nat.zero_le _, Nat.zero_le _⟩ hl.1 (Nat.le_of_ble_eq_true rfl) rfl dX0_minus_47 ?_
      refine lv_lsub hx hb dX0_minus_50 ?_
      refine lv_topl (fun x_4 e_4 => ?_)
      refine lv_lstore (lv' := [(6, .long x_4), (5, .int x_3), (0, .ref o), (1, .long a), (3, .long b)]) hx hb dX0_minus_51 hl (by decide) rfl (fun ls hl => ?_)
      exact lpX0_minus hx hb hr hlocks G hgf hpic (x_3).toNatClampNeg x_4 x_3 ls (by rw [Int32.toNatClampNeg]; omega) (lv_sub hl [0, 1, 2, 3, 4] rfl) ((if_neg c_1).trans ((if_neg c_2).trans ((congrArg (fX0_minus_s3 z a b) e_3.symm).trans ((congrArg (fX0_minus_s4 z a b x_3) e_4.symm).trans (rfl))))).symm
    · refine lv_aload_n hx hb dX0_minus_17 rfl (lv_at hl 0 rfl) ?_
      refine mw_get G hgf hpic rfl inX0 6 (by decide) qw1_188 rfl dX0_minus_18 ?_
      exact mw_lret hx hb hr hlocks dX0_minus_21 ((if_neg c_1).trans ((if_pos c_2).trans (rfl))).symm
  · refine lv_lconst (v := 0) hx hb dX0_minus_6 (by decide) ?_
    exact mw_lret hx hb hr hlocks dX0_minus_7 ((if_pos c_1).trans (rfl)).symm
def fX0_apart_s2 (z : Bool) (a : Int64) (b : Int64) (x_1 : Int64) (x_2 : Int64) : Int64 := if (if 0 ≤ a then 0 else 1 : Int32) = (if 0 ≤ b then 0 else 1 : Int32) then fX0_minus z (if x_2 < x_1 then x_1 else x_2) (if x_2 < x_1 then x_2 else x_1) else fX0_plus z x_1 x_2
def fX0_apart_s1 (z : Bool) (a : Int64) (b : Int64) (x_1 : Int64) : Int64 := fX0_apart_s2 z a b x_1 (fX0_amount z b)
def fX0_apart (z : Bool) (a : Int64) (b : Int64) : Int64 := fX0_apart_s1 z a b (fX0_amount z a)
set_option maxRecDepth 100000 in
set_option maxHeartbeats 4000000 in
theorem cvX0_apart (l : Launch) (D : mG) (o : Nat) (z : Bool) (a : Int64) (b : Int64) : cV l D yX0_apart cX0_apart 9 .long 4 (fun H => va_at D.1 vwCl (o, .inr (0, flF z)) H) [.ref o, .long a, .long b] (.long (fX0_apart z a b)) := by
  refine cV_of (by decide) (Nat.le_of_ble_eq_true rfl) ?_
  intro p e s m below meth c ls hx hb hr hlocks G hgf hpic hl
  have hl : lv_has ls 9 [(0, .ref o), (1, .long a), (3, .long b)] := hl
  have hpic : va_at D.1 vwCl (o, .inr (0, flF z)) s.heap := hpic
  refine lv_aload_n hx hb dX0_apart_0 rfl (lv_at hl 0 rfl) ?_
  refine lv_lload_n hx hb dX0_apart_1 rfl (lv_at hl 1 rfl) ?_
  refine kV (C := RX0) G (cvX0_amount l D o z a) okX0_amount hgf hpic (mw_recv hgf hpic rfl) qw2_85 ⟨Nat.le_of_ble_eq_true rfl, Nat.le_of_ble_eq_true rfl⟩ ⟨Nat.zero_le _, Nat.zero_le _⟩ hl.1 (Nat.le_of_ble_eq_true rfl) rfl dX0_apart_2 ?_
  refine lv_topl (fun x_1 e_1 => ?_)
  refine lv_lstore (lv' := [(5, .long x_1), (0, .ref o), (1, .long a), (3, .long b)]) hx hb dX0_apart_5 hl (by decide) rfl (fun ls hl => ?_)
  refine lv_aload_n hx hb dX0_apart_7 rfl (lv_at hl 1 rfl) ?_
  refine lv_lload_n hx hb dX0_apart_8 rfl (lv_at hl 3 rfl) ?_
  refine kV (C := RX0) G (cvX0_amount l D o z b) okX0_amount hgf hpic (mw_recv hgf hpic rfl) qw2_85 ⟨Nat.le_of_ble_eq_true rfl, Nat.le_of_ble_eq_true rfl⟩ ⟨Nat.zero_le _, Nat.zero_le _⟩ hl.1 (Nat.le_of_ble_eq_true rfl) rfl dX0_apart_9 ?_
  refine lv_topl (fun x_2 e_2 => ?_)
  refine lv_lstore (lv' := [(7, .long x_2), (5, .long x_1), (0, .ref o), (1, .long a), (3, .long b)]) hx hb dX0_apart_12 hl (by decide) rfl (fun ls hl => ?_)
  refine lv_lload_n hx hb dX0_apart_14 rfl (lv_at hl 3 rfl) ?_
  refine lv_lconst (v := 0) hx hb dX0_apart_15 (by decide) ?_
  refine mw_join 25 (.int (if 0 ≤ a then 0 else 1 : Int32)) [] (fun K => ?_) ?_
  · refine mw_lge (tgt := 24) hx hb dX0_apart_16 dX0_apart_17 (by decide) (fun c_3 => ?_) (fun c_3 => ?_)
    · refine lv_iconst (v := 0) hx hb dX0_apart_24 (by decide) ?_
      exact mw_topI ((if_pos c_3).trans (rfl)) K
    · refine lv_iconst (v := 1) hx hb dX0_apart_20 (by decide) ?_
      refine lv_goto (tgt := 25) hx hb dX0_apart_21 (by decide) ?_
      exact mw_topI ((if_neg c_3).trans (rfl)) K
  refine lv_lload_n hx hb dX0_apart_25 rfl (lv_at hl 4 rfl) ?_
  refine lv_lconst (v := 0) hx hb dX0_apart_26 (by decide) ?_
  refine mw_join 36 (.int (if 0 ≤ b then 0 else 1 : Int32)) [.int (if 0 ≤ a then 0 else 1 : Int32)] (fun K => ?_) ?_
  · refine mw_lge (tgt := 35) hx hb dX0_apart_27 dX0_apart_28 (by decide) (fun c_4 => ?_) (fun c_4 => ?_)
    · refine lv_iconst (v := 0) hx hb dX0_apart_35 (by decide) ?_
      exact mw_topI ((if_pos c_4).trans (rfl)) K
    · refine lv_iconst (v := 1) hx hb dX0_apart_31 (by decide) ?_
      refine lv_goto (tgt := 36) hx hb dX0_apart_32 (by decide) ?_
      exact mw_topI ((if_neg c_4).trans (rfl)) K
  refine lv_icmp_eq (tgt := 48) hx hb dX0_apart_36 (by decide) (fun c_5 => ?_) (fun c_5 => ?_)
  · refine lv_aload_n hx hb dX0_apart_48 rfl (lv_at hl 2 rfl) ?_
    refine lv_lload hx hb dX0_apart_49 (lv_at hl 1 rfl) ?_
    refine lv_lload hx hb dX0_apart_51 (lv_at hl 0 rfl) ?_
    refine va_mmax_long hx hb (by rw [G.2.2.1]; exact hl.1.symm) G.2.2.2.1 (G.2.2.2.2 _ qw2_210) (G.2.2.2.2 _ qw2_211) (G.2.2.2.2 _ qw1_14) (G.2.2.2.2 _ qw2_212) (Nat.le_of_ble_eq_true rfl) (Nat.le_of_ble_eq_true rfl) (Nat.zero_le _) (Nat.zero_le _) dX0_apart_53 ?_
    refine lv_lload hx hb dX0_apart_56 (lv_at hl 1 rfl) ?_
    refine lv_lload hx hb dX0_apart_58 (lv_at hl 0 rfl) ?_
    refine va_mmin_long hx hb (by rw [G.2.2.1]; exact hl.1.symm) G.2.2.2.1 (G.2.2.2.2 _ qw3_4) (G.2.2.2.2 _ qw3_5) (G.2.2.2.2 _ qw1_14) (G.2.2.2.2 _ qw3_6) (Nat.le_of_ble_eq_true rfl) (Nat.le_of_ble_eq_true rfl) (Nat.zero_le _) (Nat.zero_le _) dX0_apart_60 ?_
    refine kV (C := RX0) G (cvX0_minus l D o z (if x_2 < x_1 then x_1 else x_2) (if x_2 < x_1 then x_2 else x_1)) okX0_minus hgf hpic (mw_recv hgf hpic rfl) qw3_23 ⟨Nat.le_of_ble_eq_true rfl, Nat.le_of_ble_eq_true rfl⟩ ⟨Nat.zero_le _, Nat.zero_le _⟩ hl.1 (Nat.le_of_ble_eq_true rfl) rfl dX0_apart_63 ?_
    exact mw_lret hx hb hr hlocks dX0_apart_66 ((congrArg (fX0_apart_s1 z a b) e_1.symm).trans ((congrArg (fX0_apart_s2 z a b x_1) e_2.symm).trans ((if_pos c_5).trans (rfl)))).symm
  · refine lv_aload_n hx hb dX0_apart_39 rfl (lv_at hl 2 rfl) ?_
    refine lv_lload hx hb dX0_apart_40 (lv_at hl 1 rfl) ?_
    refine lv_lload hx hb dX0_apart_42 (lv_at hl 0 rfl) ?_
    refine kV (C := RX0) G (cvX0_plus l D o z x_1 x_2) okX0_plus hgf hpic (mw_recv hgf hpic rfl) qw3_0 ⟨Nat.le_of_ble_eq_true rfl, Nat.le_of_ble_eq_true rfl⟩ ⟨Nat.zero_le _, Nat.zero_le _⟩ hl.1 (Nat.le_of_ble_eq_true rfl) rfl dX0_apart_44 ?_
    exact mw_lret hx hb hr hlocks dX0_apart_47 ((congrArg (fX0_apart_s1 z a b) e_1.symm).trans ((congrArg (fX0_apart_s2 z a b x_1) e_2.symm).trans ((if_neg c_5).trans (rfl)))).symm
end
section
def fX2_ofWidth_w (z : Bool) (bits : Int64) : Int64 := if (fwd z) = 32 then bits.toInt32.toInt64 else bits
set_option maxRecDepth 100000 in
set_option maxHeartbeats 4000000 in
theorem cvX2_ofWidth_w (l : Launch) (D : mG) (o : Nat) (z : Bool) (bits : Int64) : cV l D yX2_ofWidth cX2_ofWidth 3 .long 0 (fun H => va_at D.1 vwCl (o, .inr (2, wrF z)) H) [.ref o, .long bits] (.long (fX2_ofWidth_w z bits)) := by
  refine cV_of (by decide) (Nat.le_of_ble_eq_true rfl) ?_
  intro p e s m below meth c ls hx hb hr hlocks G hgf hpic hl
  have hl : lv_has ls 3 [(0, .ref o), (1, .long bits)] := hl
  have hpic : va_at D.1 vwCl (o, .inr (2, wrF z)) s.heap := hpic
  refine lv_aload_n hx hb dX2_ofWidth_0 rfl (lv_at hl 0 rfl) ?_
  refine mw_get G hgf hpic rfl inX3 2 (by decide) qw1_165 rfl dX2_ofWidth_1 ?_
  refine lv_bipush (v := 32) hx hb dX2_ofWidth_4 (by decide) ?_
  refine lv_icmp_ne (tgt := 15) hx hb dX2_ofWidth_6 (by decide) (fun c_1 => ?_) (fun c_1 => ?_)
  · refine lv_lload_n hx hb dX2_ofWidth_15 rfl (lv_at hl 1 rfl) ?_
    exact mw_lret hx hb hr hlocks dX2_ofWidth_16 ((if_neg c_1).trans (rfl)).symm
  · refine lv_lload_n hx hb dX2_ofWidth_9 rfl (lv_at hl 1 rfl) ?_
    refine lv_l2i hx hb dX2_ofWidth_10 rfl ?_
    refine lv_i2l hx hb dX2_ofWidth_11 rfl ?_
    refine lv_goto (tgt := 16) hx hb dX2_ofWidth_12 (by decide) ?_
    exact mw_lret hx hb hr hlocks dX2_ofWidth_16 ((if_pos c_1).trans (rfl)).symm
def fX3_isNumber (z : Bool) (v : Int64) : Int32 := 1
set_option maxRecDepth 100000 in
set_option maxHeartbeats 4000000 in
theorem cvX3_isNumber (l : Launch) (D : mG) (o : Nat) (z : Bool) (v : Int64) : cV l D yX3_isNumber cX3_isNumber 3 .boolean 0 (fun H => va_at D.1 vwCl (o, .inr (2, wrF z)) H) [.ref o, .long v] (.int (fX3_isNumber z v)) := by
  refine cV_of (by decide) (Nat.le_of_ble_eq_true rfl) ?_
  intro p e s m below meth c ls hx hb hr hlocks G hgf hpic hl
  have hl : lv_has ls 3 [(0, .ref o), (1, .long v)] := hl
  have hpic : va_at D.1 vwCl (o, .inr (2, wrF z)) s.heap := hpic
  refine lv_iconst (v := 1) hx hb dX3_isNumber_0 (by decide) ?_
  exact mw_zret hx hb hr hlocks dX3_isNumber_1 (Or.inr rfl) (rfl).symm
def fX3_amount (z : Bool) (v : Int64) : Int64 := if 0 ≤ v then v else fX2_ofWidth_w z (-v)
set_option maxRecDepth 100000 in
set_option maxHeartbeats 4000000 in
theorem cvX3_amount (l : Launch) (D : mG) (o : Nat) (z : Bool) (v : Int64) : cV l D yX3_amount cX3_amount 3 .long 1 (fun H => va_at D.1 vwCl (o, .inr (2, wrF z)) H) [.ref o, .long v] (.long (fX3_amount z v)) := by
  refine cV_of (by decide) (Nat.le_of_ble_eq_true rfl) ?_
  intro p e s m below meth c ls hx hb hr hlocks G hgf hpic hl
  have hl : lv_has ls 3 [(0, .ref o), (1, .long v)] := hl
  have hpic : va_at D.1 vwCl (o, .inr (2, wrF z)) s.heap := hpic
  refine lv_lload_n hx hb dX3_amount_0 rfl (lv_at hl 1 rfl) ?_
  refine lv_lconst (v := 0) hx hb dX3_amount_1 (by decide) ?_
  refine mw_lge (tgt := 15) hx hb dX3_amount_2 dX3_amount_3 (by decide) (fun c_1 => ?_) (fun c_1 => ?_)
  · refine lv_lload_n hx hb dX3_amount_15 rfl (lv_at hl 1 rfl) ?_
    exact mw_lret hx hb hr hlocks dX3_amount_16 ((if_pos c_1).trans (rfl)).symm
  · refine lv_aload_n hx hb dX3_amount_6 rfl (lv_at hl 0 rfl) ?_
    refine lv_lload_n hx hb dX3_amount_7 rfl (lv_at hl 1 rfl) ?_
    refine lv_lneg hx hb dX3_amount_8 ?_
    refine kU (C := RX3) G (cvX2_ofWidth_w l D o z (-v)) ou_X3_X3_X2_ofWidth hgf hpic (mw_recv hgf hpic rfl) qw2_163 ⟨Nat.le_of_ble_eq_true rfl, Nat.le_of_ble_eq_true rfl⟩ ⟨Nat.zero_le _, Nat.zero_le _⟩ hl.1 (Nat.le_of_ble_eq_true rfl) rfl dX3_amount_9 ?_
    refine lv_goto (tgt := 16) hx hb dX3_amount_12 (by decide) ?_
    exact mw_lret hx hb hr hlocks dX3_amount_16 ((if_neg c_1).trans (rfl)).symm
def fX3_plus (z : Bool) (a : Int64) (b : Int64) : Int64 := fX2_ofWidth_w z (a + b)
set_option maxRecDepth 100000 in
set_option maxHeartbeats 4000000 in
theorem cvX3_plus (l : Launch) (D : mG) (o : Nat) (z : Bool) (a : Int64) (b : Int64) : cV l D yX3_plus cX3_plus 5 .long 1 (fun H => va_at D.1 vwCl (o, .inr (2, wrF z)) H) [.ref o, .long a, .long b] (.long (fX3_plus z a b)) := by
  refine cV_of (by decide) (Nat.le_of_ble_eq_true rfl) ?_
  intro p e s m below meth c ls hx hb hr hlocks G hgf hpic hl
  have hl : lv_has ls 5 [(0, .ref o), (1, .long a), (3, .long b)] := hl
  have hpic : va_at D.1 vwCl (o, .inr (2, wrF z)) s.heap := hpic
  refine lv_aload_n hx hb dX3_plus_0 rfl (lv_at hl 0 rfl) ?_
  refine lv_lload_n hx hb dX3_plus_1 rfl (lv_at hl 1 rfl) ?_
  refine lv_lload_n hx hb dX3_plus_2 rfl (lv_at hl 2 rfl) ?_
  refine lv_ladd hx hb dX3_plus_3 ?_
  refine kU (C := RX3) G (cvX2_ofWidth_w l D o z (a + b)) ou_X3_X3_X2_ofWidth hgf hpic (mw_recv hgf hpic rfl) qw2_163 ⟨Nat.le_of_ble_eq_true rfl, Nat.le_of_ble_eq_true rfl⟩ ⟨Nat.zero_le _, Nat.zero_le _⟩ hl.1 (Nat.le_of_ble_eq_true rfl) rfl dX3_plus_4 ?_
  exact mw_lret hx hb hr hlocks dX3_plus_7 (rfl).symm
def fX3_apart (z : Bool) (a : Int64) (b : Int64) : Int64 := fX3_amount z (fX2_ofWidth_w z (a - b))
set_option maxRecDepth 100000 in
set_option maxHeartbeats 4000000 in
theorem cvX3_apart (l : Launch) (D : mG) (o : Nat) (z : Bool) (a : Int64) (b : Int64) : cV l D yX3_apart cX3_apart 5 .long 2 (fun H => va_at D.1 vwCl (o, .inr (2, wrF z)) H) [.ref o, .long a, .long b] (.long (fX3_apart z a b)) := by
  refine cV_of (by decide) (Nat.le_of_ble_eq_true rfl) ?_
  intro p e s m below meth c ls hx hb hr hlocks G hgf hpic hl
  have hl : lv_has ls 5 [(0, .ref o), (1, .long a), (3, .long b)] := hl
  have hpic : va_at D.1 vwCl (o, .inr (2, wrF z)) s.heap := hpic
  refine lv_aload_n hx hb dX3_apart_0 rfl (lv_at hl 0 rfl) ?_
  refine lv_aload_n hx hb dX3_apart_1 rfl (lv_at hl 0 rfl) ?_
  refine lv_lload_n hx hb dX3_apart_2 rfl (lv_at hl 1 rfl) ?_
  refine lv_lload_n hx hb dX3_apart_3 rfl (lv_at hl 2 rfl) ?_
  refine lv_lsub hx hb dX3_apart_4 ?_
  refine kU (C := RX3) G (cvX2_ofWidth_w l D o z (a - b)) ou_X3_X3_X2_ofWidth hgf hpic (mw_recv hgf hpic rfl) qw2_163 ⟨Nat.le_of_ble_eq_true rfl, Nat.le_of_ble_eq_true rfl⟩ ⟨Nat.zero_le _, Nat.zero_le _⟩ hl.1 (Nat.le_of_ble_eq_true rfl) rfl dX3_apart_5 ?_
  refine kV (C := RX3) G (cvX3_amount l D o z (fX2_ofWidth_w z (a - b))) okX3_amount hgf hpic (mw_recv hgf hpic rfl) qw3_30 ⟨Nat.le_of_ble_eq_true rfl, Nat.le_of_ble_eq_true rfl⟩ ⟨Nat.zero_le _, Nat.zero_le _⟩ hl.1 (Nat.le_of_ble_eq_true rfl) rfl dX3_apart_8 ?_
  exact mw_lret hx hb hr hlocks dX3_apart_11 (rfl).symm
def fX3_toInt (z : Bool) (v : Int64) : Int32 := (if (if v < 2147483647 then v else 2147483647) < (-2147483648) then (-2147483648) else (if v < 2147483647 then v else 2147483647)).toInt32
set_option maxRecDepth 100000 in
set_option maxHeartbeats 4000000 in
theorem cvX3_toInt (l : Launch) (D : mG) (o : Nat) (z : Bool) (v : Int64) : cV l D yX3_toInt cX3_toInt 3 .int 1 (fun H => va_at D.1 vwCl (o, .inr (2, wrF z)) H) [.ref o, .long v] (.int (fX3_toInt z v)) := by
  refine cV_of (by decide) (Nat.le_of_ble_eq_true rfl) ?_
  intro p e s m below meth c ls hx hb hr hlocks G hgf hpic hl
  have hl : lv_has ls 3 [(0, .ref o), (1, .long v)] := hl
  have hpic : va_at D.1 vwCl (o, .inr (2, wrF z)) s.heap := hpic
  refine lv_ldc2 (v := (-2147483648)) hx hb G.2.2.2.1 (G.2.2.2.2 _ qw3_115) dX3_toInt_0 ?_
  refine lv_ldc2 (v := 2147483647) hx hb G.2.2.2.1 (G.2.2.2.2 _ qw3_116) dX3_toInt_3 ?_
  refine lv_lload_n hx hb dX3_toInt_6 rfl (lv_at hl 1 rfl) ?_
  refine va_mmin_long hx hb (by rw [G.2.2.1]; exact hl.1.symm) G.2.2.2.1 (G.2.2.2.2 _ qw3_117) (G.2.2.2.2 _ qw3_5) (G.2.2.2.2 _ qw1_14) (G.2.2.2.2 _ qw3_6) (Nat.le_of_ble_eq_true rfl) (Nat.le_of_ble_eq_true rfl) (Nat.zero_le _) (Nat.zero_le _) dX3_toInt_7 ?_
  refine va_mmax_long hx hb (by rw [G.2.2.1]; exact hl.1.symm) G.2.2.2.1 (G.2.2.2.2 _ qw3_118) (G.2.2.2.2 _ qw2_211) (G.2.2.2.2 _ qw1_14) (G.2.2.2.2 _ qw2_212) (Nat.le_of_ble_eq_true rfl) (Nat.le_of_ble_eq_true rfl) (Nat.zero_le _) (Nat.zero_le _) dX3_toInt_10 ?_
  refine lv_l2i hx hb dX3_toInt_13 rfl ?_
  exact mw_iret hx hb hr hlocks dX3_toInt_14 (rfl).symm
def fX3_rank (z : Bool) (v : Int64) : Int64 := v
set_option maxRecDepth 100000 in
set_option maxHeartbeats 4000000 in
theorem cvX3_rank (l : Launch) (D : mG) (o : Nat) (z : Bool) (v : Int64) : cV l D yX3_rank cX3_rank 3 .long 0 (fun H => va_at D.1 vwCl (o, .inr (2, wrF z)) H) [.ref o, .long v] (.long (fX3_rank z v)) := by
  refine cV_of (by decide) (Nat.le_of_ble_eq_true rfl) ?_
  intro p e s m below meth c ls hx hb hr hlocks G hgf hpic hl
  have hl : lv_has ls 3 [(0, .ref o), (1, .long v)] := hl
  have hpic : va_at D.1 vwCl (o, .inr (2, wrF z)) s.heap := hpic
  refine lv_lload_n hx hb dX3_rank_0 rfl (lv_at hl 1 rfl) ?_
  exact mw_lret hx hb hr hlocks dX3_rank_1 (rfl).symm
def fX3_level (z : Bool) (v : Int64) : Int64 := v
set_option maxRecDepth 100000 in
set_option maxHeartbeats 4000000 in
theorem cvX3_level (l : Launch) (D : mG) (o : Nat) (z : Bool) (v : Int64) : cV l D yX3_level cX3_level 3 .long 0 (fun H => va_at D.1 vwCl (o, .inr (2, wrF z)) H) [.ref o, .long v] (.long (fX3_level z v)) := by
  refine cV_of (by decide) (Nat.le_of_ble_eq_true rfl) ?_
  intro p e s m below meth c ls hx hb hr hlocks G hgf hpic hl
  have hl : lv_has ls 3 [(0, .ref o), (1, .long v)] := hl
  have hpic : va_at D.1 vwCl (o, .inr (2, wrF z)) s.heap := hpic
  refine lv_lload_n hx hb dX3_level_0 rfl (lv_at hl 1 rfl) ?_
  exact mw_lret hx hb hr hlocks dX3_level_1 (rfl).symm
def fX3_furtherStepped (z : Bool) (kd : Int32) (v : Int64) (k : Int64) : Int64 := v
set_option maxRecDepth 100000 in
set_option maxHeartbeats 4000000 in
theorem cvX3_furtherStepped (l : Launch) (D : mG) (o : Nat) (z : Bool) (kd : Int32) (v : Int64) (k : Int64) : cV l D yX3_furtherStepped cX3_furtherStepped 6 .long 0 (fun H => va_at D.1 vwCl (o, .inr (2, wrF z)) H) [.ref o, .int kd, .long v, .long k] (.long (fX3_furtherStepped z kd v k)) := by
  refine cV_of (by decide) (Nat.le_of_ble_eq_true rfl) ?_
  intro p e s m below meth c ls hx hb hr hlocks G hgf hpic hl
  have hl : lv_has ls 6 [(0, .ref o), (1, .int kd), (2, .long v), (4, .long k)] := hl
  have hpic : va_at D.1 vwCl (o, .inr (2, wrF z)) s.heap := hpic
  refine lv_lload_n hx hb dX3_furtherStepped_0 rfl (lv_at hl 2 rfl) ?_
  exact mw_lret hx hb hr hlocks dX3_furtherStepped_1 (rfl).symm
def fX2_ofWidth_f (z : Bool) (bits : Int64) : Int64 := if (fwd z) = 32 then bits.toInt32.toInt64 else bits
set_option maxRecDepth 100000 in
set_option maxHeartbeats 4000000 in
theorem cvX2_ofWidth_f (l : Launch) (D : mG) (o : Nat) (z : Bool) (bits : Int64) : cV l D yX2_ofWidth cX2_ofWidth 3 .long 0 (fun H => va_at D.1 vwCl (o, .inr (0, flF z)) H) [.ref o, .long bits] (.long (fX2_ofWidth_f z bits)) := by
  refine cV_of (by decide) (Nat.le_of_ble_eq_true rfl) ?_
  intro p e s m below meth c ls hx hb hr hlocks G hgf hpic hl
  have hl : lv_has ls 3 [(0, .ref o), (1, .long bits)] := hl
  have hpic : va_at D.1 vwCl (o, .inr (0, flF z)) s.heap := hpic
  refine lv_aload_n hx hb dX2_ofWidth_0 rfl (lv_at hl 0 rfl) ?_
  refine mw_get G hgf hpic rfl inX0 2 (by decide) qw1_165 rfl dX2_ofWidth_1 ?_
  refine lv_bipush (v := 32) hx hb dX2_ofWidth_4 (by decide) ?_
  refine lv_icmp_ne (tgt := 15) hx hb dX2_ofWidth_6 (by decide) (fun c_1 => ?_) (fun c_1 => ?_)
  · refine lv_lload_n hx hb dX2_ofWidth_15 rfl (lv_at hl 1 rfl) ?_
    exact mw_lret hx hb hr hlocks dX2_ofWidth_16 ((if_neg c_1).trans (rfl)).symm
  · refine lv_lload_n hx hb dX2_ofWidth_9 rfl (lv_at hl 1 rfl) ?_
    refine lv_l2i hx hb dX2_ofWidth_10 rfl ?_
    refine lv_i2l hx hb dX2_ofWidth_11 rfl ?_
    refine lv_goto (tgt := 16) hx hb dX2_ofWidth_12 (by decide) ?_
    exact mw_lret hx hb hr hlocks dX2_ofWidth_16 ((if_pos c_1).trans (rfl)).symm
def fX2_hasStep_f (z : Bool) (st : Int32) : Int32 := if st < 0 then 0 else (if 7 < st then 0 else 1)
set_option maxRecDepth 100000 in
set_option maxHeartbeats 4000000 in
theorem cvX2_hasStep_f (l : Launch) (D : mG) (o : Nat) (z : Bool) (st : Int32) : cV l D yX2_hasStep cX2_hasStep 2 .boolean 0 (fun H => va_at D.1 vwCl (o, .inr (0, flF z)) H) [.ref o, .int st] (.int (fX2_hasStep_f z st)) := by
  refine cV_of (by decide) (Nat.le_of_ble_eq_true rfl) ?_
  intro p e s m below meth c ls hx hb hr hlocks G hgf hpic hl
  have hl : lv_has ls 2 [(0, .ref o), (1, .int st)] := hl
  have hpic : va_at D.1 vwCl (o, .inr (0, flF z)) s.heap := hpic
  refine lv_iload_n hx hb dX2_hasStep_0 rfl (lv_at hl 1 rfl) ?_
  refine lv_if_lt (tgt := 16) hx hb dX2_hasStep_1 (by decide) (fun c_1 => ?_) (fun c_1 => ?_)
  · refine lv_iconst (v := 0) hx hb dX2_hasStep_16 (by decide) ?_
    exact mw_zret hx hb hr hlocks dX2_hasStep_17 (Or.inl rfl) ((if_pos c_1).trans (rfl)).symm
  · refine lv_iload_n hx hb dX2_hasStep_4 rfl (lv_at hl 1 rfl) ?_
    refine lv_aload_n hx hb dX2_hasStep_5 rfl (lv_at hl 0 rfl) ?_
    refine mw_get G hgf hpic rfl inX0 3 (by decide) qw1_166 rfl dX2_hasStep_6 ?_
    refine lv_icmp_gt (tgt := 16) hx hb dX2_hasStep_9 (by decide) (fun c_2 => ?_) (fun c_2 => ?_)
    · refine lv_iconst (v := 0) hx hb dX2_hasStep_16 (by decide) ?_
      exact mw_zret hx hb hr hlocks dX2_hasStep_17 (Or.inl rfl) ((if_neg c_1).trans ((if_pos c_2).trans (rfl))).symm
    · refine lv_iconst (v := 1) hx hb dX2_hasStep_12 (by decide) ?_
      refine lv_goto (tgt := 17) hx hb dX2_hasStep_13 (by decide) ?_
      exact mw_zret hx hb hr hlocks dX2_hasStep_17 (Or.inr rfl) ((if_neg c_1).trans ((if_neg c_2).trans (rfl))).symm
def fX2_greater_f (z : Bool) (a : Int64) (b : Int64) : Int64 := if (fX0_rank z a) < (fX0_rank z b) then b else a
set_option maxRecDepth 100000 in
set_option maxHeartbeats 4000000 in
theorem cvX2_greater_f (l : Launch) (D : mG) (o : Nat) (z : Bool) (a : Int64) (b : Int64) : cV l D yX2_greater cX2_greater 5 .long 2 (fun H => va_at D.1 vwCl (o, .inr (0, flF z)) H) [.ref o, .long a, .long b] (.long (fX2_greater_f z a b)) := by
  refine cV_of (by decide) (Nat.le_of_ble_eq_true rfl) ?_
  intro p e s m below meth c ls hx hb hr hlocks G hgf hpic hl
  have hl : lv_has ls 5 [(0, .ref o), (1, .long a), (3, .long b)] := hl
  have hpic : va_at D.1 vwCl (o, .inr (0, flF z)) s.heap := hpic
  refine lv_aload_n hx hb dX2_greater_0 rfl (lv_at hl 0 rfl) ?_
  refine lv_lload_n hx hb dX2_greater_1 rfl (lv_at hl 1 rfl) ?_
  refine kU (C := RX0) G (cvX0_rank l D o z a) ou_X0_X2_X0_rank hgf hpic (mw_recv hgf hpic rfl) qw2_173 ⟨Nat.le_of_ble_eq_true rfl, Nat.le_of_ble_eq_true rfl⟩ ⟨Nat.zero_le _, Nat.zero_le _⟩ hl.1 (Nat.le_of_ble_eq_true rfl) rfl dX2_greater_2 ?_
  refine lv_aload_n hx hb dX2_greater_5 rfl (lv_at hl 0 rfl) ?_
  refine lv_lload_n hx hb dX2_greater_6 rfl (lv_at hl 2 rfl) ?_
  refine kU (C := RX0) G (cvX0_rank l D o z b) ou_X0_X2_X0_rank hgf hpic (mw_recv hgf hpic rfl) qw2_173 ⟨Nat.le_of_ble_eq_true rfl, Nat.le_of_ble_eq_true rfl⟩ ⟨Nat.zero_le _, Nat.zero_le _⟩ hl.1 (Nat.le_of_ble_eq_true rfl) rfl dX2_greater_7 ?_
  refine mw_llt (tgt := 18) hx hb dX2_greater_10 dX2_greater_11 (by decide) (fun c_1 => ?_) (fun c_1 => ?_)
  · refine lv_lload_n hx hb dX2_greater_18 rfl (lv_at hl 2 rfl) ?_
    exact mw_lret hx hb hr hlocks dX2_greater_19 ((if_pos c_1).trans (rfl)).symm
  · refine lv_lload_n hx hb dX2_greater_14 rfl (lv_at hl 1 rfl) ?_
    refine lv_goto (tgt := 19) hx hb dX2_greater_15 (by decide) ?_
    exact mw_lret hx hb hr hlocks dX2_greater_19 ((if_neg c_1).trans (rfl)).symm
def fX2_lesser_f (z : Bool) (a : Int64) (b : Int64) : Int64 := if (fX0_rank z b) < (fX0_rank z a) then b else a
set_option maxRecDepth 100000 in
set_option maxHeartbeats 4000000 in
theorem cvX2_lesser_f (l : Launch) (D : mG) (o : Nat) (z : Bool) (a : Int64) (b : Int64) : cV l D yX2_lesser cX2_lesser 5 .long 2 (fun H => va_at D.1 vwCl (o, .inr (0, flF z)) H) [.ref o, .long a, .long b] (.long (fX2_lesser_f z a b)) := by
  refine cV_of (by decide) (Nat.le_of_ble_eq_true rfl) ?_
  intro p e s m below meth c ls hx hb hr hlocks G hgf hpic hl
  have hl : lv_has ls 5 [(0, .ref o), (1, .long a), (3, .long b)] := hl
  have hpic : va_at D.1 vwCl (o, .inr (0, flF z)) s.heap := hpic
  refine lv_aload_n hx hb dX2_lesser_0 rfl (lv_at hl 0 rfl) ?_
  refine lv_lload_n hx hb dX2_lesser_1 rfl (lv_at hl 1 rfl) ?_
  refine kU (C := RX0) G (cvX0_rank l D o z a) ou_X0_X2_X0_rank hgf hpic (mw_recv hgf hpic rfl) qw2_173 ⟨Nat.le_of_ble_eq_true rfl, Nat.le_of_ble_eq_true rfl⟩ ⟨Nat.zero_le _, Nat.zero_le _⟩ hl.1 (Nat.le_of_ble_eq_true rfl) rfl dX2_lesser_2 ?_
  refine lv_aload_n hx hb dX2_lesser_5 rfl (lv_at hl 0 rfl) ?_
  refine lv_lload_n hx hb dX2_lesser_6 rfl (lv_at hl 2 rfl) ?_
  refine kU (C := RX0) G (cvX0_rank l D o z b) ou_X0_X2_X0_rank hgf hpic (mw_recv hgf hpic rfl) qw2_173 ⟨Nat.le_of_ble_eq_true rfl, Nat.le_of_ble_eq_true rfl⟩ ⟨Nat.zero_le _, Nat.zero_le _⟩ hl.1 (Nat.le_of_ble_eq_true rfl) rfl dX2_lesser_7 ?_
  refine mw_lgt (tgt := 18) hx hb dX2_lesser_10 dX2_lesser_11 (by decide) (fun c_1 => ?_) (fun c_1 => ?_)
  · refine lv_lload_n hx hb dX2_lesser_18 rfl (lv_at hl 2 rfl) ?_
    exact mw_lret hx hb hr hlocks dX2_lesser_19 ((if_pos c_1).trans (rfl)).symm
  · refine lv_lload_n hx hb dX2_lesser_14 rfl (lv_at hl 1 rfl) ?_
    refine lv_goto (tgt := 19) hx hb dX2_lesser_15 (by decide) ?_
    exact mw_lret hx hb hr hlocks dX2_lesser_19 ((if_neg c_1).trans (rfl)).symm
def fX2_isAbove_f (z : Bool) (a : Int64) (b : Int64) : Int32 := if (fX0_level z a) ≤ (fX0_level z b) then 0 else 1
set_option maxRecDepth 100000 in
set_option maxHeartbeats 4000000 in
theorem cvX2_isAbove_f (l : Launch) (D : mG) (o : Nat) (z : Bool) (a : Int64) (b : Int64) : cV l D yX2_isAbove cX2_isAbove 5 .boolean 2 (fun H => va_at D.1 vwCl (o, .inr (0, flF z)) H) [.ref o, .long a, .long b] (.int (fX2_isAbove_f z a b)) := by
  refine cV_of (by decide) (Nat.le_of_ble_eq_true rfl) ?_
  intro p e s m below meth c ls hx hb hr hlocks G hgf hpic hl
  have hl : lv_has ls 5 [(0, .ref o), (1, .long a), (3, .long b)] := hl
  have hpic : va_at D.1 vwCl (o, .inr (0, flF z)) s.heap := hpic
  refine lv_aload_n hx hb dX2_isAbove_0 rfl (lv_at hl 0 rfl) ?_
  refine lv_lload_n hx hb dX2_isAbove_1 rfl (lv_at hl 1 rfl) ?_
  refine kU (C := RX0) G (cvX0_level l D o z a) ou_X0_X2_X0_level hgf hpic (mw_recv hgf hpic rfl) qw3_49 ⟨Nat.le_of_ble_eq_true rfl, Nat.le_of_ble_eq_true rfl⟩ ⟨Nat.zero_le _, Nat.zero_le _⟩ hl.1 (Nat.le_of_ble_eq_true rfl) rfl dX2_isAbove_2 ?_
  refine lv_aload_n hx hb dX2_isAbove_5 rfl (lv_at hl 0 rfl) ?_
  refine lv_lload_n hx hb dX2_isAbove_6 rfl (lv_at hl 2 rfl) ?_
  refine kU (C := RX0) G (cvX0_level l D o z b) ou_X0_X2_X0_level hgf hpic (mw_recv hgf hpic rfl) qw3_49 ⟨Nat.le_of_ble_eq_true rfl, Nat.le_of_ble_eq_true rfl⟩ ⟨Nat.zero_le _, Nat.zero_le _⟩ hl.1 (Nat.le_of_ble_eq_true rfl) rfl dX2_isAbove_7 ?_
  refine mw_lle (tgt := 18) hx hb dX2_isAbove_10 dX2_isAbove_11 (by decide) (fun c_1 => ?_) (fun c_1 => ?_)
  · refine lv_iconst (v := 0) hx hb dX2_isAbove_18 (by decide) ?_
    exact mw_zret hx hb hr hlocks dX2_isAbove_19 (Or.inl rfl) ((if_pos c_1).trans (rfl)).symm
  · refine lv_iconst (v := 1) hx hb dX2_isAbove_14 (by decide) ?_
    refine lv_goto (tgt := 19) hx hb dX2_isAbove_15 (by decide) ?_
    exact mw_zret hx hb hr hlocks dX2_isAbove_19 (Or.inr rfl) ((if_neg c_1).trans (rfl)).symm
def fX2_stepped_f (z : Bool) (kd : Int32) (v : Int64) (k : Int64) : Int64 := if kd = 0 then fX0_amount z v else (if kd = 1 then fX2_greater_f z v k else (if kd = 2 then fX2_lesser_f z v k else fX0_furtherStepped z kd v k))
set_option maxRecDepth 100000 in
set_option maxHeartbeats 4000000 in
theorem cvX2_stepped_f (l : Launch) (D : mG) (o : Nat) (z : Bool) (kd : Int32) (v : Int64) (k : Int64) : cV l D yX2_stepped cX2_stepped 6 .long 6 (fun H => va_at D.1 vwCl (o, .inr (0, flF z)) H) [.ref o, .int kd, .long v, .long k] (.long (fX2_stepped_f z kd v k)) := by
  refine cV_of (by decide) (Nat.le_of_ble_eq_true rfl) ?_
  intro p e s m below meth c ls hx hb hr hlocks G hgf hpic hl
  have hl : lv_has ls 6 [(0, .ref o), (1, .int kd), (2, .long v), (4, .long k)] := hl
  have hpic : va_at D.1 vwCl (o, .inr (0, flF z)) s.heap := hpic
  refine lv_iload_n hx hb dX2_stepped_0 rfl (lv_at hl 1 rfl) ?_
  by_cases c_1 : kd = 0
  · refine lv_tableIn (off := 27) (tgt := 28) hx hb dX2_stepped_1 (by rw [c_1]; decide) (by rw [c_1]; decide) (by rw [c_1]; rfl) (by decide) ?_
    refine lv_aload_n hx hb dX2_stepped_28 rfl (lv_at hl 0 rfl) ?_
    refine lv_lload_n hx hb dX2_stepped_29 rfl (lv_at hl 2 rfl) ?_
    refine kU (C := RX0) G (cvX0_amount l D o z v) ou_X0_X2_X0_amount hgf hpic (mw_recv hgf hpic rfl) qw2_156 ⟨Nat.le_of_ble_eq_true rfl, Nat.le_of_ble_eq_true rfl⟩ ⟨Nat.zero_le _, Nat.zero_le _⟩ hl.1 (Nat.le_of_ble_eq_true rfl) rfl dX2_stepped_30 ?_
    exact mw_lret hx hb hr hlocks dX2_stepped_33 ((if_pos c_1).trans (rfl)).symm
  · by_cases c_2 : kd = 1
    · refine lv_tableIn (off := 33) (tgt := 34) hx hb dX2_stepped_1 (by rw [c_2]; decide) (by rw [c_2]; decide) (by rw [c_2]; rfl) (by decide) ?_
      refine lv_aload_n hx hb dX2_stepped_34 rfl (lv_at hl 0 rfl) ?_
      refine lv_lload_n hx hb dX2_stepped_35 rfl (lv_at hl 2 rfl) ?_
      refine lv_lload hx hb dX2_stepped_36 (lv_at hl 3 rfl) ?_
      refine kU (C := RX0) G (cvX2_greater_f l D o z v k) ou_X0_X2_X2_greater hgf hpic (mw_recv hgf hpic rfl) qw2_167 ⟨Nat.le_of_ble_eq_true rfl, Nat.le_of_ble_eq_true rfl⟩ ⟨Nat.zero_le _, Nat.zero_le _⟩ hl.1 (Nat.le_of_ble_eq_true rfl) rfl dX2_stepped_38 ?_
      exact mw_lret hx hb hr hlocks dX2_stepped_41 ((if_neg c_1).trans ((if_pos c_2).trans (rfl))).symm
    · by_cases c_3 : kd = 2
      · refine lv_tableIn (off := 41) (tgt := 42) hx hb dX2_stepped_1 (by rw [c_3]; decide) (by rw [c_3]; decide) (by rw [c_3]; rfl) (by decide) ?_
        refine lv_aload_n hx hb dX2_stepped_42 rfl (lv_at hl 0 rfl) ?_
        refine lv_lload_n hx hb dX2_stepped_43 rfl (lv_at hl 2 rfl) ?_
        refine lv_lload hx hb dX2_stepped_44 (lv_at hl 3 rfl) ?_
        refine kU (C := RX0) G (cvX2_lesser_f l D o z v k) ou_X0_X2_X2_lesser hgf hpic (mw_recv hgf hpic rfl) qw2_182 ⟨Nat.le_of_ble_eq_true rfl, Nat.le_of_ble_eq_true rfl⟩ ⟨Nat.zero_le _, Nat.zero_le _⟩ hl.1 (Nat.le_of_ble_eq_true rfl) rfl dX2_stepped_46 ?_
        exact mw_lret hx hb hr hlocks dX2_stepped_49 ((if_neg c_1).trans ((if_neg c_2).trans ((if_pos c_3).trans (rfl)))).symm
      · refine lv_tableOut (tgt := 50) hx hb dX2_stepped_1 (by have qc_1 : kd.toInt ≠ 0 := mw_ne c_1; have qc_2 : kd.toInt ≠ 1 := mw_ne c_2; have qc_3 : kd.toInt ≠ 2 := mw_ne c_3; omega) (by decide) ?_
        refine lv_aload_n hx hb dX2_stepped_50 rfl (lv_at hl 0 rfl) ?_
        refine lv_iload_n hx hb dX2_stepped_51 rfl (lv_at hl 1 rfl) ?_
        refine lv_lload_n hx hb dX2_stepped_52 rfl (lv_at hl 2 rfl) ?_
        refine lv_lload hx hb dX2_stepped_53 (lv_at hl 3 rfl) ?_
        refine kU (C := RX0) G (cvX0_furtherStepped l D o z kd v k) ou_X0_X2_X0_furtherStepped hgf hpic (mw_recv hgf hpic rfl) qw2_188 ⟨Nat.le_of_ble_eq_true rfl, Nat.le_of_ble_eq_true rfl⟩ ⟨Nat.zero_le _, Nat.zero_le _⟩ hl.1 (Nat.le_of_ble_eq_true rfl) rfl dX2_stepped_55 ?_
        exact mw_lret hx hb hr hlocks dX2_stepped_58 ((if_neg c_1).trans ((if_neg c_2).trans ((if_neg c_3).trans (rfl)))).symm
def fX2_hasStep_w (z : Bool) (st : Int32) : Int32 := if st < 0 then 0 else (if 2 < st then 0 else 1)
set_option maxRecDepth 100000 in
set_option maxHeartbeats 4000000 in
theorem cvX2_hasStep_w (l : Launch) (D : mG) (o : Nat) (z : Bool) (st : Int32) : cV l D yX2_hasStep cX2_hasStep 2 .boolean 0 (fun H => va_at D.1 vwCl (o, .inr (2, wrF z)) H) [.ref o, .int st] (.int (fX2_hasStep_w z st)) := by
  refine cV_of (by decide) (Nat.le_of_ble_eq_true rfl) ?_
  intro p e s m below meth c ls hx hb hr hlocks G hgf hpic hl
  have hl : lv_has ls 2 [(0, .ref o), (1, .int st)] := hl
  have hpic : va_at D.1 vwCl (o, .inr (2, wrF z)) s.heap := hpic
  refine lv_iload_n hx hb dX2_hasStep_0 rfl (lv_at hl 1 rfl) ?_
  refine lv_if_lt (tgt := 16) hx hb dX2_hasStep_1 (by decide) (fun c_1 => ?_) (fun c_1 => ?_)
  · refine lv_iconst (v := 0) hx hb dX2_hasStep_16 (by decide) ?_
    exact mw_zret hx hb hr hlocks dX2_hasStep_17 (Or.inl rfl) ((if_pos c_1).trans (rfl)).symm
  · refine lv_iload_n hx hb dX2_hasStep_4 rfl (lv_at hl 1 rfl) ?_
    refine lv_aload_n hx hb dX2_hasStep_5 rfl (lv_at hl 0 rfl) ?_
    refine mw_get G hgf hpic rfl inX3 3 (by decide) qw1_166 rfl dX2_hasStep_6 ?_
    refine lv_icmp_gt (tgt := 16) hx hb dX2_hasStep_9 (by decide) (fun c_2 => ?_) (fun c_2 => ?_)
    · refine lv_iconst (v := 0) hx hb dX2_hasStep_16 (by decide) ?_
      exact mw_zret hx hb hr hlocks dX2_hasStep_17 (Or.inl rfl) ((if_neg c_1).trans ((if_pos c_2).trans (rfl))).symm
    · refine lv_iconst (v := 1) hx hb dX2_hasStep_12 (by decide) ?_
      refine lv_goto (tgt := 17) hx hb dX2_hasStep_13 (by decide) ?_
      exact mw_zret hx hb hr hlocks dX2_hasStep_17 (Or.inr rfl) ((if_neg c_1).trans ((if_neg c_2).trans (rfl))).symm
def fX2_greater_w (z : Bool) (a : Int64) (b : Int64) : Int64 := if (fX3_rank z a) < (fX3_rank z b) then b else a
set_option maxRecDepth 100000 in
set_option maxHeartbeats 4000000 in
theorem cvX2_greater_w (l : Launch) (D : mG) (o : Nat) (z : Bool) (a : Int64) (b : Int64) : cV l D yX2_greater cX2_greater 5 .long 1 (fun H => va_at D.1 vwCl (o, .inr (2, wrF z)) H) [.ref o, .long a, .long b] (.long (fX2_greater_w z a b)) := by
  refine cV_of (by decide) (Nat.le_of_ble_eq_true rfl) ?_
  intro p e s m below meth c ls hx hb hr hlocks G hgf hpic hl
  have hl : lv_has ls 5 [(0, .ref o), (1, .long a), (3, .long b)] := hl
  have hpic : va_at D.1 vwCl (o, .inr (2, wrF z)) s.heap := hpic
  refine lv_aload_n hx hb dX2_greater_0 rfl (lv_at hl 0 rfl) ?_
  refine lv_lload_n hx hb dX2_greater_1 rfl (lv_at hl 1 rfl) ?_
  refine kU (C := RX3) G (cvX3_rank l D o z a) ou_X3_X2_X3_rank hgf hpic (mw_recv hgf hpic rfl) qw2_173 ⟨Nat.le_of_ble_eq_true rfl, Nat.le_of_ble_eq_true rfl⟩ ⟨Nat.zero_le _, Nat.zero_le _⟩ hl.1 (Nat.le_of_ble_eq_true rfl) rfl dX2_greater_2 ?_
  refine lv_aload_n hx hb dX2_greater_5 rfl (lv_at hl 0 rfl) ?_
  refine lv_lload_n hx hb dX2_greater_6 rfl (lv_at hl 2 rfl) ?_
  refine kU (C := RX3) G (cvX3_rank l D o z b) ou_X3_X2_X3_rank hgf hpic (mw_recv hgf hpic rfl) qw2_173 ⟨Nat.le_of_ble_eq_true rfl, Nat.le_of_ble_eq_true rfl⟩ ⟨Nat.zero_le _, Nat.zero_le _⟩ hl.1 (Nat.le_of_ble_eq_true rfl) rfl dX2_greater_7 ?_
  refine mw_llt (tgt := 18) hx hb dX2_greater_10 dX2_greater_11 (by decide) (fun c_1 => ?_) (fun c_1 => ?_)
  · refine lv_lload_n hx hb dX2_greater_18 rfl (lv_at hl 2 rfl) ?_
    exact mw_lret hx hb hr hlocks dX2_greater_19 ((if_pos c_1).trans (rfl)).symm
  · refine lv_lload_n hx hb dX2_greater_14 rfl (lv_at hl 1 rfl) ?_
    refine lv_goto (tgt := 19) hx hb dX2_greater_15 (by decide) ?_
    exact mw_lret hx hb hr hlocks dX2_greater_19 ((if_neg c_1).trans (rfl)).symm
def fX2_lesser_w (z : Bool) (a : Int64) (b : Int64) : Int64 := if (fX3_rank z b) < (fX3_rank z a) then b else a
set_option maxRecDepth 100000 in
set_option maxHeartbeats 4000000 in
theorem cvX2_lesser_w (l : Launch) (D : mG) (o : Nat) (z : Bool) (a : Int64) (b : Int64) : cV l D yX2_lesser cX2_lesser 5 .long 1 (fun H => va_at D.1 vwCl (o, .inr (2, wrF z)) H) [.ref o, .long a, .long b] (.long (fX2_lesser_w z a b)) := by
  refine cV_of (by decide) (Nat.le_of_ble_eq_true rfl) ?_
  intro p e s m below meth c ls hx hb hr hlocks G hgf hpic hl
  have hl : lv_has ls 5 [(0, .ref o), (1, .long a), (3, .long b)] := hl
  have hpic : va_at D.1 vwCl (o, .inr (2, wrF z)) s.heap := hpic
  refine lv_aload_n hx hb dX2_lesser_0 rfl (lv_at hl 0 rfl) ?_
  refine lv_lload_n hx hb dX2_lesser_1 rfl (lv_at hl 1 rfl) ?_
  refine kU (C := RX3) G (cvX3_rank l D o z a) ou_X3_X2_X3_rank hgf hpic (mw_recv hgf hpic rfl) qw2_173 ⟨Nat.le_of_ble_eq_true rfl, Nat.le_of_ble_eq_true rfl⟩ ⟨Nat.zero_le _, Nat.zero_le _⟩ hl.1 (Nat.le_of_ble_eq_true rfl) rfl dX2_lesser_2 ?_
  refine lv_aload_n hx hb dX2_lesser_5 rfl (lv_at hl 0 rfl) ?_
  refine lv_lload_n hx hb dX2_lesser_6 rfl (lv_at hl 2 rfl) ?_
  refine kU (C := RX3) G (cvX3_rank l D o z b) ou_X3_X2_X3_rank hgf hpic (mw_recv hgf hpic rfl) qw2_173 ⟨Nat.le_of_ble_eq_true rfl, Nat.le_of_ble_eq_true rfl⟩ ⟨Nat.zero_le _, Nat.zero_le _⟩ hl.1 (Nat.le_of_ble_eq_true rfl) rfl dX2_lesser_7 ?_
  refine mw_lgt (tgt := 18) hx hb dX2_lesser_10 dX2_lesser_11 (by decide) (fun c_1 => ?_) (fun c_1 => ?_)
  · refine lv_lload_n hx hb dX2_lesser_18 rfl (lv_at hl 2 rfl) ?_
    exact mw_lret hx hb hr hlocks dX2_lesser_19 ((if_pos c_1).trans (rfl)).symm
  · refine lv_lload_n hx hb dX2_lesser_14 rfl (lv_at hl 1 rfl) ?_
    refine lv_goto (tgt := 19) hx hb dX2_lesser_15 (by decide) ?_
    exact mw_lret hx hb hr hlocks dX2_lesser_19 ((if_neg c_1).trans (rfl)).symm
def fX2_isAbove_w (z : Bool) (a : Int64) (b : Int64) : Int32 := if (fX3_level z a) ≤ (fX3_level z b) then 0 else 1
set_option maxRecDepth 100000 in
set_option maxHeartbeats 4000000 in
theorem cvX2_isAbove_w (l : Launch) (D : mG) (o : Nat) (z : Bool) (a : Int64) (b : Int64) : cV l D yX2_isAbove cX2_isAbove 5 .boolean 1 (fun H => va_at D.1 vwCl (o, .inr (2, wrF z)) H) [.ref o, .long a, .long b] (.int (fX2_isAbove_w z a b)) := by
  refine cV_of (by decide) (Nat.le_of_ble_eq_true rfl) ?_
  intro p e s m below meth c ls hx hb hr hlocks G hgf hpic hl
  have hl : lv_has ls 5 [(0, .ref o), (1, .long a), (3, .long b)] := hl
  have hpic : va_at D.1 vwCl (o, .inr (2, wrF z)) s.heap := hpic
  refine lv_aload_n hx hb dX2_isAbove_0 rfl (lv_at hl 0 rfl) ?_
  refine lv_lload_n hx hb dX2_isAbove_1 rfl (lv_at hl 1 rfl) ?_
  refine kU (C := RX3) G (cvX3_level l D o z a) ou_X3_X2_X3_level hgf hpic (mw_recv hgf hpic rfl) qw3_49 ⟨Nat.le_of_ble_eq_true rfl, Nat.le_of_ble_eq_true rfl⟩ ⟨Nat.zero_le _, Nat.zero_le _⟩ hl.1 (Nat.le_of_ble_eq_true rfl) rfl dX2_isAbove_2 ?_
  refine lv_aload_n hx hb dX2_isAbove_5 rfl (lv_at hl 0 rfl) ?_
  refine lv_lload_n hx hb dX2_isAbove_6 rfl (lv_at hl 2 rfl) ?_
  refine kU (C := RX3) G (cvX3_level l D o z b) ou_X3_X2_X3_level hgf hpic (mw_recv hgf hpic rfl) qw3_49 ⟨Nat.le_of_ble_eq_true rfl, Nat.le_of_ble_eq_true rfl⟩ ⟨Nat.zero_le _, Nat.zero_le _⟩ hl.1 (Nat.le_of_ble_eq_true rfl) rfl dX2_isAbove_7 ?_
  refine mw_lle (tgt := 18) hx hb dX2_isAbove_10 dX2_isAbove_11 (by decide) (fun c_1 => ?_) (fun c_1 => ?_)
  · refine lv_iconst (v := 0) hx hb dX2_isAbove_18 (by decide) ?_
    exact mw_zret hx hb hr hlocks dX2_isAbove_19 (Or.inl rfl) ((if_pos c_1).trans (rfl)).symm
  · refine lv_iconst (v := 1) hx hb dX2_isAbove_14 (by decide) ?_
    refine lv_goto (tgt := 19) hx hb dX2_isAbove_15 (by decide) ?_
    exact mw_zret hx hb hr hlocks dX2_isAbove_19 (Or.inr rfl) ((if_neg c_1).trans (rfl)).symm
def fX2_stepped_w (z : Bool) (kd : Int32) (v : Int64) (k : Int64) : Int64 := if kd = 0 then fX3_amount z v else (if kd = 1 then fX2_greater_w z v k else (if kd = 2 then fX2_lesser_w z v k else fX3_furtherStepped z kd v k))
set_option maxRecDepth 100000 in
set_option maxHeartbeats 4000000 in
theorem cvX2_stepped_w (l : Launch) (D : mG) (o : Nat) (z : Bool) (kd : Int32) (v : Int64) (k : Int64) : cV l D yX2_stepped cX2_stepped 6 .long 2 (fun H => va_at D.1 vwCl (o, .inr (2, wrF z)) H) [.ref o, .int kd, .long v, .long k] (.long (fX2_stepped_w z kd v k)) := by
  refine cV_of (by decide) (Nat.le_of_ble_eq_true rfl) ?_
  intro p e s m below meth c ls hx hb hr hlocks G hgf hpic hl
  have hl : lv_has ls 6 [(0, .ref o), (1, .int kd), (2, .long v), (4, .long k)] := hl
  have hpic : va_at D.1 vwCl (o, .inr (2, wrF z)) s.heap := hpic
  refine lv_iload_n hx hb dX2_stepped_0 rfl (lv_at hl 1 rfl) ?_
  by_cases c_1 : kd = 0
  · refine lv_tableIn (off := 27) (tgt := 28) hx hb dX2_stepped_1 (by rw [c_1]; decide) (by rw [c_1]; decide) (by rw [c_1]; rfl) (by decide) ?_
    refine lv_aload_n hx hb dX2_stepped_28 rfl (lv_at hl 0 rfl) ?_
    refine lv_lload_n hx hb dX2_stepped_29 rfl (lv_at hl 2 rfl) ?_
    refine kU (C := RX3) G (cvX3_amount l D o z v) ou_X3_X2_X3_amount hgf hpic (mw_recv hgf hpic rfl) qw2_156 ⟨Nat.le_of_ble_eq_true rfl, Nat.le_of_ble_eq_true rfl⟩ ⟨Nat.zero_le _, Nat.zero_le _⟩ hl.1 (Nat.le_of_ble_eq_true rfl) rfl dX2_stepped_30 ?_
    exact mw_lret hx hb hr hlocks dX2_stepped_33 ((if_pos c_1).trans (rfl)).symm
  · by_cases c_2 : kd = 1
    · refine lv_tableIn (off := 33) (tgt := 34) hx hb dX2_stepped_1 (by rw [c_2]; decide) (by rw [c_2]; decide) (by rw [c_2]; rfl) (by decide) ?_
      refine lv_aload_n hx hb dX2_stepped_34 rfl (lv_at hl 0 rfl) ?_
      refine lv_lload_n hx hb dX2_stepped_35 rfl (lv_at hl 2 rfl) ?_
      refine lv_lload hx hb dX2_stepped_36 (lv_at hl 3 rfl) ?_
      refine kU (C := RX3) G (cvX2_greater_w l D o z v k) ou_X3_X2_X2_greater hgf hpic (mw_recv hgf hpic rfl) qw2_167 ⟨Nat.le_of_ble_eq_true rfl, Nat.le_of_ble_eq_true rfl⟩ ⟨Nat.zero_le _, Nat.zero_le _⟩ hl.1 (Nat.le_of_ble_eq_true rfl) rfl dX2_stepped_38 ?_
      exact mw_lret hx hb hr hlocks dX2_stepped_41 ((if_neg c_1).trans ((if_pos c_2).trans (rfl))).symm
    · by_cases c_3 : kd = 2
      · refine lv_tableIn (off := 41) (tgt := 42) hx hb dX2_stepped_1 (by rw [c_3]; decide) (by rw [c_3]; decide) (by rw [c_3]; rfl) (by decide) ?_
        refine lv_aload_n hx hb dX2_stepped_42 rfl (lv_at hl 0 rfl) ?_
        refine lv_lload_n hx hb dX2_stepped_43 rfl (lv_at hl 2 rfl) ?_
        refine lv_lload hx hb dX2_stepped_44 (lv_at hl 3 rfl) ?_
        refine kU (C := RX3) G (cvX2_lesser_w l D o z v k) ou_X3_X2_X2_lesser hgf hpic (mw_recv hgf hpic rfl) qw2_182 ⟨Nat.le_of_ble_eq_true rfl, Nat.le_of_ble_eq_true rfl⟩ ⟨Nat.zero_le _, Nat.zero_le _⟩ hl.1 (Nat.le_of_ble_eq_true rfl) rfl dX2_stepped_46 ?_
        exact mw_lret hx hb hr hlocks dX2_stepped_49 ((if_neg c_1).trans ((if_neg c_2).trans ((if_pos c_3).trans (rfl)))).symm
      · refine lv_tableOut (tgt := 50) hx hb dX2_stepped_1 (by have qc_1 : kd.toInt ≠ 0 := mw_ne c_1; have qc_2 : kd.toInt ≠ 1 := mw_ne c_2; have qc_3 : kd.toInt ≠ 2 := mw_ne c_3; omega) (by decide) ?_
        refine lv_aload_n hx hb dX2_stepped_50 rfl (lv_at hl 0 rfl) ?_
        refine lv_iload_n hx hb dX2_stepped_51 rfl (lv_at hl 1 rfl) ?_
        refine lv_lload_n hx hb dX2_stepped_52 rfl (lv_at hl 2 rfl) ?_
        refine lv_lload hx hb dX2_stepped_53 (lv_at hl 3 rfl) ?_
        refine kU (C := RX3) G (cvX3_furtherStepped l D o z kd v k) ou_X3_X2_X3_furtherStepped hgf hpic (mw_recv hgf hpic rfl) qw2_188 ⟨Nat.le_of_ble_eq_true rfl, Nat.le_of_ble_eq_true rfl⟩ ⟨Nat.zero_le _, Nat.zero_le _⟩ hl.1 (Nat.le_of_ble_eq_true rfl) rfl dX2_stepped_55 ?_
        exact mw_lret hx hb hr hlocks dX2_stepped_58 ((if_neg c_1).trans ((if_neg c_2).trans ((if_neg c_3).trans (rfl)))).symm
end
section
/-! THE REFERENCE: floats and doubles -/
theorem mw_self (f : FP.Core.Fmt) (n : Nat) (h : FP.Core.decode f n ≠ .nan) : FP.Core.cmp f n n = some .eq := by
  unfold FP.Core.cmp
  cases hd : FP.Core.decode f n with
  | nan => exact absurd hd h
  | inf s => simp [FP.Core.order]
  | fin s c q => simp [FP.Core.order]
/-- bits that are no NaN -/
def okf (x : UInt32) : Prop := FP.Core.decode FP.Core.b32 x.toNat ≠ .nan
def okd (x : UInt64) : Prop := FP.Core.decode FP.Core.b64 x.toNat ≠ .nan
theorem okf_cmp {x : UInt32} (h : okf x) : Op.cmpValue (FP.fcmp x x) CmpOp.l = 0 := by
  rw [show FP.fcmp x x = some .eq from mw_self _ _ h]; rfl
theorem okd_cmp {x : UInt64} (h : okd x) : Op.cmpValue (FP.dcmp x x) CmpOp.l = 0 := by
  rw [show FP.dcmp x x = some .eq from mw_self _ _ h]; rfl
/-- the entry of a method of a class of which natives are told, but not this one -/
theorem mw_ofWF {l : Launch} {y : MethodName} {ws ws' : List Cond} {rm : Room} {Pc : Array Value → State → Prop} {Qc : Array Value → State → Outcome → State → Prop} {mc ms : Nat} {free : Addr → Prop} {cc : ByteArray} {maxL : Nat} {ret : Option FieldType}
    (hy : plainFor y = true) (hw : ws = Cond.code y cc maxL ret :: ws')
    (body : ∀ p e s m args below meth c s₁, BodyLoose p l y (headSpec ws rm) cc maxL ret e s m args below meth c s₁ → c.maxLocals = maxL → Pc args s →
      W p l e (headSpec ws rm).room s m args below meth c s.heap [] 0 0 (MQ below Qc args s mc ms free) (entryFrame m args maxL)) : Met l y ws rm Pc Qc mc ms free := by
  refine MetFree.of_bodySF (code := cc) (maxLocals := maxL) (ret := ret) hy ?_ ?_
  · intro args s m h hn
    obtain ⟨meth, c, h1, h2, h3, h4, h5, h6, -, -⟩ := Cond.code_spec hn (atoms_spec (ws := ws) h _ (by rw [hw]; exact List.mem_cons_self))
    exact ⟨meth, c, h1, h2, h3, h4, h5, h6⟩
  · intro p e s m args below meth c s₁ B hml hP _
    have hh0 : s₁.heap = s.heap := by rw [B.state]; rfl
    obtain ⟨t, a1, o, b1, b2, b3⟩ := body p e s m args below meth c s₁ B hml hP s₁ hh0 (Stand.of_body B)
    exact ⟨t, o, a1, b1, b2, ⟨b3.1, b3.2⟩⟩
theorem cV_ofF {l : Launch} {D : mG} {y : MethodName} {b : ByteArray} {n : Nat} {ret : FieldType} {k : Nat} {Pic : Heap → Prop} {As : List Value} {v : Value} (hy : plainFor y = true) (hn : (lg_sl As).length ≤ n)
    (body : ∀ (p : Program) (e : Env) (s : State) (m : MethodId) (below : List Frame) (meth : Method) (c : Code) (ls : Array Slot), p.tables.exec = Jvm.exec → c.code = b → meth.sig.returnType = some ret → meth.locks = false → CallFix p m c b n s As.toArray aw y.cls → GF D s → Pic s.heap → lv_has ls n (lv_args 0 As) →
      W p l e (rmP k) s m As.toArray below meth c s.heap [] 0 0 (MQ below (mS v) As.toArray s 0 0 (fun _ => False)) (F0 m 0 ls [])) : cV l D y b n ret k Pic As v := by
  refine mw_ofWF (cc := b) (maxL := n) (ret := some ret) hy rfl ?_
  intro p e s m args below meth c s₁ B hml hv
  obtain ⟨rfl, hg, hpic⟩ := hv
  have hts := atoms_spec (ws := .code y b n (some ret) :: aw) B.pre
  rw [lg_entry_eq]
  exact body p e s m below meth c _ B.exec B.bytes B.returns B.notSynchronized ⟨B.exec, B.bytes, hml, findClass_of_methodNamed B.named, fun w h => hts w (List.mem_cons_of_mem _ h)⟩ hg hpic (lv_entry As hn)
section MWF
variable {p : Program} {l : Launch} {e : Env} {R : Room} {s : State} {m : MethodId} {args : Array Value} {below : List Frame} {meth : Method} {c : Code}
variable {cc : ByteArray} {pc : Nat} {ls : Array Slot}
theorem mw_fret {x w : UInt32} (hx : p.tables.exec = Jvm.exec) (hb : c.code = cc) (hr : meth.sig.returnType = some .float) (hlocks : meth.locks = false) (hdg : decode cc pc = .ok (.freturn, 1)) (hv : x = w) : W p l e R s m args below meth c s.heap [] 0 0 (MQ below (mS (.float w)) args s 0 0 (fun _ => False)) (F0 m pc ls [.float x]) :=
  W.fret hx hb hr (fun t ht _ => ⟨by rw [hv], ht⟩) (fun _ h => by cases h) hdg hlocks
theorem mw_dret {x w : UInt64} (hx : p.tables.exec = Jvm.exec) (hb : c.code = cc) (hr : meth.sig.returnType = some .double) (hlocks : meth.locks = false) (hdg : decode cc pc = .ok (.dreturn, 1)) (hv : x = w) : W p l e R s m args below meth c s.heap [] 0 0 (MQ below (mS (.double w)) args s 0 0 (fun _ => False)) (F0 m pc ls [.double x]) :=
  W.dret hx hb hr (fun t ht _ => ⟨by rw [hv], ht⟩) (fun _ h => by cases h) hdg hlocks
end MWF
def fJxf58ca_isNaN_12338 (x : UInt32) : Int32 := 0
set_option maxRecDepth 100000 in
set_option maxHeartbeats 4000000 in
theorem cvJxf58ca_isNaN_12338 (l : Launch) (D : mG) (x : UInt32) (hn : okf x) : cV l D yJxf58ca_isNaN_12338 cJxf58ca_isNaN_12338 1 .boolean 0 (fun _ => True) [.float x] (.int (fJxf58ca_isNaN_12338  x)) := by
  refine cV_ofF (by decide +kernel) (Nat.le_of_ble_eq_true rfl) ?_
  intro p e s m below meth c ls hx hb hr hlocks G hgf hpic hl
  have hl : lv_has ls 1 [(0, .float x)] := hl
  refine lv_fload_n hx hb dJxf58ca_isNaN_12338_0 rfl (lv_at hl 0 rfl) ?_
  refine lv_fload_n hx hb dJxf58ca_isNaN_12338_1 rfl (lv_at hl 0 rfl) ?_
  refine lv_fcmp hx hb dJxf58ca_isNaN_12338_2 ?_
  rw [okf_cmp hn]
  refine lv_if_eq (tgt := 10) hx hb dJxf58ca_isNaN_12338_3 (by decide) (fun _ => ?_) (fun h => absurd (by decide) h)
  refine lv_iconst (v := 0) hx hb dJxf58ca_isNaN_12338_10 (by decide) ?_
  exact mw_zret hx hb hr hlocks dJxf58ca_isNaN_12338_11 (Or.inl rfl) (rfl).symm
def fJxe99ae_isNaN_b9ae7 (x : UInt64) : Int32 := 0
set_option maxRecDepth 100000 in
set_option maxHeartbeats 4000000 in
theorem cvJxe99ae_isNaN_b9ae7 (l : Launch) (D : mG) (x : UInt64) (hn : okd x) : cV l D yJxe99ae_isNaN_b9ae7 cJxe99ae_isNaN_b9ae7 2 .boolean 0 (fun _ => True) [.double x] (.int (fJxe99ae_isNaN_b9ae7  x)) := by
  refine cV_ofF (by decide +kernel) (Nat.le_of_ble_eq_true rfl) ?_
  intro p e s m below meth c ls hx hb hr hlocks G hgf hpic hl
  have hl : lv_has ls 2 [(0, .double x)] := hl
  refine lv_dload_n hx hb dJxe99ae_isNaN_b9ae7_0 rfl (lv_at hl 0 rfl) ?_
  refine lv_dload_n hx hb dJxe99ae_isNaN_b9ae7_1 rfl (lv_at hl 0 rfl) ?_
  refine lv_dcmp hx hb dJxe99ae_isNaN_b9ae7_2 ?_
  rw [okd_cmp hn]
  refine lv_if_eq (tgt := 10) hx hb dJxe99ae_isNaN_b9ae7_3 (by decide) (fun _ => ?_) (fun h => absurd (by decide) h)
  refine lv_iconst (v := 0) hx hb dJxe99ae_isNaN_b9ae7_10 (by decide) ?_
  exact mw_zret hx hb hr hlocks dJxe99ae_isNaN_b9ae7_11 (Or.inl rfl) (rfl).symm
def fJxf58ca_floatToIntBits_5c35a (x : UInt32) : Int32 := x.toInt32
set_option maxRecDepth 100000 in
set_option maxHeartbeats 4000000 in
theorem cvJxf58ca_floatToIntBits_5c35a (l : Launch) (D : mG) (x : UInt32) (hn : okf x) : cV l D yJxf58ca_floatToIntBits_5c35a cJxf58ca_floatToIntBits_5c35a 1 .int 1 (fun _ => True) [.float x] (.int (fJxf58ca_floatToIntBits_5c35a  x)) := by
  refine cV_ofF (by decide +kernel) (Nat.le_of_ble_eq_true rfl) ?_
  intro p e s m below meth c ls hx hb hr hlocks G hgf hpic hl
  have hl : lv_has ls 1 [(0, .float x)] := hl
  refine lv_fload_n hx hb dJxf58ca_floatToIntBits_5c35a_0 rfl (lv_at hl 0 rfl) ?_
  refine kS G (cvJxf58ca_isNaN_12338 l D x (hn)) okJxf58ca_isNaN_12338 hgf trivial qw4_110 ⟨Nat.le_of_ble_eq_true rfl, Nat.le_of_ble_eq_true rfl⟩ ⟨Nat.zero_le _, Nat.zero_le _⟩ hl.1 (Nat.le_of_ble_eq_true rfl) rfl dJxf58ca_floatToIntBits_5c35a_1 ?_
  refine lv_if_ne (tgt := 12) hx hb dJxf58ca_floatToIntBits_5c35a_4 (by decide) (fun h => absurd rfl h) (fun _ => ?_)
  refine lv_fload_n hx hb dJxf58ca_floatToIntBits_5c35a_7 rfl (lv_at hl 0 rfl) ?_
  refine vn_f2i hx hb (by rw [G.2.2.1]; exact hl.1.symm) G.2.2.2.1 (G.2.2.2.2 _ qw4_113) (G.2.2.2.2 _ qw4_115) (G.2.2.2.2 _ qw4_114) (G.2.2.2.2 _ qw1_16) (Nat.le_of_ble_eq_true rfl) (Nat.le_of_ble_eq_true rfl) dJxf58ca_floatToIntBits_5c35a_8 ?_
  exact mw_iret hx hb hr hlocks dJxf58ca_floatToIntBits_5c35a_11 (rfl).symm
def fJxe99ae_doubleToLongBits_ccdee (x : UInt64) : Int64 := x.toInt64
set_option maxRecDepth 100000 in
set_option maxHeartbeats 4000000 in
theorem cvJxe99ae_doubleToLongBits_ccdee (l : Launch) (D : mG) (x : UInt64) (hn : okd x) : cV l D yJxe99ae_doubleToLongBits_ccdee cJxe99ae_doubleToLongBits_ccdee 2 .long 1 (fun _ => True) [.double x] (.long (fJxe99ae_doubleToLongBits_ccdee  x)) := by
  refine cV_ofF (by decide +kernel) (Nat.le_of_ble_eq_true rfl) ?_
  intro p e s m below meth c ls hx hb hr hlocks G hgf hpic hl
  have hl : lv_has ls 2 [(0, .double x)] := hl
  refine lv_dload_n hx hb dJxe99ae_doubleToLongBits_ccdee_0 rfl (lv_at hl 0 rfl) ?_
  refine kS G (cvJxe99ae_isNaN_b9ae7 l D x (hn)) okJxe99ae_isNaN_b9ae7 hgf trivial qw4_126 ⟨Nat.le_of_ble_eq_true rfl, Nat.le_of_ble_eq_true rfl⟩ ⟨Nat.zero_le _, Nat.zero_le _⟩ hl.1 (Nat.le_of_ble_eq_true rfl) rfl dJxe99ae_doubleToLongBits_ccdee_1 ?_
  refine lv_if_ne (tgt := 12) hx hb dJxe99ae_doubleToLongBits_ccdee_4 (by decide) (fun h => absurd rfl h) (fun _ => ?_)
  refine lv_dload_n hx hb dJxe99ae_doubleToLongBits_ccdee_7 rfl (lv_at hl 0 rfl) ?_
  refine vn_d2l hx hb (by rw [G.2.2.1]; exact hl.1.symm) G.2.2.2.1 (G.2.2.2.2 _ qw4_129) (G.2.2.2.2 _ qw4_131) (G.2.2.2.2 _ qw4_130) (G.2.2.2.2 _ qw1_17) (Nat.le_of_ble_eq_true rfl) (Nat.le_of_ble_eq_true rfl) dJxe99ae_doubleToLongBits_ccdee_8 ?_
  exact mw_lret hx hb hr hlocks dJxe99ae_doubleToLongBits_ccdee_11 (rfl).symm
def fX5_single (v : Int64) : UInt32 := v.toInt32.toUInt32
set_option maxRecDepth 100000 in
set_option maxHeartbeats 4000000 in
theorem cvX5_single (l : Launch) (D : mG) (v : Int64) (hn : vn_sni2f v.toInt32 = false) : cV l D yX5_single cX5_single 2 .float 1 (fun _ => True) [.long v] (.float (fX5_single  v)) := by
  refine cV_of (by decide) (Nat.le_of_ble_eq_true rfl) ?_
  intro p e s m below meth c ls hx hb hr hlocks G hgf hpic hl
  have hl : lv_has ls 2 [(0, .long v)] := hl
  refine lv_lload_n hx hb dX5_single_0 rfl (lv_at hl 0 rfl) ?_
  refine lv_l2i hx hb dX5_single_1 rfl ?_
  refine vn_i2f hx hb (by rw [G.2.2.1]; exact hl.1.symm) G.2.2.2.1 (G.2.2.2.2 _ qw4_104) (G.2.2.2.2 _ qw4_106) (G.2.2.2.2 _ qw4_105) (G.2.2.2.2 _ qw1_16) (hn) (Nat.le_of_ble_eq_true rfl) (Nat.le_of_ble_eq_true rfl) dX5_single_2 ?_
  exact mw_fret hx hb hr hlocks dX5_single_5 (rfl).symm
def fX5_real (v : Int64) : UInt64 := v.toUInt64
set_option maxRecDepth 100000 in
set_option maxHeartbeats 4000000 in
theorem cvX5_real (l : Launch) (D : mG) (v : Int64) (hn : vn_snl2d v = false) : cV l D yX5_real cX5_real 2 .double 1 (fun _ => True) [.long v] (.double (fX5_real  v)) := by
  refine cV_of (by decide) (Nat.le_of_ble_eq_true rfl) ?_
  intro p e s m below meth c ls hx hb hr hlocks G hgf hpic hl
  have hl : lv_has ls 2 [(0, .long v)] := hl
  refine lv_lload_n hx hb dX5_real_0 rfl (lv_at hl 0 rfl) ?_
  refine vn_l2d hx hb (by rw [G.2.2.1]; exact hl.1.symm) G.2.2.2.1 (G.2.2.2.2 _ qw4_120) (G.2.2.2.2 _ qw4_122) (G.2.2.2.2 _ qw4_121) (G.2.2.2.2 _ qw1_17) (hn) (Nat.le_of_ble_eq_true rfl) (Nat.le_of_ble_eq_true rfl) dX5_real_1 ?_
  exact mw_dret hx hb hr hlocks dX5_real_4 (rfl).symm
def fX5_sum (sort : Int32) (a : Int64) (b : Int64) : Int64 := if sort = 2 then (fJxf58ca_floatToIntBits_5c35a (FP.fadd (fX5_single a) (fX5_single b))).toInt64 else (if sort = 3 then fJxe99ae_doubleToLongBits_ccdee (FP.dadd (fX5_real a) (fX5_real b)) else fX5_cut sort (a + b))
set_option maxRecDepth 100000 in
set_option maxHeartbeats 4000000 in
theorem cvX5_sum (l : Launch) (D : mG) (sort : Int32) (a : Int64) (b : Int64) (h2 : sort = 2 → vn_sni2f a.toInt32 = false ∧ vn_sni2f b.toInt32 = false ∧ vf_n32 (FP.fadd (fX5_single a) (fX5_single b)) ∧ okf (FP.fadd (fX5_single a) (fX5_single b))) (h3 : sort = 3 → vn_snl2d a = false ∧ vn_snl2d b = false ∧ vf_n64 (FP.dadd (fX5_real a) (fX5_real b)) ∧ okd (FP.dadd (fX5_real a) (fX5_real b))) : cV l D yX5_sum cX5_sum 5 .long 2 (fun _ => True) [.int sort, .long a, .long b] (.long (fX5_sum  sort a b)) := by
  refine cV_of (by decide) (Nat.le_of_ble_eq_true rfl) ?_
  intro p e s m below meth c ls hx hb hr hlocks G hgf hpic hl
  have hl : lv_has ls 5 [(0, .int sort), (1, .long a), (3, .long b)] := hl
  refine lv_iload_n hx hb dX5_sum_0 rfl (lv_at hl 0 rfl) ?_
  refine lv_iconst (v := 2) hx hb dX5_sum_1 (by decide) ?_
  refine lv_icmp_ne (tgt := 19) hx hb dX5_sum_2 (by decide) (fun c_1 => ?_) (fun c_1 => ?_)
  · refine lv_iload_n hx hb dX5_sum_19 rfl (lv_at hl 0 rfl) ?_
    refine lv_iconst (v := 3) hx hb dX5_sum_20 (by decide) ?_
    refine lv_icmp_ne (tgt := 37) hx hb dX5_sum_21 (by decide) (fun c_2 => ?_) (fun c_2 => ?_)
    · refine lv_iload_n hx hb dX5_sum_37 rfl (lv_at hl 0 rfl) ?_
      refine lv_lload_n hx hb dX5_sum_38 rfl (lv_at hl 1 rfl) ?_
      refine lv_lload_n hx hb dX5_sum_39 rfl (lv_at hl 2 rfl) ?_
      refine lv_ladd hx hb dX5_sum_40 ?_
      refine kS G (cvX5_cut l D sort (a + b)) okX5_cut hgf trivial qw4_5 ⟨Nat.le_of_ble_eq_true rfl, Nat.le_of_ble_eq_true rfl⟩ ⟨Nat.zero_le _, Nat.zero_le _⟩ hl.1 (Nat.le_of_ble_eq_true rfl) rfl dX5_sum_41 ?_
      exact mw_lret hx hb hr hlocks dX5_sum_44 ((if_neg c_1).trans ((if_neg c_2).trans (rfl))).symm
    · refine lv_lload_n hx hb dX5_sum_24 rfl (lv_at hl 1 rfl) ?_
      refine kS G (cvX5_real l D a ((h3 c_2).1)) okX5_real hgf trivial qw4_117 ⟨Nat.le_of_ble_eq_true rfl, Nat.le_of_ble_eq_true rfl⟩ ⟨Nat.zero_le _, Nat.zero_le _⟩ hl.1 (Nat.le_of_ble_eq_true rfl) rfl dX5_sum_25 ?_
      refine lv_lload_n hx hb dX5_sum_28 rfl (lv_at hl 2 rfl) ?_
      refine kS G (cvX5_real l D b ((h3 c_2).2.1)) okX5_real hgf trivial qw4_117 ⟨Nat.le_of_ble_eq_true rfl, Nat.le_of_ble_eq_true rfl⟩ ⟨Nat.zero_le _, Nat.zero_le _⟩ hl.1 (Nat.le_of_ble_eq_true rfl) rfl dX5_sum_29 ?_
      refine lv_dadd hx hb dX5_sum_32 ((h3 c_2).2.2.1) ?_
      refine kS G (cvJxe99ae_doubleToLongBits_ccdee l D (FP.dadd (fX5_real a) (fX5_real b)) ((h3 c_2).2.2.2)) okJxe99ae_doubleToLongBits_ccdee hgf trivial qw4_123 ⟨Nat.le_of_ble_eq_true rfl, Nat.le_of_ble_eq_true rfl⟩ ⟨Nat.zero_le _, Nat.zero_le _⟩ hl.1 (Nat.le_of_ble_eq_true rfl) rfl dX5_sum_33 ?_
      exact mw_lret hx hb hr hlocks dX5_sum_36 ((if_neg c_1).trans ((if_pos c_2).trans (rfl))).symm
  · refine lv_lload_n hx hb dX5_sum_5 rfl (lv_at hl 1 rfl) ?_
    refine kS G (cvX5_single l D a ((h2 c_1).1)) okX5_single hgf trivial qw4_101 ⟨Nat.le_of_ble_eq_true rfl, Nat.le_of_ble_eq_true rfl⟩ ⟨Nat.zero_le _, Nat.zero_le _⟩ hl.1 (Nat.le_of_ble_eq_true rfl) rfl dX5_sum_6 ?_
    refine lv_lload_n hx hb dX5_sum_9 rfl (lv_at hl 2 rfl) ?_
    refine kS G (cvX5_single l D b ((h2 c_1).2.1)) okX5_single hgf trivial qw4_101 ⟨Nat.le_of_ble_eq_true rfl, Nat.le_of_ble_eq_true rfl⟩ ⟨Nat.zero_le _, Nat.zero_le _⟩ hl.1 (Nat.le_of_ble_eq_true rfl) rfl dX5_sum_10 ?_
    refine lv_fadd hx hb dX5_sum_13 ((h2 c_1).2.2.1) ?_
    refine kS G (cvJxf58ca_floatToIntBits_5c35a l D (FP.fadd (fX5_single a) (fX5_single b)) ((h2 c_1).2.2.2)) okJxf58ca_floatToIntBits_5c35a hgf trivial qw4_107 ⟨Nat.le_of_ble_eq_true rfl, Nat.le_of_ble_eq_true rfl⟩ ⟨Nat.zero_le _, Nat.zero_le _⟩ hl.1 (Nat.le_of_ble_eq_true rfl) rfl dX5_sum_14 ?_
    refine lv_i2l hx hb dX5_sum_17 rfl ?_
    exact mw_lret hx hb hr hlocks dX5_sum_18 ((if_pos c_1).trans (rfl)).symm
def fX5_swing (sort : Int32) (a : Int64) (b : Int64) : Int64 := if (fX5_height sort a) = (fX5_height sort b) then 0 else (if sort = 2 then fX5_amount sort ((fJxf58ca_floatToIntBits_5c35a (FP.fsub (fX5_single a) (fX5_single b))).toInt64) else (if sort = 3 then fX5_amount sort (fJxe99ae_doubleToLongBits_ccdee (FP.dsub (fX5_real a) (fX5_real b))) else fX5_amount sort (fX5_cut sort (a - b))))
set_option maxRecDepth 100000 in
set_option maxHeartbeats 4000000 in
theorem cvX5_swing (l : Launch) (D : mG) (sort : Int32) (a : Int64) (b : Int64) (h2 : ¬ (fX5_height sort a) = (fX5_height sort b) → sort = 2 → vn_sni2f a.toInt32 = false ∧ vn_sni2f b.toInt32 = false ∧ vf_n32 (FP.fsub (fX5_single a) (fX5_single b)) ∧ okf (FP.fsub (fX5_single a) (fX5_single b))) (h3 : ¬ (fX5_height sort a) = (fX5_height sort b) → sort = 3 → vn_snl2d a = false ∧ vn_snl2d b = false ∧ vf_n64 (FP.dsub (fX5_real a) (fX5_real b)) ∧ okd (FP.dsub (fX5_real a) (fX5_real b))) : cV l D yX5_swing cX5_swing 5 .long 4 (fun _ => True) [.int sort, .long a, .long b] (.long (fX5_swing  sort a b)) := by
  refine cV_of (by decide) (Nat.le_of_ble_eq_true rfl) ?_
  intro p e s m below meth c ls hx hb hr hlocks G hgf hpic hl
  have hl : lv_has ls 5 [(0, .int sort), (1, .long a), (3, .long b)] := hl
  refine lv_iload_n hx hb dX5_swing_0 rfl (lv_at hl 0 rfl) ?_
  refine lv_lload_n hx hb dX5_swing_1 rfl (lv_at hl 1 rfl) ?_
  refine kS G (cvX5_height l D sort a) okX5_height hgf trivial qw4_53 ⟨Nat.le_of_ble_eq_true rfl, Nat.le_of_ble_eq_true rfl⟩ ⟨Nat.zero_le _, Nat.zero_le _⟩ hl.1 (Nat.le_of_ble_eq_true rfl) rfl dX5_swing_2 ?_
  refine lv_iload_n hx hb dX5_swing_5 rfl (lv_at hl 0 rfl) ?_
  refine lv_lload_n hx hb dX5_swing_6 rfl (lv_at hl 2 rfl) ?_
  refine kS G (cvX5_height l D sort b) okX5_height hgf trivial qw4_53 ⟨Nat.le_of_ble_eq_true rfl, Nat.le_of_ble_eq_true rfl⟩ ⟨Nat.zero_le _, Nat.zero_le _⟩ hl.1 (Nat.le_of_ble_eq_true rfl) rfl dX5_swing_7 ?_
  refine mw_lne (tgt := 16) hx hb dX5_swing_10 dX5_swing_11 (by decide) (fun c_1 => ?_) (fun c_1 => ?_)
  · refine lv_iload_n hx hb dX5_swing_16 rfl (lv_at hl 0 rfl) ?_
    refine lv_iconst (v := 2) hx hb dX5_swing_17 (by decide) ?_
    refine lv_icmp_ne (tgt := 39) hx hb dX5_swing_18 (by decide) (fun c_2 => ?_) (fun c_2 => ?_)
    · refine lv_iload_n hx hb dX5_swing_39 rfl (lv_at hl 0 rfl) ?_
      refine lv_iconst (v := 3) hx hb dX5_swing_40 (by decide) ?_
      refine lv_icmp_ne (tgt := 61) hx hb dX5_swing_41 (by decide) (fun c_3 => ?_) (fun c_3 => ?_)
      · refine lv_iload_n hx hb dX5_swing_61 rfl (lv_at hl 0 rfl) ?_
        refine lv_iload_n hx hb dX5_swing_62 rfl (lv_at hl 0 rfl) ?_
        refine lv_lload_n hx hb dX5_swing_63 rfl (lv_at hl 1 rfl) ?_
        refine lv_lload_n hx hb dX5_swing_64 rfl (lv_at hl 2 rfl) ?_
        refine lv_lsub hx hb dX5_swing_65 ?_
        refine kS G (cvX5_cut l D sort (a - b)) okX5_cut hgf trivial qw4_5 ⟨Nat.le_of_ble_eq_true rfl, Nat.le_of_ble_eq_true rfl⟩ ⟨Nat.zero_le _, Nat.zero_le _⟩ hl.1 (Nat.le_of_ble_eq_true rfl) rfl dX5_swing_66 ?_
        refine kS G (cvX5_amount l D sort (fX5_cut sort (a - b))) okX5_amount hgf trivial qw4_77 ⟨Nat.le_of_ble_eq_true rfl, Nat.le_of_ble_eq_true rfl⟩ ⟨Nat.zero_le _, Nat.zero_le _⟩ hl.1 (Nat.le_of_ble_eq_true rfl) rfl dX5_swing_69 ?_
        exact mw_lret hx hb hr hlocks dX5_swing_72 ((if_neg c_1).trans ((if_neg c_2).trans ((if_neg c_3).trans (rfl)))).symm
      · refine lv_iload_n hx hb dX5_swing_44 rfl (lv_at hl 0 rfl) ?_
        refine lv_lload_n hx hb dX5_swing_45 rfl (lv_at hl 1 rfl) ?_
        refine kS G (cvX5_real l D a ((h3 c_1 c_3).1)) okX5_real hgf trivial qw4_117 ⟨Nat.le_of_ble_eq_true rfl, Nat.le_of_ble_eq_true rfl⟩ ⟨Nat.zero_le _, Nat.zero_le _⟩ hl.1 (Nat.le_of_ble_eq_true rfl) rfl dX5_swing_46 ?_
        refine lv_lload_n hx hb dX5_swing_49 rfl (lv_at hl 2 rfl) ?_
        refine kS G (cvX5_real l D b ((h3 c_1 c_3).2.1)) okX5_real hgf trivial qw4_117 ⟨Nat.le_of_ble_eq_true rfl, Nat.le_of_ble_eq_true rfl⟩ ⟨Nat.zero_le _, Nat.zero_le _⟩ hl.1 (Nat.le_of_ble_eq_true rfl) rfl dX5_swing_50 ?_
        refine lv_dsub hx hb dX5_swing_53 ((h3 c_1 c_3).2.2.1) ?_
        refine kS G (cvJxe99ae_doubleToLongBits_ccdee l D (FP.dsub (fX5_real a) (fX5_real b)) ((h3 c_1 c_3).2.2.2)) okJxe99ae_doubleToLongBits_ccdee hgf trivial qw4_123 ⟨Nat.le_of_ble_eq_true rfl, Nat.le_of_ble_eq_true rfl⟩ ⟨Nat.zero_le _, Nat.zero_le _⟩ hl.1 (Nat.le_of_ble_eq_true rfl) rfl dX5_swing_54 ?_
        refine kS G (cvX5_amount l D sort (fJxe99ae_doubleToLongBits_ccdee (FP.dsub (fX5_real a) (fX5_real b)))) okX5_amount hgf trivial qw4_77 ⟨Nat.le_of_ble_eq_true rfl, Nat.le_of_ble_eq_true rfl⟩ ⟨Nat.zero_le _, Nat.zero_le _⟩ hl.1 (Nat.le_of_ble_eq_true rfl) rfl dX5_swing_57 ?_
        exact mw_lret hx hb hr hlocks dX5_swing_60 ((if_neg c_1).trans ((if_neg c_2).trans ((if_pos c_3).trans (rfl)))).symm
    · refine lv_iload_n hx hb dX5_swing_21 rfl (lv_at hl 0 rfl) ?_
      refine lv_lload_n hx hb dX5_swing_22 rfl (lv_at hl 1 rfl) ?_
      refine kS G (cvX5_single l D a ((h2 c_1 c_2).1)) okX5_single hgf trivial qw4_101 ⟨Nat.le_of_ble_eq_true rfl, Nat.le_of_ble_eq_true rfl⟩ ⟨Nat.zero_le _, Nat.zero_le _⟩ hl.1 (Nat.le_of_ble_eq_true rfl) rfl dX5_swing_23 ?_
      refine lv_lload_n hx hb dX5_swing_26 rfl (lv_at hl 2 rfl) ?_
      refine kS G (cvX5_single l D b ((h2 c_1 c_2).2.1)) okX5_single hgf trivial qw4_101 ⟨Nat.le_of_ble_eq_true rfl, Nat.le_of_ble_eq_true rfl⟩ ⟨Nat.zero_le _, Nat.zero_le _⟩ hl.1 (Nat.le_of_ble_eq_true rfl) rfl dX5_swing_27 ?_
      refine lv_fsub hx hb dX5_swing_30 ((h2 c_1 c_2).2.2.1) ?_
      refine kS G (cvJxf58ca_floatToIntBits_5c35a l D (FP.fsub (fX5_single a) (fX5_single b)) ((h2 c_1 c_2).2.2.2)) okJxf58ca_floatToIntBits_5c35a hgf trivial qw4_107 ⟨Nat.le_of_ble_eq_true rfl, Nat.le_of_ble_eq_true rfl⟩ ⟨Nat.zero_le _, Nat.zero_le _⟩ hl.1 (Nat.le_of_ble_eq_true rfl) rfl dX5_swing_31 ?_
      refine lv_i2l hx hb dX5_swing_34 rfl ?_
      refine kS G (cvX5_amount l D sort ((fJxf58ca_floatToIntBits_5c35a (FP.fsub (fX5_single a) (fX5_single b))).toInt64)) okX5_amount hgf trivial qw4_77 ⟨Nat.le_of_ble_eq_true rfl, Nat.le_of_ble_eq_true rfl⟩ ⟨Nat.zero_le _, Nat.zero_le _⟩ hl.1 (Nat.le_of_ble_eq_true rfl) rfl dX5_swing_35 ?_
      exact mw_lret hx hb hr hlocks dX5_swing_38 ((if_neg c_1).trans ((if_pos c_2).trans (rfl))).symm
  · refine lv_lconst (v := 0) hx hb dX5_swing_14 (by decide) ?_
    exact mw_lret hx hb hr hlocks dX5_swing_15 ((if_pos c_1).trans (rfl)).symm
end
section
/-! METHODS THAT WRITE. cQ: from any heap that holds the cells w0 (apart): it answers v, the heap holds the cells w1 (apart, among the old ones and new ones), no other old cell has changed -/
def mQ (D : mG) (v : Option Value) (w1 : va_W) (A : Nat → Prop) : Array Value → State → Outcome → State → Prop := fun _ st o t => (o = .returned v ∧ va_P D.1 vwCl w1 t.heap ∧ va_D A w1) ∧ va_F A st t
def mPq (D : mG) (w0 : va_W) (sz : Nat) : State → Prop := fun U => U.heap.size = sz ∧ GF D U ∧ va_P D.1 vwCl w0 U.heap ∧ va_D (fun _ => True) w0
def cQ (l : Launch) (D : mG) (y : MethodName) (b : ByteArray) (n : Nat) (ret : Option FieldType) (rm : Room) (w0 : va_W) (As : List Value) (v : Option Value) (w1 : va_W) : Prop :=
  ∀ sz : Nat, Met l y (.code y b n ret :: aw) rm (va_Pc As (mPq D w0 sz)) (mQ D v w1 (va_A w0 sz)) rm.cells rm.slots (va_A w0 sz)
theorem mPq.blind {D : mG} {w0 : va_W} {sz : Nat} {As : List Value} : FrameBlind (va_Pc As (mPq D w0 sz)) := fun a U g mk q => ⟨q.1, q.2.1, GF.calling g mk a q.2.2.1, q.2.2.2⟩
theorem cQ_of {l : Launch} {D : mG} {y : MethodName} {b : ByteArray} {n : Nat} {ret : Option FieldType} {rm : Room} {w0 w1 : va_W} {As : List Value} {v : Option Value} (hy : plainName y.cls = true) (hn : (lg_sl As).length ≤ n)
    (body : ∀ (p : Program) (e : Env) (s : State) (m : MethodId) (below : List Frame) (meth : Method) (c : Code) (ls : Array Slot) (A : Nat → Prop), p.tables.exec = Jvm.exec → c.code = b → meth.sig.returnType = ret → meth.locks = false → CallFix p m c b n s As.toArray aw y.cls → meth.name = y.name → GF D s → (∀ q : Nat, s.heap.size ≤ q → A q) → va_P D.1 vwCl w0 s.heap → va_D A w0 → va_S A s.heap s.heap [] → lv_has ls n (lv_args 0 As) →
      W p l e rm s m As.toArray below meth c s.heap [] 0 0 (MQ below (mQ D v w1 A) As.toArray s rm.cells rm.slots A) (F0 m 0 ls [])) : cQ l D y b n ret rm w0 As v w1 := by
  intro sz
  refine Met.ofW (cc := b) (maxL := n) (ret := ret) hy rfl ?_
  intro p e s m args below meth c s₁ B hml hv
  obtain ⟨rfl, hsz, hg, hP, hD⟩ := hv
  have hts := atoms_spec (ws := .code y b n ret :: aw) B.pre
  rw [lg_entry_eq, ← hsz]
  exact body p e s m below meth c _ (va_A w0 s.heap.size) B.exec B.bytes B.returns B.notSynchronized ⟨B.exec, B.bytes, hml, findClass_of_methodNamed B.named, fun w h => hts w (List.mem_cons_of_mem _ h)⟩ (name_of_methodNamed B.named B.method).1 hg (fun q h => Or.inr h) hP hD.self va_S.rf (lv_entry As hn)
section MWQ
variable {p : Program} {l : Launch} {e : Env} {R : Room} {s : State} {m : MethodId} {args : Array Value} {below : List Frame} {meth : Method} {c : Code} {H : Heap} {locs : List Loc} {cells slots : Nat} {Q : State → Prop}
variable {cc : ByteArray} {pc nL index n : Nat} {ls : Array Slot} {st rest As : List Value} {D : mG} {own C : String} {y x : MethodName} {b : ByteArray} {ret : FieldType} {o : Nat} {ov : Option Value} {v : Value} {rm : Room} {ws w0 w1 wr : va_W} {A : Nat → Prop}
/-- behind a call of a method that writes -/
theorem mw_callQ {a : Array Value} (hr : va_Run p l e R s m args below meth c H locs cells slots rm.cells rm.slots (F0 m pc ls st) rest (mQ D ov w1 (va_A w0 H.size) a) (va_A w0 H.size)) (hP : va_P D.1 vwCl ws H) (hD : va_D A ws) (hS : va_S A s.heap H locs) (hA : ∀ q, s.heap.size ≤ q → A q)
    (isC isR : List Nat) (hC : isC.map (fun i => ws[i]?) = w0.map some) (hRr : isR.map (fun i => ws[i]?) = wr.map some) (hn : va_nd isR = true) (hdis : ∀ i ∈ isR, i ∉ isC)
    (kk : ∀ (H1 : Heap) (locs1 : List Loc), va_P D.1 vwCl (wr ++ w1) H1 → va_D A (wr ++ w1) → va_S A s.heap H1 locs1 → W p l e R s m args below meth c H1 locs1 (cells + rm.cells) (slots + rm.slots) Q (F0 m (pc + 3) ls (ov.toList ++ rest))) : W p l e R s m args below meth c H locs cells slots Q (F0 m pc ls st) := by
  intro T hT X
  have hF := va_free (wc := w0) hD hS hA isC hC
  obtain ⟨v1, st₀, t, T', L, h0, X', hL, e1, e2, ⟨⟨hv, hp1, hd1⟩, hz, hk⟩, go⟩ := hr T hT X
  cases hv
  rw [h0] at hz hk
  have hk1 : ∀ q : Nat, q < H.size → ¬ va_A w0 H.size q → T'.heap[q]? = H[q]? := fun q h1 h2 => by rw [e1]; exact hk q h1 h2
  obtain ⟨hP2, hD2⟩ := va_join (wr := wr) (w1 := w1) hP hD isC isR hC hRr hn hdis hk1 hF (by rw [e1]; exact hp1) hd1
  have hS2 : va_S A s.heap T'.heap (locs ++ L) := ⟨Nat.le_trans hS.1 (by rw [e1]; exact hz), fun q h1 h2 => by
      rw [hk1 q (Nat.lt_of_lt_of_le h1 hS.1) (fun z => h2 (hF q z))]; exact hS.2.1 q h1 h2, fun q hq => by
      rcases List.mem_append.mp hq with h | h
      · exact hS.2.2 q h
      · exact hF _ (hL q h)⟩
  obtain ⟨t2, a1, b1⟩ := kk T'.heap (locs ++ L) hP2 hD2 hS2 T' rfl X'
  exact ⟨t2, go t2 a1, b1⟩
theorem mw_preQ (hgf : GF D s) (hP : va_P D.1 vwCl ws H) (hD : va_D A ws) (isC : List Nat) (hnd : va_nd isC = true) (hC : isC.map (fun i => ws[i]?) = w0.map some) (U : State) (hU : U.heap = H) (hW : s.WarmedH U.vm) : va_Pc As (mPq D w0 H.size) As.toArray U := by
  refine ⟨rfl, by rw [hU], GF.warm hW hgf, ?_, (hD.sub isC hnd hC).weaken (fun _ _ _ _ => trivial)⟩
  rw [hU]
  intro k q hk
  have h1 : (w0.map some)[k]? = some (some q) := by rw [List.getElem?_map, hk]; rfl
  rw [← hC, List.getElem?_map] at h1
  obtain ⟨i, -, h2⟩ := Option.map_eq_some_iff.mp h1
  exact hP i q h2
theorem kQ (G : CallFix p m c cc nL s args aw own) (hM : cQ l D y b n (some ret) rm w0 (.ref o :: As) ov w1) (hok : okV C y b n ret As.length) (hgf : GF D s) (hP : va_P D.1 vwCl ws H) (hD : va_D A ws) (hS : va_S A s.heap H locs) (hA : ∀ q, s.heap.size ≤ q → A q)
    (isC isR : List Nat) (hnd : va_nd isC = true) (hC : isC.map (fun i => ws[i]?) = w0.map some) (hRr : isR.map (fun i => ws[i]?) = wr.map some) (hn : va_nd isR = true) (hdis : ∀ i ∈ isR, i ∉ isC)
    (hrc : ∃ cell : Cell, H[o]? = some cell ∧ cell.vm.isStatics = false ∧ s.vm.findClass C = some cell.cls) (hl : Cond.methodLink own index y ∈ aw) (hR : rm.frames + 1 ≤ R.frames ∧ 8 + (n + 11) + rm.locals ≤ R.locals) (hcs : cells + rm.cells ≤ R.cells ∧ slots + rm.slots ≤ R.slots) (hls : ls.size = nL) (hrest : (rest.map fun v => v.category).sum ≤ 8)
    (hst : st = As.reverse ++ .ref o :: rest) (hdg : decode cc pc = .ok (.invokevirtual index, 3))
    (kk : ∀ (H1 : Heap) (locs1 : List Loc), va_P D.1 vwCl (wr ++ w1) H1 → va_D A (wr ++ w1) → va_S A s.heap H1 locs1 → W p l e R s m args below meth c H1 locs1 (cells + rm.cells) (slots + rm.slots) Q (F0 m (pc + 3) ls (ov.toList ++ rest))) : W p l e R s m args below meth c H locs cells slots Q (F0 m pc ls st) := by
  obtain ⟨h1, h2, h3, h4, hd⟩ := hok
  refine mw_callQ (va_runV (As := As) (rest := rest) G (hM H.size) (cwV As.length G.2.2.2.2 (aw_gl (fun w h => ?_)) rfl rfl rfl hd hR) ⟨mPq.blind, hrc, fun U hU hW => mw_preQ hgf hP hD isC hnd hC U hU hW⟩ rfl rfl hls hst (lv_room hrest) hdg hcs) hP hD hS hA isC isR hC hRr hn hdis kk
  simp only [wsV, List.mem_append, List.mem_cons, List.not_mem_nil, or_false] at h
  rcases h with (rfl | rfl | rfl | rfl) | rfl | h
  · exact hl
  · exact h1
  · exact h2
  · exact h3
  · exact h4
  · exact h
theorem mw_put {ci N : Nat} {fs : List Value} {T : u_T} {ty : FieldType} (G : CallFix p m c cc nL s args aw own) (hgf : GF D s) (hP : va_P D.1 vwCl ws H) (hD : va_D A ws) (hS : va_S A s.heap H locs) (q0 : Nat) (he : ws[q0]? = some (o, .inr (ci, fs))) (hc : vwCl[ci]? = some (C, T, N)) (hin : ∀ w ∈ u_ws C T N, w ∈ aw) {ty0 : Nat → FieldType} (hty : ∀ k, k < N → parseFieldDescriptor (T k).2.2.1 = some (ty0 k)) (hnm : ∀ a, a < N → ∀ b, b < N → a ≠ b → (T a).2.1 ≠ (T b).2.1) (k : Nat) (hk : k < N) (hl : Cond.fieldLink own index (T k).1 (T k).2.1 (T k).2.2.1 ∈ aw) (hfin : (T k).2.2.2 = false) (hd : ty0 k = ty) (hn : narrow ty v = v) (hfit : fits ty v = true) (hlen : k < fs.length) (hw : ws.set q0 (o, .inr (ci, fs.set k v)) = w1) (hdg : decode cc pc = .ok (.putfield index, 3))
    (kk : ∀ (H1 : Heap) (locs1 : List Loc), va_P D.1 vwCl w1 H1 → va_D A w1 → va_S A s.heap H1 locs1 → W p l e R s m args below meth c H1 locs1 cells slots Q (F0 m (pc + 3) ls rest)) : W p l e R s m args below meth c H locs cells slots Q (F0 m pc ls (v :: .ref o :: rest)) := by
  subst hw
  exact va_put G.1 G.2.1 G.2.2.2.2 hin ty0 hty hnm G.2.2.2.1 hgf.K hP hD hS q0 he hc k hk (G.2.2.2.2 _ hl) (fun _ h => h) hfin (by rw [← hd]; exact hty k hk) hn hfit hlen hdg kk
theorem mw_iast {a n : Nat} {f : Nat → Int32} {x j : Int32} (G : CallFix p m c cc nL s args aw own) (hgf : GF D s) (hP : va_P D.1 vwCl ws H) (hD : va_D A ws) (hS : va_S A s.heap H locs) (q0 : Nat) (he : ws[q0]? = some (a, .inl (D.2.1, n, .inl f))) (hin : vp_in j n) (hw : ws.set q0 (a, .inl (D.2.1, n, .inl (upd f j.toNatClampNeg x))) = w1) (hdg : decode cc pc = .ok (.iastore, 1))
    (kk : ∀ (H1 : Heap) (locs1 : List Loc), va_P D.1 vwCl w1 H1 → va_D A w1 → va_S A s.heap H1 locs1 → W p l e R s m args below meth c H1 locs1 cells slots Q (F0 m (pc + 1) ls rest)) : W p l e R s m args below meth c H locs cells slots Q (F0 m pc ls (.int x :: .int j :: .ref a :: rest)) := by
  subst hw
  exact va_iast G.1 G.2.1 hgf.K hP hD hS q0 0 he rfl hin hdg kk
theorem mw_last {a n : Nat} {f : Nat → Int64} {x : Int64} {j : Int32} (G : CallFix p m c cc nL s args aw own) (hgf : GF D s) (hP : va_P D.1 vwCl ws H) (hD : va_D A ws) (hS : va_S A s.heap H locs) (q0 : Nat) (he : ws[q0]? = some (a, .inl (D.2.2.1, n, .inr (.inl f)))) (hin : vp_in j n) (hw : ws.set q0 (a, .inl (D.2.2.1, n, .inr (.inl (vp_updL f j.toNatClampNeg x)))) = w1) (hdg : decode cc pc = .ok (.lastore, 1))
    (kk : ∀ (H1 : Heap) (locs1 : List Loc), va_P D.1 vwCl w1 H1 → va_D A w1 → va_S A s.heap H1 locs1 → W p l e R s m args below meth c H1 locs1 cells slots Q (F0 m (pc + 1) ls rest)) : W p l e R s m args below meth c H locs cells slots Q (F0 m pc ls (.long x :: .int j :: .ref a :: rest)) := by
  subst hw
  exact va_last G.1 G.2.1 hgf.K hP hD hS q0 1 he rfl hin hdg kk
theorem mw_iald {a n : Nat} {f : Nat → Int32} {j : Int32} (G : CallFix p m c cc nL s args aw own) (hgf : GF D s) (hP : va_at D.1 vwCl (a, .inl (D.2.1, n, .inl f)) H) (hin : vp_in j n) (hdg : decode cc pc = .ok (.iaload, 1)) (kk : W p l e R s m args below meth c H locs cells slots Q (F0 m (pc + 1) ls (.int (f j.toNatClampNeg) :: rest))) : W p l e R s m args below meth c H locs cells slots Q (F0 m pc ls (.int j :: .ref a :: rest)) :=
  va_iald G.1 G.2.1 hgf.K hP.P 0 0 rfl rfl hin hdg kk
theorem mw_lald {a n : Nat} {f : Nat → Int64} {j : Int32} (G : CallFix p m c cc nL s args aw own) (hgf : GF D s) (hP : va_at D.1 vwCl (a, .inl (D.2.2.1, n, .inr (.inl f))) H) (hin : vp_in j n) (hdg : decode cc pc = .ok (.laload, 1)) (kk : W p l e R s m args below meth c H locs cells slots Q (F0 m (pc + 1) ls (.long (f j.toNatClampNeg) :: rest))) : W p l e R s m args below meth c H locs cells slots Q (F0 m pc ls (.int j :: .ref a :: rest)) :=
  va_lald G.1 G.2.1 hgf.K hP.P 0 1 rfl rfl hin hdg kk
theorem mw_aald {a n : Nat} {f : Nat → Option Nat} {j : Int32} (G : CallFix p m c cc nL s args aw own) (hgf : GF D s) (hP : va_at D.1 vwCl (a, .inl (D.2.2.2, n, .inr (.inr (.inr (.inr f))))) H) (hin : vp_in j n) (hdg : decode cc pc = .ok (.aaload, 1)) (kk : W p l e R s m args below meth c H locs cells slots Q (F0 m (pc + 1) ls (va_rf (f j.toNatClampNeg) :: rest))) : W p l e R s m args below meth c H locs cells slots Q (F0 m pc ls (.int j :: .ref a :: rest)) :=
  va_aldq G.1 G.2.1 hgf.K hP.P 0 2 rfl rfl hin hdg kk
end MWQ
/-! THE REFERENCE's CELLS. M.1 a: the ints of array a; M.2 a: its longs; a: 0 sorts, 1 chains, 2 steps, 3 sources, 4 told (longs), 5 lows, 6 highs (longs), 7 many, 8 kept, 9 leasts, 10 greatests, 11 swings, 12 sums (longs), 13 alarms; M.1 14: instruments, readings, allAlarms, done. t: thrown -/
abbrev MSt : Type := (Nat → Nat → Int32) × (Nat → Nat → Int64)
def sI (M : MSt) (a i : Nat) (v : Int32) : MSt := (va_up M.1 a (upd (M.1 a) i v), M.2)
def sL (M : MSt) (a i : Nat) (v : Int64) : MSt := (M.1, va_up M.2 a (vp_updL (M.2 a) i v))
abbrev mF (ma : Nat → Nat) (t : Int32) (M : MSt) : List Value := [.int t, .int (M.1 14 0), .ref (ma 0), .ref (ma 1), .ref (ma 2), .ref (ma 3), .ref (ma 4), .ref (ma 5), .ref (ma 6), .ref (ma 7), .ref (ma 8), .ref (ma 9), .ref (ma 10), .ref (ma 11), .ref (ma 12), .ref (ma 13), .int (M.1 14 1), .int (M.1 14 2), .int (M.1 14 3)]
abbrev wM (D : mG) (r : Nat) (ma : Nat → Nat) (t : Int32) (M : MSt) : va_W := [(r, .inr (4, mF ma t M)), (ma 0, .inl (D.2.1, 8, .inl (M.1 0))), (ma 1, .inl (D.2.1, 8, .inl (M.1 1))), (ma 2, .inl (D.2.1, 48, .inl (M.1 2))), (ma 3, .inl (D.2.1, 48, .inl (M.1 3))), (ma 4, .inl (D.2.2.1, 48, .inr (.inl (M.2 4)))), (ma 5, .inl (D.2.2.1, 8, .inr (.inl (M.2 5)))), (ma 6, .inl (D.2.2.1, 8, .inr (.inl (M.2 6)))), (ma 7, .inl (D.2.1, 8, .inl (M.1 7))), (ma 8, .inl (D.2.2.1, 128, .inr (.inl (M.2 8)))), (ma 9, .inl (D.2.2.1, 8, .inr (.inl (M.2 9)))), (ma 10, .inl (D.2.2.1, 8, .inr (.inl (M.2 10)))), (ma 11, .inl (D.2.2.1, 8, .inr (.inl (M.2 11)))), (ma 12, .inl (D.2.2.1, 8, .inr (.inl (M.2 12)))), (ma 13, .inl (D.2.1, 8, .inl (M.1 13)))]
section MWM
variable {p : Program} {l : Launch} {e : Env} {R : Room} {s : State} {m : MethodId} {args : Array Value} {below : List Frame} {meth : Method} {c : Code} {H : Heap} {locs : List Loc} {cells slots : Nat}
variable {cc : ByteArray} {pc : Nat} {ls : Array Slot} {D : mG} {r : Nat} {ma : Nat → Nat} {A : Nat → Prop} {t : Int32} {M : MSt}
theorem mM_lret {x : Int64} {h : Int64 × Int32 × MSt} (heq : h = (x, t, M)) (hx : p.tables.exec = Jvm.exec) (hb : c.code = cc) (hr : meth.sig.returnType = some .long) (hlocks : meth.locks = false) (hP : va_P D.1 vwCl (wM D r ma t M) H) (hD : va_D A (wM D r ma t M)) (hS : va_S A s.heap H locs) (hdg : decode cc pc = .ok (.lreturn, 1)) : W p l e R s m args below meth c H locs 0 0 (MQ below (mQ D (some (.long h.1)) (wM D r ma h.2.1 h.2.2) A) args s 0 0 A) (F0 m pc ls [.long x]) := by
  subst heq
  exact W.lret hx hb hr (fun u hu _ => ⟨⟨rfl, by rw [hu]; exact hP, hD⟩, hS.F hu⟩) hS.2.2 hdg hlocks
theorem mM_iret {x : Int32} {h : Int32 × Int32 × MSt} (heq : h = (x, t, M)) (hx : p.tables.exec = Jvm.exec) (hb : c.code = cc) (hr : meth.sig.returnType = some .int) (hlocks : meth.locks = false) (hP : va_P D.1 vwCl (wM D r ma t M) H) (hD : va_D A (wM D r ma t M)) (hS : va_S A s.heap H locs) (hdg : decode cc pc = .ok (.ireturn, 1)) : W p l e R s m args below meth c H locs 0 0 (MQ below (mQ D (some (.int h.1)) (wM D r ma h.2.1 h.2.2) A) args s 0 0 A) (F0 m pc ls [.int x]) := by
  subst heq
  exact W.iret hx hb hr (fun u hu _ => ⟨⟨rfl, by rw [hu]; exact hP, hD⟩, hS.F hu⟩) hS.2.2 hdg hlocks
theorem mM_zret {x : Int32} {h : Int32 × Int32 × MSt} (heq : h = (x, t, M)) (hx : p.tables.exec = Jvm.exec) (hb : c.code = cc) (hr : meth.sig.returnType = some .boolean) (hlocks : meth.locks = false) (hn : x = 0 ∨ x = 1) (hP : va_P D.1 vwCl (wM D r ma t M) H) (hD : va_D A (wM D r ma t M)) (hS : va_S A s.heap H locs) (hdg : decode cc pc = .ok (.ireturn, 1)) : W p l e R s m args below meth c H locs 0 0 (MQ below (mQ D (some (.int h.1)) (wM D r ma h.2.1 h.2.2) A) args s 0 0 A) (F0 m pc ls [.int x]) := by
  subst heq
  exact W.zret hx hb hr (by rcases hn with rfl | rfl <;> decide) (fun u hu _ => ⟨⟨rfl, by rw [hu]; exact hP, hD⟩, hS.F hu⟩) hS.2.2 hdg hlocks
end MWM
end
section
/-! THE REFERENCE's METHODS over its cells -/
section MN
variable {p : Program} {l : Launch} {e : Env} {R : Room} {s : State} {m : MethodId} {args : Array Value} {below : List Frame} {meth : Method} {c : Code} {H : Heap} {locs : List Loc} {cells slots : Nat} {Q : State → Prop}
variable {cc : ByteArray} {pc nL n : Nat} {ls : Array Slot} {rest : List Value} {D : mG} {own : String} {ws w1 : va_W} {A : Nat → Prop} {a : Nat} {j : Int32}
theorem mN_iald {f : Nat → Int32} (G : CallFix p m c cc nL s args aw own) (hgf : GF D s) (hP : va_at D.1 vwCl (a, .inl (D.2.1, n, .inl f)) H) {k : Nat} (hj : j = nI k) (hk : k < n) (hn : n < 2 ^ 31) (hdg : decode cc pc = .ok (.iaload, 1)) (kk : W p l e R s m args below meth c H locs cells slots Q (F0 m (pc + 1) ls (.int (f k) :: rest))) : W p l e R s m args below meth c H locs cells slots Q (F0 m pc ls (.int j :: .ref a :: rest)) := by
  subst hj
  refine mw_iald G hgf hP (vp_in_nI hk hn) hdg ?_
  rw [nI_clamp (by omega)]
  exact kk
theorem mN_lald {f : Nat → Int64} (G : CallFix p m c cc nL s args aw own) (hgf : GF D s) (hP : va_at D.1 vwCl (a, .inl (D.2.2.1, n, .inr (.inl f))) H) {k : Nat} (hj : j = nI k) (hk : k < n) (hn : n < 2 ^ 31) (hdg : decode cc pc = .ok (.laload, 1)) (kk : W p l e R s m args below meth c H locs cells slots Q (F0 m (pc + 1) ls (.long (f k) :: rest))) : W p l e R s m args below meth c H locs cells slots Q (F0 m pc ls (.int j :: .ref a :: rest)) := by
  subst hj
  refine mw_lald G hgf hP (vp_in_nI hk hn) hdg ?_
  rw [nI_clamp (by omega)]
  exact kk
theorem mN_aald {f : Nat → Option Nat} (G : CallFix p m c cc nL s args aw own) (hgf : GF D s) (hP : va_at D.1 vwCl (a, .inl (D.2.2.2, n, .inr (.inr (.inr (.inr f))))) H) {k : Nat} (hj : j = nI k) (hk : k < n) (hn : n < 2 ^ 31) (hdg : decode cc pc = .ok (.aaload, 1)) (kk : W p l e R s m args below meth c H locs cells slots Q (F0 m (pc + 1) ls (va_rf (f k) :: rest))) : W p l e R s m args below meth c H locs cells slots Q (F0 m pc ls (.int j :: .ref a :: rest)) := by
  subst hj
  refine mw_aald G hgf hP (vp_in_nI hk hn) hdg ?_
  rw [nI_clamp (by omega)]
  exact kk
theorem mN_iast {f : Nat → Int32} {x : Int32} (G : CallFix p m c cc nL s args aw own) (hgf : GF D s) (hP : va_P D.1 vwCl ws H) (hD : va_D A ws) (hS : va_S A s.heap H locs) (q0 : Nat) (he : ws[q0]? = some (a, .inl (D.2.1, n, .inl f))) {k : Nat} (hj : j = nI k) (hk : k < n) (hn : n < 2 ^ 31) (hw : ws.set q0 (a, .inl (D.2.1, n, .inl (upd f k x))) = w1) (hdg : decode cc pc = .ok (.iastore, 1))
    (kk : ∀ (H1 : Heap) (locs1 : List Loc), va_P D.1 vwCl w1 H1 → va_D A w1 → va_S A s.heap H1 locs1 → W p l e R s m args below meth c H1 locs1 cells slots Q (F0 m (pc + 1) ls rest)) : W p l e R s m args below meth c H locs cells slots Q (F0 m pc ls (.int x :: .int j :: .ref a :: rest)) := by
  subst hj
  exact mw_iast G hgf hP hD hS q0 he (vp_in_nI hk hn) (by rw [nI_clamp (by omega)]; exact hw) hdg kk
theorem mN_last {f : Nat → Int64} {x : Int64} (G : CallFix p m c cc nL s args aw own) (hgf : GF D s) (hP : va_P D.1 vwCl ws H) (hD : va_D A ws) (hS : va_S A s.heap H locs) (q0 : Nat) (he : ws[q0]? = some (a, .inl (D.2.2.1, n, .inr (.inl f)))) {k : Nat} (hj : j = nI k) (hk : k < n) (hn : n < 2 ^ 31) (hw : ws.set q0 (a, .inl (D.2.2.1, n, .inr (.inl (vp_updL f k x)))) = w1) (hdg : decode cc pc = .ok (.lastore, 1))
    (kk : ∀ (H1 : Heap) (locs1 : List Loc), va_P D.1 vwCl w1 H1 → va_D A w1 → va_S A s.heap H1 locs1 → W p l e R s m args below meth c H1 locs1 cells slots Q (F0 m (pc + 1) ls rest)) : W p l e R s m args below meth c H locs cells slots Q (F0 m pc ls (.long x :: .int j :: .ref a :: rest)) := by
  subst hj
  exact mw_last G hgf hP hD hS q0 he (vp_in_nI hk hn) (by rw [nI_clamp (by omega)]; exact hw) hdg kk
end MN
/-- how many readings instrument j has, how many steps; its latest reading -/
def cnt (M : MSt) (j : Nat) : Nat := (M.1 7 j).toNatClampNeg
def chn (M : MSt) (j : Nat) : Nat := (M.1 1 j).toNatClampNeg
def lat (M : MSt) (j : Nat) : Int64 := if cnt M j = 0 then 0 else M.2 8 (16 * j + (cnt M j - 1) % 16)
/-- a state with n instruments -/
def mok (M : MSt) (n : Nat) : Prop := n ≤ 8 ∧ M.1 14 0 = nI n ∧ (∀ j, j < 8 → chn M j ≤ 6 ∧ M.1 1 j = nI (chn M j)) ∧ (∀ j, j < 8 → cnt M j ≤ 512 ∧ M.1 7 j = nI (cnt M j)) ∧ ∀ j, j < n → ∀ c, c < chn M j → M.1 3 (6 * j + c) < 0 ∨ ∃ k, k < n ∧ M.1 3 (6 * j + c) = nI k
def fX5_isInst (n i : Int32) : Int32 := if i < 0 then 0 else (if n ≤ i then 0 else 1)
theorem isInst_in {n j : Nat} (h : j < n) (hn : n ≤ 8) : fX5_isInst (nI n) (nI j) = 1 := by
  unfold fX5_isInst
  rw [if_neg (nI_pos (by omega)), if_neg (nI_ge h (by omega))]
theorem isInst_out {n : Nat} {i : Int32} (hn : n ≤ 8) (h : ¬ ∃ j, j < n ∧ i = nI j) : fX5_isInst (nI n) i = 0 := by
  unfold fX5_isInst
  by_cases h0 : i < 0
  · rw [if_pos h0]
  · rw [if_neg h0]
    by_cases h1 : nI n ≤ i
    · rw [if_pos h1]
    · obtain ⟨j, hj, rfl⟩ := nI_of h0
      exact absurd ⟨j, by
        rcases Nat.lt_or_ge j n with q | q
        · exact q
        · exact absurd (nI_le q hj) h1, rfl⟩ h
theorem nI_m16 {j k : Nat} (hk : k ≤ 512) (hj : j < 8) : (16 : Int32) * nI j + (nI k - nI k / 16 * 16) = nI (16 * j + k % 16) := by
  rw [show (16 : Int32) = nI 16 from rfl, pk_rem (by omega) (by omega) (by omega), pk_mul, nI_add]
theorem nI_m16p {j k : Nat} (h0 : k ≠ 0) (hk : k ≤ 512) (hj : j < 8) : (16 : Int32) * nI j + ((nI k - 1) - (nI k - 1) / 16 * 16) = nI (16 * j + (k - 1) % 16) := by
  obtain ⟨q, rfl⟩ : ∃ q, k = q + 1 := ⟨k - 1, by omega⟩
  rw [nI_pred, Nat.add_sub_cancel, show (16 : Int32) = nI 16 from rfl, pk_rem (by omega) (by omega) (by omega), pk_mul, nI_add]
theorem nI_6 {j c : Nat} : (6 : Int32) * nI j + nI c = nI (6 * j + c) := by
  rw [show (6 : Int32) = nI 6 from rfl, pk_mul, nI_add]
theorem nI_z {k : Nat} (hk : k ≤ 512) : nI k = 0 ↔ k = 0 := by
  rw [show (0 : Int32) = nI 0 from rfl]; exact nI_eq (by omega) (by omega)
theorem sI_self (M : MSt) (a i : Nat) (v : Int32) : (sI M a i v).1 a i = v := by simp [sI, va_up, upd]
theorem sL_self (M : MSt) (a i : Nat) (v : Int64) : (sL M a i v).2 a i = v := by simp [sL, va_up, vp_updL]
theorem lt8 {n : Nat} (h : n ≤ 8) (h2 : ¬ nI n = 8) : n < 8 := by
  rcases Nat.lt_or_ge n 8 with q | q
  · exact q
  · exact absurd (by rw [show n = 8 by omega]; rfl) h2
theorem lt6 {n : Nat} (h : n ≤ 6) (h2 : ¬ nI n = 6) : n < 6 := by
  rcases Nat.lt_or_ge n 6 with q | q
  · exact q
  · exact absurd (by rw [show n = 6 by omega]; rfl) h2
theorem nI_rd {j k : Nat} {x : Int32} (hk : k ≤ 512) (hj : j < 8) (h0 : ¬ x < 0) (h1 : ¬ nI k ≤ x) : (16 : Int32) * nI j + (((nI k - 1) - x) - ((nI k - 1) - x) / 16 * 16) = nI (16 * j + (k - 1 - x.toNatClampNeg) % 16) := by
  obtain ⟨q, hq, rfl⟩ := nI_of h0
  rw [nI_clamp hq]
  have hlt : q < k := by
    rcases Nat.lt_or_ge q k with z | z
    · exact z
    · exact absurd (nI_le z hq) h1
  obtain ⟨z, rfl⟩ : ∃ z, k = z + 1 := ⟨k - 1, by omega⟩
  rw [nI_pred, Nat.add_sub_cancel, pk_sub (by omega), show (16 : Int32) = nI 16 from rfl, pk_rem (by omega) (by omega) (by omega), pk_mul, nI_add]
theorem pair3 {α β γ : Type} {a a' : α} {b b' : β} {c c' : γ} (h1 : a = a') (h2 : b = b') (h3 : c = c') : (a, b, c) = (a', b', c') := by rw [h1, h2, h3]
set_option maxRecDepth 100000 in
set_option maxHeartbeats 4000000 in
theorem cvX5_thrown (l : Launch) (D : mG) (r : Nat) (ma : Nat → Nat) (t : Int32) (M : MSt)  : cV l D yX5_thrown cX5_thrown 1 .int 0 (fun H => va_P D.1 vwCl (wM D r ma t M) H) [.ref r] (.int t) := by
  refine cV_of (by decide) (Nat.le_of_ble_eq_true rfl) ?_
  intro p e s m below meth c ls hx hb hr hlocks G hgf hP hl
  have hP : va_P D.1 vwCl (wM D r ma t M) s.heap := hP
  have hl : lv_has ls 1 [(0, .ref r)] := hl
  refine lv_aload_n hx hb dX5_thrown_0 rfl (lv_at hl 0 rfl) ?_
  refine mw_get G hgf (hP 0 _ rfl) rfl inX5 0 (by decide) qw3_161 rfl dX5_thrown_1 ?_
  exact mw_iret hx hb hr hlocks dX5_thrown_4 (rfl)
set_option maxRecDepth 100000 in
set_option maxHeartbeats 4000000 in
theorem cqX5_fail (l : Launch) (D : mG) (r : Nat) (ma : Nat → Nat) (t : Int32) (M : MSt) (pl : Int32) : cQ l D yX5_fail cX5_fail 2 (some .int) (rmP 0) (wM D r ma t M) [.ref r, .int pl] (some (.int 0)) (wM D r ma pl M) := by
  refine cQ_of (by decide) (Nat.le_of_ble_eq_true rfl) ?_
  intro p e s m below meth c ls A hx hb hr hlocks G hnm hgf hA hP hD hS hl
  have hl : lv_has ls 2 [(0, .ref r), (1, .int pl)] := hl
  refine lv_aload_n hx hb dX5_fail_0 rfl (lv_at hl 0 rfl) ?_
  refine lv_iload_n hx hb dX5_fail_1 rfl (lv_at hl 1 rfl) ?_
  refine mw_put (w1 := wM D r ma pl M) G hgf hP hD hS 0 rfl rfl inX5 tyX5_ok nmX5 0 (by decide) qw3_161 rfl rfl rfl rfl (Nat.le_of_ble_eq_true rfl) rfl dX5_fail_2 (fun H locs hP hD hS => ?_)
  refine lv_iconst (v := 0) hx hb dX5_fail_5 (by decide) ?_
  exact mM_iret (h := (0, pl, M)) (rfl) hx hb hr hlocks hP hD hS dX5_fail_6
set_option maxRecDepth 100000 in
set_option maxHeartbeats 4000000 in
theorem cvX5_isInstrument (l : Launch) (D : mG) (r : Nat) (ma : Nat → Nat) (t : Int32) (M : MSt) (i : Int32) : cV l D yX5_isInstrument cX5_isInstrument 2 .boolean 0 (fun H => va_P D.1 vwCl (wM D r ma t M) H) [.ref r, .int i] (.int (fX5_isInst (M.1 14 0) i)) := by
  refine cV_of (by decide) (Nat.le_of_ble_eq_true rfl) ?_
  intro p e s m below meth c ls hx hb hr hlocks G hgf hP hl
  have hP : va_P D.1 vwCl (wM D r ma t M) s.heap := hP
  have hl : lv_has ls 2 [(0, .ref r), (1, .int i)] := hl
  refine lv_iload_n hx hb dX5_isInstrument_0 rfl (lv_at hl 1 rfl) ?_
  refine lv_if_lt (tgt := 16) hx hb dX5_isInstrument_1 (by decide) (fun c_1 => ?_) (fun c_1 => ?_)
  · refine lv_iconst (v := 0) hx hb dX5_isInstrument_16 (by decide) ?_
    exact mw_zret hx hb hr hlocks dX5_isInstrument_17 (Or.inl rfl) (((if_pos c_1).trans (rfl)).symm)
  · refine lv_iload_n hx hb dX5_isInstrument_4 rfl (lv_at hl 1 rfl) ?_
    refine lv_aload_n hx hb dX5_isInstrument_5 rfl (lv_at hl 0 rfl) ?_
    refine mw_get G hgf (hP 0 _ rfl) rfl inX5 1 (by decide) qw3_162 rfl dX5_isInstrument_6 ?_
    refine lv_icmp_ge (tgt := 16) hx hb dX5_isInstrument_9 (by decide) (fun c_2 => ?_) (fun c_2 => ?_)
    · refine lv_iconst (v := 0) hx hb dX5_isInstrument_16 (by decide) ?_
      exact mw_zret hx hb hr hlocks dX5_isInstrument_17 (Or.inl rfl) (((if_neg c_1).trans ((if_pos c_2).trans (rfl))).symm)
    · refine lv_iconst (v := 1) hx hb dX5_isInstrument_12 (by decide) ?_
      refine lv_goto (tgt := 17) hx hb dX5_isInstrument_13 (by decide) ?_
      exact mw_zret hx hb hr hlocks dX5_isInstrument_17 (Or.inr rfl) (((if_neg c_1).trans ((if_neg c_2).trans (rfl))).symm)
set_option maxRecDepth 100000 in
set_option maxHeartbeats 4000000 in
theorem cvX5_latest (l : Launch) (D : mG) (r : Nat) (ma : Nat → Nat) (t : Int32) (M : MSt) {j : Nat} (hj : j < 8) (hc : cnt M j ≤ 512) (hm : M.1 7 j = nI (cnt M j)) : cV l D yX5_latest cX5_latest 2 .long 0 (fun H => va_P D.1 vwCl (wM D r ma t M) H) [.ref r, .int (nI j)] (.long (lat M j)) := by
  refine cV_of (by decide) (Nat.le_of_ble_eq_true rfl) ?_
  intro p e s m below meth c ls hx hb hr hlocks G hgf hP hl
  have hP : va_P D.1 vwCl (wM D r ma t M) s.heap := hP
  have hl : lv_has ls 2 [(0, .ref r), (1, .int (nI j))] := hl
  by_cases h0 : cnt M j = 0
  · refine lv_aload_n hx hb dX5_latest_0 rfl (lv_at hl 0 rfl) ?_
    refine mw_get G hgf (hP 0 _ rfl) rfl inX5 9 (by decide) qw3_170 rfl dX5_latest_1 ?_
    refine lv_iload_n hx hb dX5_latest_4 rfl (lv_at hl 1 rfl) ?_
    refine mN_iald (f := M.1 7) G hgf (hP 8 _ rfl) (k := j) (rfl) (hj) (by decide) dX5_latest_5 ?_
    rw [show M.1 7 j = nI (cnt M j) from hm]
    refine lv_if_ne (tgt := 13) hx hb dX5_latest_6 (by decide) (fun h => absurd ((nI_z hc).mpr h0) h) (fun _ => ?_)
    refine lv_lconst (v := 0) hx hb dX5_latest_9 (by decide) ?_
    refine lv_goto (tgt := 34) hx hb dX5_latest_10 (by decide) ?_
    exact mw_lret hx hb hr hlocks dX5_latest_34 ((if_pos h0).symm)
  · refine lv_aload_n hx hb dX5_latest_0 rfl (lv_at hl 0 rfl) ?_
    refine mw_get G hgf (hP 0 _ rfl) rfl inX5 9 (by decide) qw3_170 rfl dX5_latest_1 ?_
    refine lv_iload_n hx hb dX5_latest_4 rfl (lv_at hl 1 rfl) ?_
    refine mN_iald (f := M.1 7) G hgf (hP 8 _ rfl) (k := j) (rfl) (hj) (by decide) dX5_latest_5 ?_
    rw [show M.1 7 j = nI (cnt M j) from hm]
    refine lv_if_ne (tgt := 13) hx hb dX5_latest_6 (by decide) (fun _ => ?_) (fun h => absurd h (fun q => h0 ((nI_z hc).mp q)))
    refine lv_aload_n hx hb dX5_latest_13 rfl (lv_at hl 0 rfl) ?_
    refine mw_get G hgf (hP 0 _ rfl) rfl inX5 10 (by decide) qw3_171 rfl dX5_latest_14 ?_
    refine lv_bipush (v := 16) hx hb dX5_latest_17 (by decide) ?_
    refine lv_iload_n hx hb dX5_latest_19 rfl (lv_at hl 1 rfl) ?_
    refine lv_imul hx hb dX5_latest_20 ?_
    refine lv_aload_n hx hb dX5_latest_21 rfl (lv_at hl 0 rfl) ?_
    refine mw_get G hgf (hP 0 _ rfl) rfl inX5 9 (by decide) qw3_170 rfl dX5_latest_22 ?_
    refine lv_iload_n hx hb dX5_latest_25 rfl (lv_at hl 1 rfl) ?_
    refine mN_iald (f := M.1 7) G hgf (hP 8 _ rfl) (k := j) (rfl) (hj) (by decide) dX5_latest_26 ?_
    rw [show M.1 7 j = nI (cnt M j) from hm]
    refine lv_iconst (v := 1) hx hb dX5_latest_27 (by decide) ?_
    refine lv_isub hx hb dX5_latest_28 ?_
    refine lv_bipush (v := 16) hx hb dX5_latest_29 (by decide) ?_
    refine lv_irem hx hb dX5_latest_31 (by decide) ?_
    refine lv_iadd hx hb dX5_latest_32 ?_
    refine mN_lald (f := M.2 8) G hgf (hP 9 _ rfl) (k := 16 * j + (cnt M j - 1) % 16) (nI_m16p h0 hc hj) (by omega) (by decide) dX5_latest_33 ?_
    exact mw_lret hx hb hr hlocks dX5_latest_34 ((if_neg h0).symm)
end
section
/-! THE REFERENCE: what its public methods answer, throw and leave; j: an instrument that is mounted -/
def hX5_link (t : Int32) (M : MSt) (j : Nat) (st : Int32) (k : Int64) (fr : Int32) : Int32 × Int32 × MSt := if (M.1 1 j) = 6 then (0, 3, M) else ((M.1 1 j) + 1, t, (sI (sI (sL (sI M 2 (6 * j + chn M j) st) 4 (6 * j + chn M j) k) 3 (6 * j + chn M j) fr) 1 j ((M.1 1 j) + 1)))
set_option maxRecDepth 100000 in
set_option maxHeartbeats 4000000 in
theorem cqX5_link (l : Launch) (D : mG) (r : Nat) (ma : Nat → Nat) (t : Int32) (M : MSt) {j : Nat} (hj : j < 8) (hch : M.1 1 j = nI (chn M j)) (hc6 : chn M j ≤ 6) (st : Int32) (k : Int64) (fr : Int32) : cQ l D yX5_link cX5_link 7 (some .int) (rmP 1) (wM D r ma t M) [.ref r, .int (nI j), .int st, .long k, .int fr] (some (.int (hX5_link t M j st k fr).1)) (wM D r ma (hX5_link t M j st k fr).2.1 (hX5_link t M j st k fr).2.2) := by
  refine cQ_of (by decide) (Nat.le_of_ble_eq_true rfl) ?_
  intro p e s m below meth c ls A hx hb hr hlocks G hnm hgf hA hP hD hS hl
  have hl : lv_has ls 7 [(0, .ref r), (1, .int (nI j)), (2, .int st), (3, .long k), (5, .int fr)] := hl
  refine lv_aload_n hx hb dX5_link_0 rfl (lv_at hl 0 rfl) ?_
  refine mw_get G hgf (hP 0 _ rfl) rfl inX5 3 (by decide) qw3_164 rfl dX5_link_1 ?_
  refine lv_iload_n hx hb dX5_link_4 rfl (lv_at hl 1 rfl) ?_
  refine mN_iald (f := M.1 1) G hgf (hP 2 _ rfl) (k := j) (rfl) (hj) (by decide) dX5_link_5 ?_
  refine lv_bipush (v := 6) hx hb dX5_link_6 (by decide) ?_
  refine lv_icmp_ne (tgt := 17) hx hb dX5_link_8 (by decide) (fun c_1 => ?_) (fun c_1 => ?_)
  · refine lv_bipush (v := 6) hx hb dX5_link_17 (by decide) ?_
    refine lv_iload_n hx hb dX5_link_19 rfl (lv_at hl 1 rfl) ?_
    refine lv_imul hx hb dX5_link_20 ?_
    refine lv_aload_n hx hb dX5_link_21 rfl (lv_at hl 0 rfl) ?_
    refine mw_get G hgf (hP 0 _ rfl) rfl inX5 3 (by decide) qw3_164 rfl dX5_link_22 ?_
    refine lv_iload_n hx hb dX5_link_25 rfl (lv_at hl 1 rfl) ?_
    refine mN_iald (f := M.1 1) G hgf (hP 2 _ rfl) (k := j) (rfl) (hj) (by decide) dX5_link_26 ?_
    refine lv_iadd hx hb dX5_link_27 ?_
    refine lv_istore (lv' := [(6, .int ((6 * (nI j)) + (M.1 1 j))), (0, .ref r), (1, .int (nI j)), (2, .int st), (3, .long k), (5, .int fr)]) hx hb dX5_link_28 hl (by decide) rfl (fun ls hl => ?_)
    refine lv_aload_n hx hb dX5_link_30 rfl (lv_at hl 1 rfl) ?_
    refine mw_get G hgf (hP 0 _ rfl) rfl inX5 4 (by decide) qw3_165 rfl dX5_link_31 ?_
    refine lv_iload hx hb dX5_link_34 (lv_at hl 0 rfl) ?_
    refine lv_iload_n hx hb dX5_link_36 rfl (lv_at hl 3 rfl) ?_
    refine mN_iast (f := M.1 2) (w1 := wM D r ma t (sI M 2 (6 * j + chn M j) st)) G hgf hP hD hS 3 rfl (k := 6 * j + chn M j) (by rw [hch]; exact nI_6) (by have q := lt6 hc6 (by rw [← hch]; exact c_1); omega) (by decide) rfl dX5_link_37 (fun H locs hP hD hS => ?_)
    refine lv_aload_n hx hb dX5_link_38 rfl (lv_at hl 1 rfl) ?_
    refine mw_get G hgf (hP 0 _ rfl) rfl inX5 6 (by decide) qw3_167 rfl dX5_link_39 ?_
    refine lv_iload hx hb dX5_link_42 (lv_at hl 0 rfl) ?_
    refine lv_lload_n hx hb dX5_link_44 rfl (lv_at hl 4 rfl) ?_
    refine mN_last (f := (sI M 2 (6 * j + chn M j) st).2 4) (w1 := wM D r ma t (sL (sI M 2 (6 * j + chn M j) st) 4 (6 * j + chn M j) k)) G hgf hP hD hS 5 rfl (k := 6 * j + chn M j) (by rw [hch]; exact nI_6) (by have q := lt6 hc6 (by rw [← hch]; exact c_1); omega) (by decide) rfl dX5_link_45 (fun H locs hP hD hS => ?_)
    refine lv_aload_n hx hb dX5_link_46 rfl (lv_at hl 1 rfl) ?_
    refine mw_get G hgf (hP 0 _ rfl) rfl inX5 5 (by decide) qw3_166 rfl dX5_link_47 ?_
    refine lv_iload hx hb dX5_link_50 (lv_at hl 0 rfl) ?_
    refine lv_iload hx hb dX5_link_52 (lv_at hl 5 rfl) ?_
    refine mN_iast (f := (sL (sI M 2 (6 * j + chn M j) st) 4 (6 * j + chn M j) k).1 3) (w1 := wM D r ma t (sI (sL (sI M 2 (6 * j + chn M j) st) 4 (6 * j + chn M j) k) 3 (6 * j + chn M j) fr)) G hgf hP hD hS 4 rfl (k := 6 * j + chn M j) (by rw [hch]; exact nI_6) (by have q := lt6 hc6 (by rw [← hch]; exact c_1); omega) (by decide) rfl dX5_link_54 (fun H locs hP hD hS => ?_)
    refine lv_aload_n hx hb dX5_link_55 rfl (lv_at hl 1 rfl) ?_
    refine mw_get G hgf (hP 0 _ rfl) rfl inX5 3 (by decide) qw3_164 rfl dX5_link_56 ?_
    refine lv_iload_n hx hb dX5_link_59 rfl (lv_at hl 2 rfl) ?_
    refine lv_dup2_11 hx hb dX5_link_60 rfl rfl ?_
    refine mN_iald (f := M.1 1) G hgf (hP 2 _ rfl) (k := j) (rfl) (hj) (by decide) dX5_link_61 ?_
    refine lv_iconst (v := 1) hx hb dX5_link_62 (by decide) ?_
    refine lv_iadd hx hb dX5_link_63 ?_
    refine mN_iast (f := (sI (sL (sI M 2 (6 * j + chn M j) st) 4 (6 * j + chn M j) k) 3 (6 * j + chn M j) fr).1 1) (w1 := wM D r ma t (sI (sI (sL (sI M 2 (6 * j + chn M j) st) 4 (6 * j + chn M j) k) 3 (6 * j + chn M j) fr) 1 j ((M.1 1 j) + 1))) G hgf hP hD hS 2 rfl (k := j) (rfl) (hj) (by decide) rfl dX5_link_64 (fun H locs hP hD hS => ?_)
    refine lv_aload_n hx hb dX5_link_65 rfl (lv_at hl 1 rfl) ?_
    refine mw_get G hgf (hP 0 _ rfl) rfl inX5 3 (by decide) qw3_164 rfl dX5_link_66 ?_
    refine lv_iload_n hx hb dX5_link_69 rfl (lv_at hl 2 rfl) ?_
    refine mN_iald (f := (sI M 1 j ((M.1 1 j) + 1)).1 1) G hgf (hP 2 _ rfl) (k := j) (rfl) (hj) (by decide) dX5_link_70 ?_
    rw [sI_self]
    exact mM_iret (h := hX5_link t M j st k fr) ((if_neg c_1).trans (rfl)) hx hb hr hlocks hP hD hS dX5_link_71
  · refine lv_aload_n hx hb dX5_link_11 rfl (lv_at hl 0 rfl) ?_
    refine lv_iconst (v := 3) hx hb dX5_link_12 (by decide) ?_
    refine kQ (C := RX5) (wr := []) (w1 := wM D r ma 3 M) G (cqX5_fail l D r ma t M 3) okX5_fail hgf hP hD hS hA [0, 1, 2, 3, 4, 5, 6, 7, 8, 9, 10, 11, 12, 13, 14] [] rfl rfl rfl rfl (by decide) (mw_recv hgf (hP 0 _ rfl) rfl) qw3_227 ⟨Nat.le_of_ble_eq_true rfl, Nat.le_of_ble_eq_true rfl⟩ ⟨Nat.zero_le _, Nat.zero_le _⟩ hl.1 (Nat.le_of_ble_eq_true rfl) rfl dX5_link_13 (fun H locs hP hD hS => ?_)
    exact mM_iret (h := hX5_link t M j st k fr) ((if_pos c_1).trans (rfl)) hx hb hr hlocks hP hD hS dX5_link_16
set_option maxRecDepth 100000 in
set_option maxHeartbeats 4000000 in
theorem cqX5_step_bad (l : Launch) (D : mG) (r : Nat) (ma : Nat → Nat) (t : Int32) (M : MSt) (i st : Int32) (k : Int64) (hbad : fX5_isInst (M.1 14 0) i = 0) : cQ l D yX5_step cX5_step 6 (some .int) (rmP 1) (wM D r ma t M) [.ref r, .int i, .int st, .long k] (some (.int 0)) (wM D r ma 1 M) := by
  refine cQ_of (by decide) (Nat.le_of_ble_eq_true rfl) ?_
  intro p e s m below meth c ls A hx hb hr hlocks G hnm hgf hA hP hD hS hl
  have hl : lv_has ls 6 [(0, .ref r), (1, .int i), (2, .int st), (3, .long k)] := hl
  refine lv_aload_n hx hb dX5_step_0 rfl (lv_at hl 0 rfl) ?_
  refine lv_iconst (v := 0) hx hb dX5_step_1 (by decide) ?_
  refine mw_put (w1 := wM D r ma 0 M) G hgf hP hD hS 0 rfl rfl inX5 tyX5_ok nmX5 0 (by decide) qw3_161 rfl rfl rfl rfl (Nat.le_of_ble_eq_true rfl) rfl dX5_step_2 (fun H locs hP hD hS => ?_)
  refine lv_aload_n hx hb dX5_step_5 rfl (lv_at hl 0 rfl) ?_
  refine lv_iload_n hx hb dX5_step_6 rfl (lv_at hl 1 rfl) ?_
  refine kV (C := RX5) G (cvX5_isInstrument l D r ma 0 M i) okX5_isInstrument hgf hP (mw_recv hgf (hP 0 _ rfl) rfl) qw4_14 ⟨Nat.le_of_ble_eq_true rfl, Nat.le_of_ble_eq_true rfl⟩ ⟨Nat.zero_le _, Nat.zero_le _⟩ hl.1 (Nat.le_of_ble_eq_true rfl) rfl dX5_step_7 ?_
  rw [show fX5_isInst (M.1 14 0) i = 0 from hbad]
  refine lv_if_ne (tgt := 19) hx hb dX5_step_10 (by decide) (fun h => absurd (by decide) h) (fun _ => ?_)
  refine lv_aload_n hx hb dX5_step_13 rfl (lv_at hl 0 rfl) ?_
  refine lv_iconst (v := 1) hx hb dX5_step_14 (by decide) ?_
  refine kQ (C := RX5) (wr := []) (w1 := wM D r ma 1 M) G (cqX5_fail l D r ma 0 M 1) okX5_fail hgf hP hD hS hA [0, 1, 2, 3, 4, 5, 6, 7, 8, 9, 10, 11, 12, 13, 14] [] rfl rfl rfl rfl (by decide) (mw_recv hgf (hP 0 _ rfl) rfl) qw3_227 ⟨Nat.le_of_ble_eq_true rfl, Nat.le_of_ble_eq_true rfl⟩ ⟨Nat.zero_le _, Nat.zero_le _⟩ hl.1 (Nat.le_of_ble_eq_true rfl) rfl dX5_step_15 (fun H locs hP hD hS => ?_)
  exact mM_iret (h := (0, 1, M)) (rfl) hx hb hr hlocks hP hD hS dX5_step_18
def hX5_step (M : MSt) (j : Nat) (st : Int32) (k : Int64) : Int32 × Int32 × MSt := if (fX5_isStep (M.1 0 j) st) = 0 then (0, 2, M) else (if (fX5_takes st) = 0 then ((hX5_link 0 M j st (fX5_cut (M.1 0 j) k) (-1)).1, (hX5_link 0 M j st (fX5_cut (M.1 0 j) k) (-1)).2.1, (hX5_link 0 M j st (fX5_cut (M.1 0 j) k) (-1)).2.2) else (if (fX5_isNone (M.1 0 j) k) = 0 then ((hX5_link 0 M j st (fX5_cut (M.1 0 j) k) (-1)).1, (hX5_link 0 M j st (fX5_cut (M.1 0 j) k) (-1)).2.1, (hX5_link 0 M j st (fX5_cut (M.1 0 j) k) (-1)).2.2) else (0, 2, M)))
set_option maxRecDepth 100000 in
set_option maxHeartbeats 4000000 in
theorem cqX5_step (l : Launch) (D : mG) (r : Nat) (ma : Nat → Nat) (t : Int32) (M : MSt) {j : Nat} (hj : j < 8) (hin : fX5_isInst (M.1 14 0) (nI j) = 1) (hch : M.1 1 j = nI (chn M j)) (hc6 : chn M j ≤ 6) (st : Int32) (k : Int64) : cQ l D yX5_step cX5_step 6 (some .int) (rmP 3) (wM D r ma t M) [.ref r, .int (nI j), .int st, .long k] (some (.int (hX5_step M j st k).1)) (wM D r ma (hX5_step M j st k).2.1 (hX5_step M j st k).2.2) := by
  refine cQ_of (by decide) (Nat.le_of_ble_eq_true rfl) ?_
  intro p e s m below meth c ls A hx hb hr hlocks G hnm hgf hA hP hD hS hl
  have hl : lv_has ls 6 [(0, .ref r), (1, .int (nI j)), (2, .int st), (3, .long k)] := hl
  refine lv_aload_n hx hb dX5_step_0 rfl (lv_at hl 0 rfl) ?_
  refine lv_iconst (v := 0) hx hb dX5_step_1 (by decide) ?_
  refine mw_put (w1 := wM D r ma 0 M) G hgf hP hD hS 0 rfl rfl inX5 tyX5_ok nmX5 0 (by decide) qw3_161 rfl rfl rfl rfl (Nat.le_of_ble_eq_true rfl) rfl dX5_step_2 (fun H locs hP hD hS => ?_)
  refine lv_aload_n hx hb dX5_step_5 rfl (lv_at hl 0 rfl) ?_
  refine lv_iload_n hx hb dX5_step_6 rfl (lv_at hl 1 rfl) ?_
  refine kV (C := RX5) G (cvX5_isInstrument l D r ma 0 M (nI j)) okX5_isInstrument hgf hP (mw_recv hgf (hP 0 _ rfl) rfl) qw4_14 ⟨Nat.le_of_ble_eq_true rfl, Nat.le_of_ble_eq_true rfl⟩ ⟨Nat.zero_le _, Nat.zero_le _⟩ hl.1 (Nat.le_of_ble_eq_true rfl) rfl dX5_step_7 ?_
  rw [show fX5_isInst (M.1 14 0) (nI j) = 1 from hin]
  refine lv_if_ne (tgt := 19) hx hb dX5_step_10 (by decide) (fun _ => ?_) (fun h => absurd h (by decide))
  refine lv_aload_n hx hb dX5_step_19 rfl (lv_at hl 0 rfl) ?_
  refine mw_get G hgf (hP 0 _ rfl) rfl inX5 2 (by decide) qw3_163 rfl dX5_step_20 ?_
  refine lv_iload_n hx hb dX5_step_23 rfl (lv_at hl 1 rfl) ?_
  refine mN_iald (f := M.1 0) G hgf (hP 1 _ rfl) (k := j) (rfl) (hj) (by decide) dX5_step_24 ?_
  refine lv_istore (lv' := [(5, .int (M.1 0 j)), (0, .ref r), (1, .int (nI j)), (2, .int st), (3, .long k)]) hx hb dX5_step_25 hl (by decide) rfl (fun ls hl => ?_)
  refine lv_iload hx hb dX5_step_27 (lv_at hl 0 rfl) ?_
  refine lv_iload_n hx hb dX5_step_29 rfl (lv_at hl 3 rfl) ?_
  refine kS G (cvX5_isStep l D (M.1 0 j) st) okX5_isStep hgf trivial qw4_18 ⟨Nat.le_of_ble_eq_true rfl, Nat.le_of_ble_eq_true rfl⟩ ⟨Nat.zero_le _, Nat.zero_le _⟩ hl.1 (Nat.le_of_ble_eq_true rfl) rfl dX5_step_30 ?_
  refine lv_if_eq (tgt := 52) hx hb dX5_step_33 (by decide) (fun c_1 => ?_) (fun c_1 => ?_)
  · refine lv_aload_n hx hb dX5_step_52 rfl (lv_at hl 1 rfl) ?_
    refine lv_iconst (v := 2) hx hb dX5_step_53 (by decide) ?_
    refine kQ (C := RX5) (wr := []) (w1 := wM D r ma 2 M) G (cqX5_fail l D r ma 0 M 2) okX5_fail hgf hP hD hS hA [0, 1, 2, 3, 4, 5, 6, 7, 8, 9, 10, 11, 12, 13, 14] [] rfl rfl rfl rfl (by decide) (mw_recv hgf (hP 0 _ rfl) rfl) qw3_227 ⟨Nat.le_of_ble_eq_true rfl, Nat.le_of_ble_eq_true rfl⟩ ⟨Nat.zero_le _, Nat.zero_le _⟩ hl.1 (Nat.le_of_ble_eq_true rfl) rfl dX5_step_54 (fun H locs hP hD hS => ?_)
    exact mM_iret (h := hX5_step M j st k) ((if_pos c_1).trans (rfl)) hx hb hr hlocks hP hD hS dX5_step_57
  · refine lv_iload_n hx hb dX5_step_36 rfl (lv_at hl 3 rfl) ?_
    refine kS G (cvX5_takes l D st) okX5_takes hgf trivial qw4_24 ⟨Nat.le_of_ble_eq_true rfl, Nat.le_of_ble_eq_true rfl⟩ ⟨Nat.zero_le _, Nat.zero_le _⟩ hl.1 (Nat.le_of_ble_eq_true rfl) rfl dX5_step_37 ?_
    refine lv_if_eq (tgt := 58) hx hb dX5_step_40 (by decide) (fun c_2 => ?_) (fun c_2 => ?_)
    · refine lv_aload_n hx hb dX5_step_58 rfl (lv_at hl 1 rfl) ?_
      refine lv_iload_n hx hb dX5_step_59 rfl (lv_at hl 2 rfl) ?_
      refine lv_iload_n hx hb dX5_step_60 rfl (lv_at hl 3 rfl) ?_
      refine lv_iload hx hb dX5_step_61 (lv_at hl 0 rfl) ?_
      refine lv_lload_n hx hb dX5_step_63 rfl (lv_at hl 4 rfl) ?_
      refine kS G (cvX5_cut l D (M.1 0 j) k) okX5_cut hgf trivial qw4_5 ⟨Nat.le_of_ble_eq_true rfl, Nat.le_of_ble_eq_true rfl⟩ ⟨Nat.zero_le _, Nat.zero_le _⟩ hl.1 (Nat.le_of_ble_eq_true rfl) rfl dX5_step_64 ?_
      refine lv_iconst (v := (-1)) hx hb dX5_step_67 (by decide) ?_
      refine kQ (C := RX5) (wr := []) G (cqX5_link l D r ma 0 M hj hch hc6 st (fX5_cut (M.1 0 j) k) (-1)) okX5_link hgf hP hD hS hA [0, 1, 2, 3, 4, 5, 6, 7, 8, 9, 10, 11, 12, 13, 14] [] rfl rfl rfl rfl (by decide) (mw_recv hgf (hP 0 _ rfl) rfl) qw4_38 ⟨Nat.le_of_ble_eq_true rfl, Nat.le_of_ble_eq_true rfl⟩ ⟨Nat.zero_le _, Nat.zero_le _⟩ hl.1 (Nat.le_of_ble_eq_true rfl) rfl dX5_step_68 (fun H locs hP hD hS => ?_)
      exact mM_iret (h := hX5_step M j st k) ((if_neg c_1).trans ((if_pos c_2).trans (rfl))) hx hb hr hlocks hP hD hS dX5_step_71
    · refine lv_iload hx hb dX5_step_43 (lv_at hl 0 rfl) ?_
      refine lv_lload_n hx hb dX5_step_45 rfl (lv_at hl 4 rfl) ?_
      refine kS G (cvX5_isNone l D (M.1 0 j) k) okX5_isNone hgf trivial qw4_27 ⟨Nat.le_of_ble_eq_true rfl, Nat.le_of_ble_eq_true rfl⟩ ⟨Nat.zero_le _, Nat.zero_le _⟩ hl.1 (Nat.le_of_ble_eq_true rfl) rfl dX5_step_46 ?_
      refine lv_if_eq (tgt := 58) hx hb dX5_step_49 (by decide) (fun c_3 => ?_) (fun c_3 => ?_)
      · refine lv_aload_n hx hb dX5_step_58 rfl (lv_at hl 1 rfl) ?_
        refine lv_iload_n hx hb dX5_step_59 rfl (lv_at hl 2 rfl) ?_
        refine lv_iload_n hx hb dX5_step_60 rfl (lv_at hl 3 rfl) ?_
        refine lv_iload hx hb dX5_step_61 (lv_at hl 0 rfl) ?_
        refine lv_lload_n hx hb dX5_step_63 rfl (lv_at hl 4 rfl) ?_
        refine kS G (cvX5_cut l D (M.1 0 j) k) okX5_cut hgf trivial qw4_5 ⟨Nat.le_of_ble_eq_true rfl, Nat.le_of_ble_eq_true rfl⟩ ⟨Nat.zero_le _, Nat.zero_le _⟩ hl.1 (Nat.le_of_ble_eq_true rfl) rfl dX5_step_64 ?_
        refine lv_iconst (v := (-1)) hx hb dX5_step_67 (by decide) ?_
        refine kQ (C := RX5) (wr := []) G (cqX5_link l D r ma 0 M hj hch hc6 st (fX5_cut (M.1 0 j) k) (-1)) okX5_link hgf hP hD hS hA [0, 1, 2, 3, 4, 5, 6, 7, 8, 9, 10, 11, 12, 13, 14] [] rfl rfl rfl rfl (by decide) (mw_recv hgf (hP 0 _ rfl) rfl) qw4_38 ⟨Nat.le_of_ble_eq_true rfl, Nat.le_of_ble_eq_true rfl⟩ ⟨Nat.zero_le _, Nat.zero_le _⟩ hl.1 (Nat.le_of_ble_eq_true rfl) rfl dX5_step_68 (fun H locs hP hD hS => ?_)
        exact mM_iret (h := hX5_step M j st k) ((if_neg c_1).trans ((if_neg c_2).trans ((if_pos c_3).trans (rfl)))) hx hb hr hlocks hP hD hS dX5_step_71
      · refine lv_aload_n hx hb dX5_step_52 rfl (lv_at hl 1 rfl) ?_
        refine lv_iconst (v := 2) hx hb dX5_step_53 (by decide) ?_
        refine kQ (C := RX5) (wr := []) (w1 := wM D r ma 2 M) G (cqX5_fail l D r ma 0 M 2) okX5_fail hgf hP hD hS hA [0, 1, 2, 3, 4, 5, 6, 7, 8, 9, 10, 11, 12, 13, 14] [] rfl rfl rfl rfl (by decide) (mw_recv hgf (hP 0 _ rfl) rfl) qw3_227 ⟨Nat.le_of_ble_eq_true rfl, Nat.le_of_ble_eq_true rfl⟩ ⟨Nat.zero_le _, Nat.zero_le _⟩ hl.1 (Nat.le_of_ble_eq_true rfl) rfl dX5_step_54 (fun H locs hP hD hS => ?_)
        exact mM_iret (h := hX5_step M j st k) ((if_neg c_1).trans ((if_neg c_2).trans ((if_neg c_3).trans (rfl)))) hx hb hr hlocks hP hD hS dX5_step_57
set_option maxRecDepth 100000 in
set_option maxHeartbeats 4000000 in
theorem cqX5_follow_bad (l : Launch) (D : mG) (r : Nat) (ma : Nat → Nat) (t : Int32) (M : MSt) (i st ot : Int32) (hbad : fX5_isInst (M.1 14 0) i = 0) : cQ l D yX5_follow cX5_follow 4 (some .int) (rmP 1) (wM D r ma t M) [.ref r, .int i, .int st, .int ot] (some (.int 0)) (wM D r ma 1 M) := by
  refine cQ_of (by decide) (Nat.le_of_ble_eq_true rfl) ?_
  intro p e s m below meth c ls A hx hb hr hlocks G hnm hgf hA hP hD hS hl
  have hl : lv_has ls 4 [(0, .ref r), (1, .int i), (2, .int st), (3, .int ot)] := hl
  refine lv_aload_n hx hb dX5_follow_0 rfl (lv_at hl 0 rfl) ?_
  refine lv_iconst (v := 0) hx hb dX5_follow_1 (by decide) ?_
  refine mw_put (w1 := wM D r ma 0 M) G hgf hP hD hS 0 rfl rfl inX5 tyX5_ok nmX5 0 (by decide) qw3_161 rfl rfl rfl rfl (Nat.le_of_ble_eq_true rfl) rfl dX5_follow_2 (fun H locs hP hD hS => ?_)
  refine lv_aload_n hx hb dX5_follow_5 rfl (lv_at hl 0 rfl) ?_
  refine lv_iload_n hx hb dX5_follow_6 rfl (lv_at hl 1 rfl) ?_
  refine kV (C := RX5) G (cvX5_isInstrument l D r ma 0 M i) okX5_isInstrument hgf hP (mw_recv hgf (hP 0 _ rfl) rfl) qw4_14 ⟨Nat.le_of_ble_eq_true rfl, Nat.le_of_ble_eq_true rfl⟩ ⟨Nat.zero_le _, Nat.zero_le _⟩ hl.1 (Nat.le_of_ble_eq_true rfl) rfl dX5_follow_7 ?_
  rw [show fX5_isInst (M.1 14 0) i = 0 from hbad]
  refine lv_if_eq (tgt := 21) hx hb dX5_follow_10 (by decide) (fun _ => ?_) (fun h => absurd (by decide) h)
  refine lv_aload_n hx hb dX5_follow_21 rfl (lv_at hl 0 rfl) ?_
  refine lv_iconst (v := 1) hx hb dX5_follow_22 (by decide) ?_
  refine kQ (C := RX5) (wr := []) (w1 := wM D r ma 1 M) G (cqX5_fail l D r ma 0 M 1) okX5_fail hgf hP hD hS hA [0, 1, 2, 3, 4, 5, 6, 7, 8, 9, 10, 11, 12, 13, 14] [] rfl rfl rfl rfl (by decide) (mw_recv hgf (hP 0 _ rfl) rfl) qw3_227 ⟨Nat.le_of_ble_eq_true rfl, Nat.le_of_ble_eq_true rfl⟩ ⟨Nat.zero_le _, Nat.zero_le _⟩ hl.1 (Nat.le_of_ble_eq_true rfl) rfl dX5_follow_23 (fun H locs hP hD hS => ?_)
  exact mM_iret (h := (0, 1, M)) (rfl) hx hb hr hlocks hP hD hS dX5_follow_26
set_option maxRecDepth 100000 in
set_option maxHeartbeats 4000000 in
theorem cqX5_follow_bad2 (l : Launch) (D : mG) (r : Nat) (ma : Nat → Nat) (t : Int32) (M : MSt) {j : Nat} (hin : fX5_isInst (M.1 14 0) (nI j) = 1) (st ot : Int32) (hbad : fX5_isInst (M.1 14 0) ot = 0) : cQ l D yX5_follow cX5_follow 4 (some .int) (rmP 1) (wM D r ma t M) [.ref r, .int (nI j), .int st, .int ot] (some (.int 0)) (wM D r ma 1 M) := by
  refine cQ_of (by decide) (Nat.le_of_ble_eq_true rfl) ?_
  intro p e s m below meth c ls A hx hb hr hlocks G hnm hgf hA hP hD hS hl
  have hl : lv_has ls 4 [(0, .ref r), (1, .int (nI j)), (2, .int st), (3, .int ot)] := hl
  refine lv_aload_n hx hb dX5_follow_0 rfl (lv_at hl 0 rfl) ?_
  refine lv_iconst (v := 0) hx hb dX5_follow_1 (by decide) ?_
  refine mw_put (w1 := wM D r ma 0 M) G hgf hP hD hS 0 rfl rfl inX5 tyX5_ok nmX5 0 (by decide) qw3_161 rfl rfl rfl rfl (Nat.le_of_ble_eq_true rfl) rfl dX5_follow_2 (fun H locs hP hD hS => ?_)
  refine lv_aload_n hx hb dX5_follow_5 rfl (lv_at hl 0 rfl) ?_
  refine lv_iload_n hx hb dX5_follow_6 rfl (lv_at hl 1 rfl) ?_
  refine kV (C := RX5) G (cvX5_isInstrument l D r ma 0 M (nI j)) okX5_isInstrument hgf hP (mw_recv hgf (hP 0 _ rfl) rfl) qw4_14 ⟨Nat.le_of_ble_eq_true rfl, Nat.le_of_ble_eq_true rfl⟩ ⟨Nat.zero_le _, Nat.zero_le _⟩ hl.1 (Nat.le_of_ble_eq_true rfl) rfl dX5_follow_7 ?_
  rw [show fX5_isInst (M.1 14 0) (nI j) = 1 from hin]
  refine lv_if_eq (tgt := 21) hx hb dX5_follow_10 (by decide) (fun h => absurd h (by decide)) (fun _ => ?_)
  refine lv_aload_n hx hb dX5_follow_13 rfl (lv_at hl 0 rfl) ?_
  refine lv_iload_n hx hb dX5_follow_14 rfl (lv_at hl 3 rfl) ?_
  refine kV (C := RX5) G (cvX5_isInstrument l D r ma 0 M ot) okX5_isInstrument hgf hP (mw_recv hgf (hP 0 _ rfl) rfl) qw4_14 ⟨Nat.le_of_ble_eq_true rfl, Nat.le_of_ble_eq_true rfl⟩ ⟨Nat.zero_le _, Nat.zero_le _⟩ hl.1 (Nat.le_of_ble_eq_true rfl) rfl dX5_follow_15 ?_
  rw [show fX5_isInst (M.1 14 0) ot = 0 from hbad]
  refine lv_if_ne (tgt := 27) hx hb dX5_follow_18 (by decide) (fun h => absurd (by decide) h) (fun _ => ?_)
  refine lv_aload_n hx hb dX5_follow_21 rfl (lv_at hl 0 rfl) ?_
  refine lv_iconst (v := 1) hx hb dX5_follow_22 (by decide) ?_
  refine kQ (C := RX5) (wr := []) (w1 := wM D r ma 1 M) G (cqX5_fail l D r ma 0 M 1) okX5_fail hgf hP hD hS hA [0, 1, 2, 3, 4, 5, 6, 7, 8, 9, 10, 11, 12, 13, 14] [] rfl rfl rfl rfl (by decide) (mw_recv hgf (hP 0 _ rfl) rfl) qw3_227 ⟨Nat.le_of_ble_eq_true rfl, Nat.le_of_ble_eq_true rfl⟩ ⟨Nat.zero_le _, Nat.zero_le _⟩ hl.1 (Nat.le_of_ble_eq_true rfl) rfl dX5_follow_23 (fun H locs hP hD hS => ?_)
  exact mM_iret (h := (0, 1, M)) (rfl) hx hb hr hlocks hP hD hS dX5_follow_26
def hX5_follow (M : MSt) (j : Nat) (ot : Nat) (st : Int32) : Int32 × Int32 × MSt := if (fX5_isStep (M.1 0 j) st) = 0 then (0, 2, M) else (if (fX5_takes st) = 0 then (0, 2, M) else (if (M.1 0 ot) = (M.1 0 j) then ((hX5_link 0 M j st 0 (nI ot)).1, (hX5_link 0 M j st 0 (nI ot)).2.1, (hX5_link 0 M j st 0 (nI ot)).2.2) else (0, 2, M)))
set_option maxRecDepth 100000 in
set_option maxHeartbeats 4000000 in
theorem cqX5_follow (l : Launch) (D : mG) (r : Nat) (ma : Nat → Nat) (t : Int32) (M : MSt) {j ot : Nat} (hj : j < 8) (ho : ot < 8) (hin : fX5_isInst (M.1 14 0) (nI j) = 1) (hin2 : fX5_isInst (M.1 14 0) (nI ot) = 1) (hch : M.1 1 j = nI (chn M j)) (hc6 : chn M j ≤ 6) (st : Int32) : cQ l D yX5_follow cX5_follow 4 (some .int) (rmP 2) (wM D r ma t M) [.ref r, .int (nI j), .int st, .int (nI ot)] (some (.int (hX5_follow M j ot st).1)) (wM D r ma (hX5_follow M j ot st).2.1 (hX5_follow M j ot st).2.2) := by
  refine cQ_of (by decide) (Nat.le_of_ble_eq_true rfl) ?_
  intro p e s m below meth c ls A hx hb hr hlocks G hnm hgf hA hP hD hS hl
  have hl : lv_has ls 4 [(0, .ref r), (1, .int (nI j)), (2, .int st), (3, .int (nI ot))] := hl
  refine lv_aload_n hx hb dX5_follow_0 rfl (lv_at hl 0 rfl) ?_
  refine lv_iconst (v := 0) hx hb dX5_follow_1 (by decide) ?_
  refine mw_put (w1 := wM D r ma 0 M) G hgf hP hD hS 0 rfl rfl inX5 tyX5_ok nmX5 0 (by decide) qw3_161 rfl rfl rfl rfl (Nat.le_of_ble_eq_true rfl) rfl dX5_follow_2 (fun H locs hP hD hS => ?_)
  refine lv_aload_n hx hb dX5_follow_5 rfl (lv_at hl 0 rfl) ?_
  refine lv_iload_n hx hb dX5_follow_6 rfl (lv_at hl 1 rfl) ?_
  refine kV (C := RX5) G (cvX5_isInstrument l D r ma 0 M (nI j)) okX5_isInstrument hgf hP (mw_recv hgf (hP 0 _ rfl) rfl) qw4_14 ⟨Nat.le_of_ble_eq_true rfl, Nat.le_of_ble_eq_true rfl⟩ ⟨Nat.zero_le _, Nat.zero_le _⟩ hl.1 (Nat.le_of_ble_eq_true rfl) rfl dX5_follow_7 ?_
  rw [show fX5_isInst (M.1 14 0) (nI j) = 1 from hin]
  refine lv_if_eq (tgt := 21) hx hb dX5_follow_10 (by decide) (fun h => absurd h (by decide)) (fun _ => ?_)
  refine lv_aload_n hx hb dX5_follow_13 rfl (lv_at hl 0 rfl) ?_
  refine lv_iload_n hx hb dX5_follow_14 rfl (lv_at hl 3 rfl) ?_
  refine kV (C := RX5) G (cvX5_isInstrument l D r ma 0 M (nI ot)) okX5_isInstrument hgf hP (mw_recv hgf (hP 0 _ rfl) rfl) qw4_14 ⟨Nat.le_of_ble_eq_true rfl, Nat.le_of_ble_eq_true rfl⟩ ⟨Nat.zero_le _, Nat.zero_le _⟩ hl.1 (Nat.le_of_ble_eq_true rfl) rfl dX5_follow_15 ?_
  rw [show fX5_isInst (M.1 14 0) (nI ot) = 1 from hin2]
  refine lv_if_ne (tgt := 27) hx hb dX5_follow_18 (by decide) (fun _ => ?_) (fun h => absurd h (by decide))
  refine lv_aload_n hx hb dX5_follow_27 rfl (lv_at hl 0 rfl) ?_
  refine mw_get G hgf (hP 0 _ rfl) rfl inX5 2 (by decide) qw3_163 rfl dX5_follow_28 ?_
  refine lv_iload_n hx hb dX5_follow_31 rfl (lv_at hl 1 rfl) ?_
  refine mN_iald (f := M.1 0) G hgf (hP 1 _ rfl) (k := j) (rfl) (hj) (by decide) dX5_follow_32 ?_
  refine lv_iload_n hx hb dX5_follow_33 rfl (lv_at hl 2 rfl) ?_
  refine kS G (cvX5_isStep l D (M.1 0 j) st) okX5_isStep hgf trivial qw4_18 ⟨Nat.le_of_ble_eq_true rfl, Nat.le_of_ble_eq_true rfl⟩ ⟨Nat.zero_le _, Nat.zero_le _⟩ hl.1 (Nat.le_of_ble_eq_true rfl) rfl dX5_follow_34 ?_
  refine lv_if_eq (tgt := 62) hx hb dX5_follow_37 (by decide) (fun c_1 => ?_) (fun c_1 => ?_)
  · refine lv_aload_n hx hb dX5_follow_62 rfl (lv_at hl 0 rfl) ?_
    refine lv_iconst (v := 2) hx hb dX5_follow_63 (by decide) ?_
    refine kQ (C := RX5) (wr := []) (w1 := wM D r ma 2 M) G (cqX5_fail l D r ma 0 M 2) okX5_fail hgf hP hD hS hA [0, 1, 2, 3, 4, 5, 6, 7, 8, 9, 10, 11, 12, 13, 14] [] rfl rfl rfl rfl (by decide) (mw_recv hgf (hP 0 _ rfl) rfl) qw3_227 ⟨Nat.le_of_ble_eq_true rfl, Nat.le_of_ble_eq_true rfl⟩ ⟨Nat.zero_le _, Nat.zero_le _⟩ hl.1 (Nat.le_of_ble_eq_true rfl) rfl dX5_follow_64 (fun H locs hP hD hS => ?_)
    exact mM_iret (h := hX5_follow M j ot st) ((if_pos c_1).trans (rfl)) hx hb hr hlocks hP hD hS dX5_follow_67
  · refine lv_iload_n hx hb dX5_follow_40 rfl (lv_at hl 2 rfl) ?_
    refine kS G (cvX5_takes l D st) okX5_takes hgf trivial qw4_24 ⟨Nat.le_of_ble_eq_true rfl, Nat.le_of_ble_eq_true rfl⟩ ⟨Nat.zero_le _, Nat.zero_le _⟩ hl.1 (Nat.le_of_ble_eq_true rfl) rfl dX5_follow_41 ?_
    refine lv_if_eq (tgt := 62) hx hb dX5_follow_44 (by decide) (fun c_2 => ?_) (fun c_2 => ?_)
    · refine lv_aload_n hx hb dX5_follow_62 rfl (lv_at hl 0 rfl) ?_
      refine lv_iconst (v := 2) hx hb dX5_follow_63 (by decide) ?_
      refine kQ (C := RX5) (wr := []) (w1 := wM D r ma 2 M) G (cqX5_fail l D r ma 0 M 2) okX5_fail hgf hP hD hS hA [0, 1, 2, 3, 4, 5, 6, 7, 8, 9, 10, 11, 12, 13, 14] [] rfl rfl rfl rfl (by decide) (mw_recv hgf (hP 0 _ rfl) rfl) qw3_227 ⟨Nat.le_of_ble_eq_true rfl, Nat.le_of_ble_eq_true rfl⟩ ⟨Nat.zero_le _, Nat.zero_le _⟩ hl.1 (Nat.le_of_ble_eq_true rfl) rfl dX5_follow_64 (fun H locs hP hD hS => ?_)
      exact mM_iret (h := hX5_follow M j ot st) ((if_neg c_1).trans ((if_pos c_2).trans (rfl))) hx hb hr hlocks hP hD hS dX5_follow_67
    · refine lv_aload_n hx hb dX5_follow_47 rfl (lv_at hl 0 rfl) ?_
      refine mw_get G hgf (hP 0 _ rfl) rfl inX5 2 (by decide) qw3_163 rfl dX5_follow_48 ?_
      refine lv_iload_n hx hb dX5_follow_51 rfl (lv_at hl 3 rfl) ?_
      refine mN_iald (f := M.1 0) G hgf (hP 1 _ rfl) (k := ot) (rfl) (ho) (by decide) dX5_follow_52 ?_
      refine lv_aload_n hx hb dX5_follow_53 rfl (lv_at hl 0 rfl) ?_
      refine mw_get G hgf (hP 0 _ rfl) rfl inX5 2 (by decide) qw3_163 rfl dX5_follow_54 ?_
      refine lv_iload_n hx hb dX5_follow_57 rfl (lv_at hl 1 rfl) ?_
      refine mN_iald (f := M.1 0) G hgf (hP 1 _ rfl) (k := j) (rfl) (hj) (by decide) dX5_follow_58 ?_
      refine lv_icmp_eq (tgt := 68) hx hb dX5_follow_59 (by decide) (fun c_3 => ?_) (fun c_3 => ?_)
      · refine lv_aload_n hx hb dX5_follow_68 rfl (lv_at hl 0 rfl) ?_
        refine lv_iload_n hx hb dX5_follow_69 rfl (lv_at hl 1 rfl) ?_
        refine lv_iload_n hx hb dX5_follow_70 rfl (lv_at hl 2 rfl) ?_
        refine lv_lconst (v := 0) hx hb dX5_follow_71 (by decide) ?_
        refine lv_iload_n hx hb dX5_follow_72 rfl (lv_at hl 3 rfl) ?_
        refine kQ (C := RX5) (wr := []) G (cqX5_link l D r ma 0 M hj hch hc6 st 0 (nI ot)) okX5_link hgf hP hD hS hA [0, 1, 2, 3, 4, 5, 6, 7, 8, 9, 10, 11, 12, 13, 14] [] rfl rfl rfl rfl (by decide) (mw_recv hgf (hP 0 _ rfl) rfl) qw4_38 ⟨Nat.le_of_ble_eq_true rfl, Nat.le_of_ble_eq_true rfl⟩ ⟨Nat.zero_le _, Nat.zero_le _⟩ hl.1 (Nat.le_of_ble_eq_true rfl) rfl dX5_follow_73 (fun H locs hP hD hS => ?_)
        exact mM_iret (h := hX5_follow M j ot st) ((if_neg c_1).trans ((if_neg c_2).trans ((if_pos c_3).trans (rfl)))) hx hb hr hlocks hP hD hS dX5_follow_76
      · refine lv_aload_n hx hb dX5_follow_62 rfl (lv_at hl 0 rfl) ?_
        refine lv_iconst (v := 2) hx hb dX5_follow_63 (by decide) ?_
        refine kQ (C := RX5) (wr := []) (w1 := wM D r ma 2 M) G (cqX5_fail l D r ma 0 M 2) okX5_fail hgf hP hD hS hA [0, 1, 2, 3, 4, 5, 6, 7, 8, 9, 10, 11, 12, 13, 14] [] rfl rfl rfl rfl (by decide) (mw_recv hgf (hP 0 _ rfl) rfl) qw3_227 ⟨Nat.le_of_ble_eq_true rfl, Nat.le_of_ble_eq_true rfl⟩ ⟨Nat.zero_le _, Nat.zero_le _⟩ hl.1 (Nat.le_of_ble_eq_true rfl) rfl dX5_follow_64 (fun H locs hP hD hS => ?_)
        exact mM_iret (h := hX5_follow M j ot st) ((if_neg c_1).trans ((if_neg c_2).trans ((if_neg c_3).trans (rfl)))) hx hb hr hlocks hP hD hS dX5_follow_67
set_option maxRecDepth 100000 in
set_option maxHeartbeats 4000000 in
theorem cqX5_limits_bad (l : Launch) (D : mG) (r : Nat) (ma : Nat → Nat) (t : Int32) (M : MSt) (i : Int32) (lo hi : Int64) (hbad : fX5_isInst (M.1 14 0) i = 0) : cQ l D yX5_limits cX5_limits 7 (some .boolean) (rmP 1) (wM D r ma t M) [.ref r, .int i, .long lo, .long hi] (some (.int 0)) (wM D r ma 1 M) := by
  refine cQ_of (by decide) (Nat.le_of_ble_eq_true rfl) ?_
  intro p e s m below meth c ls A hx hb hr hlocks G hnm hgf hA hP hD hS hl
  have hl : lv_has ls 7 [(0, .ref r), (1, .int i), (2, .long lo), (4, .long hi)] := hl
  refine lv_aload_n hx hb dX5_limits_0 rfl (lv_at hl 0 rfl) ?_
  refine lv_iconst (v := 0) hx hb dX5_limits_1 (by decide) ?_
  refine mw_put (w1 := wM D r ma 0 M) G hgf hP hD hS 0 rfl rfl inX5 tyX5_ok nmX5 0 (by decide) qw3_161 rfl rfl rfl rfl (Nat.le_of_ble_eq_true rfl) rfl dX5_limits_2 (fun H locs hP hD hS => ?_)
  refine lv_aload_n hx hb dX5_limits_5 rfl (lv_at hl 0 rfl) ?_
  refine lv_iload_n hx hb dX5_limits_6 rfl (lv_at hl 1 rfl) ?_
  refine kV (C := RX5) G (cvX5_isInstrument l D r ma 0 M i) okX5_isInstrument hgf hP (mw_recv hgf (hP 0 _ rfl) rfl) qw4_14 ⟨Nat.le_of_ble_eq_true rfl, Nat.le_of_ble_eq_true rfl⟩ ⟨Nat.zero_le _, Nat.zero_le _⟩ hl.1 (Nat.le_of_ble_eq_true rfl) rfl dX5_limits_7 ?_
  rw [show fX5_isInst (M.1 14 0) i = 0 from hbad]
  refine lv_if_ne (tgt := 27) hx hb dX5_limits_10 (by decide) (fun h => absurd (by decide) h) (fun _ => ?_)
  refine lv_aload_n hx hb dX5_limits_13 rfl (lv_at hl 0 rfl) ?_
  refine lv_iconst (v := 1) hx hb dX5_limits_14 (by decide) ?_
  refine kQ (C := RX5) (wr := []) (w1 := wM D r ma 1 M) G (cqX5_fail l D r ma 0 M 1) okX5_fail hgf hP hD hS hA [0, 1, 2, 3, 4, 5, 6, 7, 8, 9, 10, 11, 12, 13, 14] [] rfl rfl rfl rfl (by decide) (mw_recv hgf (hP 0 _ rfl) rfl) qw3_227 ⟨Nat.le_of_ble_eq_true rfl, Nat.le_of_ble_eq_true rfl⟩ ⟨Nat.zero_le _, Nat.zero_le _⟩ hl.1 (Nat.le_of_ble_eq_true rfl) rfl dX5_limits_15 (fun H locs hP hD hS => ?_)
  refine lv_if_le (tgt := 25) hx hb dX5_limits_18 (by decide) (fun _ => ?_) (fun h => absurd (by decide) h)
  refine lv_iconst (v := 0) hx hb dX5_limits_25 (by decide) ?_
  exact mM_zret (h := (0, 1, M)) (rfl) hx hb hr hlocks (Or.inl rfl) hP hD hS dX5_limits_26
def hX5_limits (M : MSt) (j : Nat) (lo : Int64) (hi : Int64) : Int32 × Int32 × MSt := if (fX5_isNone (M.1 0 j) lo) = 0 then (if (fX5_isNone (M.1 0 j) hi) = 0 then (if (fX5_isAbove (M.1 0 j) (fX5_cut (M.1 0 j) lo) (fX5_cut (M.1 0 j) hi)) = 0 then (1, 0, (sL (sL M 5 j (fX5_cut (M.1 0 j) lo)) 6 j (fX5_cut (M.1 0 j) hi))) else (0, 0, (sL (sL M 5 j (fX5_cut (M.1 0 j) lo)) 6 j (fX5_cut (M.1 0 j) hi)))) else (0, 2, M)) else (0, 2, M)
set_option maxRecDepth 100000 in
set_option maxHeartbeats 4000000 in
theorem cqX5_limits (l : Launch) (D : mG) (r : Nat) (ma : Nat → Nat) (t : Int32) (M : MSt) {j : Nat} (hj : j < 8) (hin : fX5_isInst (M.1 14 0) (nI j) = 1) (lo hi : Int64) : cQ l D yX5_limits cX5_limits 7 (some .boolean) (rmP 5) (wM D r ma t M) [.ref r, .int (nI j), .long lo, .long hi] (some (.int (hX5_limits M j lo hi).1)) (wM D r ma (hX5_limits M j lo hi).2.1 (hX5_limits M j lo hi).2.2) := by
  refine cQ_of (by decide) (Nat.le_of_ble_eq_true rfl) ?_
  intro p e s m below meth c ls A hx hb hr hlocks G hnm hgf hA hP hD hS hl
  have hl : lv_has ls 7 [(0, .ref r), (1, .int (nI j)), (2, .long lo), (4, .long hi)] := hl
  refine lv_aload_n hx hb dX5_limits_0 rfl (lv_at hl 0 rfl) ?_
  refine lv_iconst (v := 0) hx hb dX5_limits_1 (by decide) ?_
  refine mw_put (w1 := wM D r ma 0 M) G hgf hP hD hS 0 rfl rfl inX5 tyX5_ok nmX5 0 (by decide) qw3_161 rfl rfl rfl rfl (Nat.le_of_ble_eq_true rfl) rfl dX5_limits_2 (fun H locs hP hD hS => ?_)
  refine lv_aload_n hx hb dX5_limits_5 rfl (lv_at hl 0 rfl) ?_
  refine lv_iload_n hx hb dX5_limits_6 rfl (lv_at hl 1 rfl) ?_
  refine kV (C := RX5) G (cvX5_isInstrument l D r ma 0 M (nI j)) okX5_isInstrument hgf hP (mw_recv hgf (hP 0 _ rfl) rfl) qw4_14 ⟨Nat.le_of_ble_eq_true rfl, Nat.le_of_ble_eq_true rfl⟩ ⟨Nat.zero_le _, Nat.zero_le _⟩ hl.1 (Nat.le_of_ble_eq_true rfl) rfl dX5_limits_7 ?_
  rw [show fX5_isInst (M.1 14 0) (nI j) = 1 from hin]
  refine lv_if_ne (tgt := 27) hx hb dX5_limits_10 (by decide) (fun _ => ?_) (fun h => absurd h (by decide))
  refine lv_aload_n hx hb dX5_limits_27 rfl (lv_at hl 0 rfl) ?_
  refine mw_get G hgf (hP 0 _ rfl) rfl inX5 2 (by decide) qw3_163 rfl dX5_limits_28 ?_
  refine lv_iload_n hx hb dX5_limits_31 rfl (lv_at hl 1 rfl) ?_
  refine mN_iald (f := M.1 0) G hgf (hP 1 _ rfl) (k := j) (rfl) (hj) (by decide) dX5_limits_32 ?_
  refine lv_istore (lv' := [(6, .int (M.1 0 j)), (0, .ref r), (1, .int (nI j)), (2, .long lo), (4, .long hi)]) hx hb dX5_limits_33 hl (by decide) rfl (fun ls hl => ?_)
  refine lv_iload hx hb dX5_limits_35 (lv_at hl 0 rfl) ?_
  refine lv_lload_n hx hb dX5_limits_37 rfl (lv_at hl 3 rfl) ?_
  refine kS G (cvX5_isNone l D (M.1 0 j) lo) okX5_isNone hgf trivial qw4_27 ⟨Nat.le_of_ble_eq_true rfl, Nat.le_of_ble_eq_true rfl⟩ ⟨Nat.zero_le _, Nat.zero_le _⟩ hl.1 (Nat.le_of_ble_eq_true rfl) rfl dX5_limits_38 ?_
  refine lv_if_ne (tgt := 54) hx hb dX5_limits_41 (by decide) (fun c_1 => ?_) (fun c_1 => ?_)
  · refine lv_aload_n hx hb dX5_limits_54 rfl (lv_at hl 1 rfl) ?_
    refine lv_iconst (v := 2) hx hb dX5_limits_55 (by decide) ?_
    refine kQ (C := RX5) (wr := []) (w1 := wM D r ma 2 M) G (cqX5_fail l D r ma 0 M 2) okX5_fail hgf hP hD hS hA [0, 1, 2, 3, 4, 5, 6, 7, 8, 9, 10, 11, 12, 13, 14] [] rfl rfl rfl rfl (by decide) (mw_recv hgf (hP 0 _ rfl) rfl) qw3_227 ⟨Nat.le_of_ble_eq_true rfl, Nat.le_of_ble_eq_true rfl⟩ ⟨Nat.zero_le _, Nat.zero_le _⟩ hl.1 (Nat.le_of_ble_eq_true rfl) rfl dX5_limits_56 (fun H locs hP hD hS => ?_)
    refine lv_if_le (tgt := 66) hx hb dX5_limits_59 (by decide) (fun _ => ?_) (fun h => absurd (by decide) h)
    refine lv_iconst (v := 0) hx hb dX5_limits_66 (by decide) ?_
    exact mM_zret (h := hX5_limits M j lo hi) ((if_neg c_1).trans (rfl)) hx hb hr hlocks (Or.inl rfl) hP hD hS dX5_limits_67
  · refine lv_iload hx hb dX5_limits_44 (lv_at hl 0 rfl) ?_
    refine lv_lload hx hb dX5_limits_46 (lv_at hl 4 rfl) ?_
    refine kS G (cvX5_isNone l D (M.1 0 j) hi) okX5_isNone hgf trivial qw4_27 ⟨Nat.le_of_ble_eq_true rfl, Nat.le_of_ble_eq_true rfl⟩ ⟨Nat.zero_le _, Nat.zero_le _⟩ hl.1 (Nat.le_of_ble_eq_true rfl) rfl dX5_limits_48 ?_
    refine lv_if_eq (tgt := 68) hx hb dX5_limits_51 (by decide) (fun c_2 => ?_) (fun c_2 => ?_)
    · refine lv_aload_n hx hb dX5_limits_68 rfl (lv_at hl 1 rfl) ?_
      refine mw_get G hgf (hP 0 _ rfl) rfl inX5 7 (by decide) qw3_168 rfl dX5_limits_69 ?_
      refine lv_iload_n hx hb dX5_limits_72 rfl (lv_at hl 2 rfl) ?_
      refine lv_iload hx hb dX5_limits_73 (lv_at hl 0 rfl) ?_
      refine lv_lload_n hx hb dX5_limits_75 rfl (lv_at hl 3 rfl) ?_
      refine kS G (cvX5_cut l D (M.1 0 j) lo) okX5_cut hgf trivial qw4_5 ⟨Nat.le_of_ble_eq_true rfl, Nat.le_of_ble_eq_true rfl⟩ ⟨Nat.zero_le _, Nat.zero_le _⟩ hl.1 (Nat.le_of_ble_eq_true rfl) rfl dX5_limits_76 ?_
      refine mN_last (f := M.2 5) (w1 := wM D r ma 0 (sL M 5 j (fX5_cut (M.1 0 j) lo))) G hgf hP hD hS 6 rfl (k := j) (rfl) (hj) (by decide) rfl dX5_limits_79 (fun H locs hP hD hS => ?_)
      refine lv_aload_n hx hb dX5_limits_80 rfl (lv_at hl 1 rfl) ?_
      refine mw_get G hgf (hP 0 _ rfl) rfl inX5 8 (by decide) qw3_169 rfl dX5_limits_81 ?_
      refine lv_iload_n hx hb dX5_limits_84 rfl (lv_at hl 2 rfl) ?_
      refine lv_iload hx hb dX5_limits_85 (lv_at hl 0 rfl) ?_
      refine lv_lload hx hb dX5_limits_87 (lv_at hl 4 rfl) ?_
      refine kS G (cvX5_cut l D (M.1 0 j) hi) okX5_cut hgf trivial qw4_5 ⟨Nat.le_of_ble_eq_true rfl, Nat.le_of_ble_eq_true rfl⟩ ⟨Nat.zero_le _, Nat.zero_le _⟩ hl.1 (Nat.le_of_ble_eq_true rfl) rfl dX5_limits_89 ?_
      refine mN_last (f := (sL M 5 j (fX5_cut (M.1 0 j) lo)).2 6) (w1 := wM D r ma 0 (sL (sL M 5 j (fX5_cut (M.1 0 j) lo)) 6 j (fX5_cut (M.1 0 j) hi))) G hgf hP hD hS 7 rfl (k := j) (rfl) (hj) (by decide) rfl dX5_limits_92 (fun H locs hP hD hS => ?_)
      refine lv_iload hx hb dX5_limits_93 (lv_at hl 0 rfl) ?_
      refine lv_aload_n hx hb dX5_limits_95 rfl (lv_at hl 1 rfl) ?_
      refine mw_get G hgf (hP 0 _ rfl) rfl inX5 7 (by decide) qw3_168 rfl dX5_limits_96 ?_
      refine lv_iload_n hx hb dX5_limits_99 rfl (lv_at hl 2 rfl) ?_
      refine mN_lald (f := (sL M 5 j (fX5_cut (M.1 0 j) lo)).2 5) G hgf (hP 6 _ rfl) (k := j) (rfl) (hj) (by decide) dX5_limits_100 ?_
      rw [sL_self]
      refine lv_aload_n hx hb dX5_limits_101 rfl (lv_at hl 1 rfl) ?_
      refine mw_get G hgf (hP 0 _ rfl) rfl inX5 8 (by decide) qw3_169 rfl dX5_limits_102 ?_
      refine lv_iload_n hx hb dX5_limits_105 rfl (lv_at hl 2 rfl) ?_
      refine mN_lald (f := (sL M 6 j (fX5_cut (M.1 0 j) hi)).2 6) G hgf (hP 7 _ rfl) (k := j) (rfl) (hj) (by decide) dX5_limits_106 ?_
      rw [sL_self]
      refine kS G (cvX5_isAbove l D (M.1 0 j) (fX5_cut (M.1 0 j) lo) (fX5_cut (M.1 0 j) hi)) okX5_isAbove hgf trivial qw4_50 ⟨Nat.le_of_ble_eq_true rfl, Nat.le_of_ble_eq_true rfl⟩ ⟨Nat.zero_le _, Nat.zero_le _⟩ hl.1 (Nat.le_of_ble_eq_true rfl) rfl dX5_limits_107 ?_
      refine lv_if_ne (tgt := 117) hx hb dX5_limits_110 (by decide) (fun c_3 => ?_) (fun c_3 => ?_)
      · refine lv_iconst (v := 0) hx hb dX5_limits_117 (by decide) ?_
        exact mM_zret (h := hX5_limits M j lo hi) ((if_pos c_1).trans ((if_pos c_2).trans ((if_neg c_3).trans (rfl)))) hx hb hr hlocks (Or.inl rfl) hP hD hS dX5_limits_118
      · refine lv_iconst (v := 1) hx hb dX5_limits_113 (by decide) ?_
        refine lv_goto (tgt := 118) hx hb dX5_limits_114 (by decide) ?_
        exact mM_zret (h := hX5_limits M j lo hi) ((if_pos c_1).trans ((if_pos c_2).trans ((if_pos c_3).trans (rfl)))) hx hb hr hlocks (Or.inr rfl) hP hD hS dX5_limits_118
    · refine lv_aload_n hx hb dX5_limits_54 rfl (lv_at hl 1 rfl) ?_
      refine lv_iconst (v := 2) hx hb dX5_limits_55 (by decide) ?_
      refine kQ (C := RX5) (wr := []) (w1 := wM D r ma 2 M) G (cqX5_fail l D r ma 0 M 2) okX5_fail hgf hP hD hS hA [0, 1, 2, 3, 4, 5, 6, 7, 8, 9, 10, 11, 12, 13, 14] [] rfl rfl rfl rfl (by decide) (mw_recv hgf (hP 0 _ rfl) rfl) qw3_227 ⟨Nat.le_of_ble_eq_true rfl, Nat.le_of_ble_eq_true rfl⟩ ⟨Nat.zero_le _, Nat.zero_le _⟩ hl.1 (Nat.le_of_ble_eq_true rfl) rfl dX5_limits_56 (fun H locs hP hD hS => ?_)
      refine lv_if_le (tgt := 66) hx hb dX5_limits_59 (by decide) (fun _ => ?_) (fun h => absurd (by decide) h)
      refine lv_iconst (v := 0) hx hb dX5_limits_66 (by decide) ?_
      exact mM_zret (h := hX5_limits M j lo hi) ((if_pos c_1).trans ((if_neg c_2).trans (rfl))) hx hb hr hlocks (Or.inl rfl) hP hD hS dX5_limits_67
def hX5_mount (M : MSt) (n : Nat) (so : Int32) : Int32 × Int32 × MSt := if so < 0 then (0, 1, M) else (if so ≤ 3 then (if (nI n) = 8 then (0, 2, M) else (nI n, 0, (sL (sL (sI (sI M 14 0 ((nI n) + 1)) 0 n so) 5 n (if so = 0 then (-2147483648) else (if so = 1 then (-9223372036854775808) else fX5_signed so (fX5_endless so) 1) : Int64)) 6 n (if so = 0 then 2147483647 else (if so = 1 then 9223372036854775807 else fX5_signed so (fX5_endless so) 0) : Int64)))) else (0, 1, M))
set_option maxRecDepth 100000 in
set_option maxHeartbeats 4000000 in
theorem cqX5_mount (l : Launch) (D : mG) (r : Nat) (ma : Nat → Nat) (t : Int32) (M : MSt) {n : Nat} (hn8 : n ≤ 8) (hn : M.1 14 0 = nI n) (so : Int32) : cQ l D yX5_mount cX5_mount 3 (some .int) (rmP 2) (wM D r ma t M) [.ref r, .int so] (some (.int (hX5_mount M n so).1)) (wM D r ma (hX5_mount M n so).2.1 (hX5_mount M n so).2.2) := by
  refine cQ_of (by decide) (Nat.le_of_ble_eq_true rfl) ?_
  intro p e s m below meth c ls A hx hb hr hlocks G hnm hgf hA hP hD hS hl
  have hl : lv_has ls 3 [(0, .ref r), (1, .int so)] := hl
  refine lv_aload_n hx hb dX5_mount_0 rfl (lv_at hl 0 rfl) ?_
  refine lv_iconst (v := 0) hx hb dX5_mount_1 (by decide) ?_
  refine mw_put (w1 := wM D r ma 0 M) G hgf hP hD hS 0 rfl rfl inX5 tyX5_ok nmX5 0 (by decide) qw3_161 rfl rfl rfl rfl (Nat.le_of_ble_eq_true rfl) rfl dX5_mount_2 (fun H locs hP hD hS => ?_)
  refine lv_iload_n hx hb dX5_mount_5 rfl (lv_at hl 1 rfl) ?_
  refine lv_if_lt (tgt := 14) hx hb dX5_mount_6 (by decide) (fun c_1 => ?_) (fun c_1 => ?_)
  · refine lv_aload_n hx hb dX5_mount_14 rfl (lv_at hl 0 rfl) ?_
    refine lv_iconst (v := 1) hx hb dX5_mount_15 (by decide) ?_
    refine kQ (C := RX5) (wr := []) (w1 := wM D r ma 1 M) G (cqX5_fail l D r ma 0 M 1) okX5_fail hgf hP hD hS hA [0, 1, 2, 3, 4, 5, 6, 7, 8, 9, 10, 11, 12, 13, 14] [] rfl rfl rfl rfl (by decide) (mw_recv hgf (hP 0 _ rfl) rfl) qw3_227 ⟨Nat.le_of_ble_eq_true rfl, Nat.le_of_ble_eq_true rfl⟩ ⟨Nat.zero_le _, Nat.zero_le _⟩ hl.1 (Nat.le_of_ble_eq_true rfl) rfl dX5_mount_16 (fun H locs hP hD hS => ?_)
    exact mM_iret (h := hX5_mount M n so) ((if_pos c_1).trans (rfl)) hx hb hr hlocks hP hD hS dX5_mount_19
  · refine lv_iload_n hx hb dX5_mount_9 rfl (lv_at hl 1 rfl) ?_
    refine lv_iconst (v := 3) hx hb dX5_mount_10 (by decide) ?_
    refine lv_icmp_le (tgt := 20) hx hb dX5_mount_11 (by decide) (fun c_2 => ?_) (fun c_2 => ?_)
    · refine lv_aload_n hx hb dX5_mount_20 rfl (lv_at hl 0 rfl) ?_
      refine mw_get G hgf (hP 0 _ rfl) rfl inX5 1 (by decide) qw3_162 rfl dX5_mount_21 ?_
      rw [show (M.1 14 0) = nI n from hn]
      refine lv_bipush (v := 8) hx hb dX5_mount_24 (by decide) ?_
      refine lv_icmp_ne (tgt := 35) hx hb dX5_mount_26 (by decide) (fun c_3 => ?_) (fun c_3 => ?_)
      · refine lv_aload_n hx hb dX5_mount_35 rfl (lv_at hl 0 rfl) ?_
        refine mw_get G hgf (hP 0 _ rfl) rfl inX5 1 (by decide) qw3_162 rfl dX5_mount_36 ?_
        rw [show (M.1 14 0) = nI n from hn]
        refine lv_istore_n (lv' := [(2, .int (nI n)), (0, .ref r), (1, .int so)]) hx hb dX5_mount_39 rfl hl (by decide) rfl (fun ls hl => ?_)
        refine lv_aload_n hx hb dX5_mount_40 rfl (lv_at hl 1 rfl) ?_
        refine lv_dup hx hb dX5_mount_41 rfl ?_
        refine mw_get G hgf (hP 0 _ rfl) rfl inX5 1 (by decide) qw3_162 rfl dX5_mount_42 ?_
        rw [show (M.1 14 0) = nI n from hn]
        refine lv_iconst (v := 1) hx hb dX5_mount_45 (by decide) ?_
        refine lv_iadd hx hb dX5_mount_46 ?_
        refine mw_put (w1 := wM D r ma 0 (sI M 14 0 ((nI n) + 1))) G hgf hP hD hS 0 rfl rfl inX5 tyX5_ok nmX5 1 (by decide) qw3_162 rfl rfl rfl rfl (Nat.le_of_ble_eq_true rfl) rfl dX5_mount_47 (fun H locs hP hD hS => ?_)
        refine lv_aload_n hx hb dX5_mount_50 rfl (lv_at hl 1 rfl) ?_
        refine mw_get G hgf (hP 0 _ rfl) rfl inX5 2 (by decide) qw3_163 rfl dX5_mount_51 ?_
        refine lv_iload_n hx hb dX5_mount_54 rfl (lv_at hl 0 rfl) ?_
        refine lv_iload_n hx hb dX5_mount_55 rfl (lv_at hl 2 rfl) ?_
        refine mN_iast (f := (sI M 14 0 ((nI n) + 1)).1 0) (w1 := wM D r ma 0 (sI (sI M 14 0 ((nI n) + 1)) 0 n so)) G hgf hP hD hS 1 rfl (k := n) (rfl) (lt8 hn8 c_3) (by decide) rfl dX5_mount_56 (fun H locs hP hD hS => ?_)
        refine lv_aload_n hx hb dX5_mount_57 rfl (lv_at hl 1 rfl) ?_
        refine mw_get G hgf (hP 0 _ rfl) rfl inX5 7 (by decide) qw3_168 rfl dX5_mount_58 ?_
        refine lv_iload_n hx hb dX5_mount_61 rfl (lv_at hl 0 rfl) ?_
        refine lv_iload_n hx hb dX5_mount_62 rfl (lv_at hl 2 rfl) ?_
        refine mw_join 92 (.long (if so = 0 then (-2147483648) else (if so = 1 then (-9223372036854775808) else fX5_signed so (fX5_endless so) 1) : Int64)) [.int (nI n), .ref (ma 5)] (fun K => ?_) ?_
        · refine lv_if_ne (tgt := 72) hx hb dX5_mount_63 (by decide) (fun c_4 => ?_) (fun c_4 => ?_)
          · refine lv_iload_n hx hb dX5_mount_72 rfl (lv_at hl 2 rfl) ?_
            refine lv_iconst (v := 1) hx hb dX5_mount_73 (by decide) ?_
            refine lv_icmp_ne (tgt := 83) hx hb dX5_mount_74 (by decide) (fun c_5 => ?_) (fun c_5 => ?_)
            · refine lv_iload_n hx hb dX5_mount_83 rfl (lv_at hl 2 rfl) ?_
              refine lv_iload_n hx hb dX5_mount_84 rfl (lv_at hl 2 rfl) ?_
              refine kS G (cvX5_endless l D so) okX5_endless hgf trivial qw3_233 ⟨Nat.le_of_ble_eq_true rfl, Nat.le_of_ble_eq_true rfl⟩ ⟨Nat.zero_le _, Nat.zero_le _⟩ hl.1 (Nat.le_of_ble_eq_true rfl) rfl dX5_mount_85 ?_
              refine lv_iconst (v := 1) hx hb dX5_mount_88 (by decide) ?_
              refine kS G (cvX5_signed l D so (fX5_endless so) 1) okX5_signed hgf trivial qw3_238 ⟨Nat.le_of_ble_eq_true rfl, Nat.le_of_ble_eq_true rfl⟩ ⟨Nat.zero_le _, Nat.zero_le _⟩ hl.1 (Nat.le_of_ble_eq_true rfl) rfl dX5_mount_89 ?_
              exact mw_topL ((if_neg c_4).trans ((if_neg c_5).trans (rfl))) K
            · refine lv_ldc2 (v := (-9223372036854775808)) hx hb G.2.2.2.1 (G.2.2.2.2 _ qw3_232) dX5_mount_77 ?_
              refine lv_goto (tgt := 92) hx hb dX5_mount_80 (by decide) ?_
              exact mw_topL ((if_neg c_4).trans ((if_pos c_5).trans (rfl))) K
          · refine lv_ldc2 (v := (-2147483648)) hx hb G.2.2.2.1 (G.2.2.2.2 _ qw3_231) dX5_mount_66 ?_
            refine lv_goto (tgt := 92) hx hb dX5_mount_69 (by decide) ?_
            exact mw_topL ((if_pos c_4).trans (rfl)) K
        refine mN_last (f := (sI (sI M 14 0 ((nI n) + 1)) 0 n so).2 5) (w1 := wM D r ma 0 (sL (sI (sI M 14 0 ((nI n) + 1)) 0 n so) 5 n (if so = 0 then (-2147483648) else (if so = 1 then (-9223372036854775808) else fX5_signed so (fX5_endless so) 1) : Int64))) G hgf hP hD hS 6 rfl (k := n) (rfl) (lt8 hn8 c_3) (by decide) rfl dX5_mount_92 (fun H locs hP hD hS => ?_)
        refine lv_aload_n hx hb dX5_mount_93 rfl (lv_at hl 1 rfl) ?_
        refine mw_get G hgf (hP 0 _ rfl) rfl inX5 8 (by decide) qw3_169 rfl dX5_mount_94 ?_
        refine lv_iload_n hx hb dX5_mount_97 rfl (lv_at hl 0 rfl) ?_
        refine lv_iload_n hx hb dX5_mount_98 rfl (lv_at hl 2 rfl) ?_
        refine mw_join 128 (.long (if so = 0 then 2147483647 else (if so = 1 then 9223372036854775807 else fX5_signed so (fX5_endless so) 0) : Int64)) [.int (nI n), .ref (ma 6)] (fun K => ?_) ?_
        · refine lv_if_ne (tgt := 108) hx hb dX5_mount_99 (by decide) (fun c_6 => ?_) (fun c_6 => ?_)
          · refine lv_iload_n hx hb dX5_mount_108 rfl (lv_at hl 2 rfl) ?_
            refine lv_iconst (v := 1) hx hb dX5_mount_109 (by decide) ?_
            refine lv_icmp_ne (tgt := 119) hx hb dX5_mount_110 (by decide) (fun c_7 => ?_) (fun c_7 => ?_)
            · refine lv_iload_n hx hb dX5_mount_119 rfl (lv_at hl 2 rfl) ?_
              refine lv_iload_n hx hb dX5_mount_120 rfl (lv_at hl 2 rfl) ?_
              refine kS G (cvX5_endless l D so) okX5_endless hgf trivial qw3_233 ⟨Nat.le_of_ble_eq_true rfl, Nat.le_of_ble_eq_true rfl⟩ ⟨Nat.zero_le _, Nat.zero_le _⟩ hl.1 (Nat.le_of_ble_eq_true rfl) rfl dX5_mount_121 ?_
              refine lv_iconst (v := 0) hx hb dX5_mount_124 (by decide) ?_
              refine kS G (cvX5_signed l D so (fX5_endless so) 0) okX5_signed hgf trivial qw3_238 ⟨Nat.le_of_ble_eq_true rfl, Nat.le_of_ble_eq_true rfl⟩ ⟨Nat.zero_le _, Nat.zero_le _⟩ hl.1 (Nat.le_of_ble_eq_true rfl) rfl dX5_mount_125 ?_
              exact mw_topL ((if_neg c_6).trans ((if_neg c_7).trans (rfl))) K
            · refine lv_ldc2 (v := 9223372036854775807) hx hb G.2.2.2.1 (G.2.2.2.2 _ qw4_9) dX5_mount_113 ?_
              refine lv_goto (tgt := 128) hx hb dX5_mount_116 (by decide) ?_
              exact mw_topL ((if_neg c_6).trans ((if_pos c_7).trans (rfl))) K
          · refine lv_ldc2 (v := 2147483647) hx hb G.2.2.2.1 (G.2.2.2.2 _ qw4_8) dX5_mount_102 ?_
            refine lv_goto (tgt := 128) hx hb dX5_mount_105 (by decide) ?_
            exact mw_topL ((if_pos c_6).trans (rfl)) K
        refine mN_last (f := (sL (sI (sI M 14 0 ((nI n) + 1)) 0 n so) 5 n (if so = 0 then (-2147483648) else (if so = 1 then (-9223372036854775808) else fX5_signed so (fX5_endless so) 1) : Int64)).2 6) (w1 := wM D r ma 0 (sL (sL (sI (sI M 14 0 ((nI n) + 1)) 0 n so) 5 n (if so = 0 then (-2147483648) else (if so = 1 then (-9223372036854775808) else fX5_signed so (fX5_endless so) 1) : Int64)) 6 n (if so = 0 then 2147483647 else (if so = 1 then 9223372036854775807 else fX5_signed so (fX5_endless so) 0) : Int64))) G hgf hP hD hS 7 rfl (k := n) (rfl) (lt8 hn8 c_3) (by decide) rfl dX5_mount_128 (fun H locs hP hD hS => ?_)
        refine lv_iload_n hx hb dX5_mount_129 rfl (lv_at hl 0 rfl) ?_
        exact mM_iret (h := hX5_mount M n so) ((if_neg c_1).trans ((if_pos c_2).trans ((if_neg c_3).trans (rfl)))) hx hb hr hlocks hP hD hS dX5_mount_130
      · refine lv_aload_n hx hb dX5_mount_29 rfl (lv_at hl 0 rfl) ?_
        refine lv_iconst (v := 2) hx hb dX5_mount_30 (by decide) ?_
        refine kQ (C := RX5) (wr := []) (w1 := wM D r ma 2 M) G (cqX5_fail l D r ma 0 M 2) okX5_fail hgf hP hD hS hA [0, 1, 2, 3, 4, 5, 6, 7, 8, 9, 10, 11, 12, 13, 14] [] rfl rfl rfl rfl (by decide) (mw_recv hgf (hP 0 _ rfl) rfl) qw3_227 ⟨Nat.le_of_ble_eq_true rfl, Nat.le_of_ble_eq_true rfl⟩ ⟨Nat.zero_le _, Nat.zero_le _⟩ hl.1 (Nat.le_of_ble_eq_true rfl) rfl dX5_mount_31 (fun H locs hP hD hS => ?_)
        exact mM_iret (h := hX5_mount M n so) ((if_neg c_1).trans ((if_pos c_2).trans ((if_pos c_3).trans (rfl)))) hx hb hr hlocks hP hD hS dX5_mount_34
    · refine lv_aload_n hx hb dX5_mount_14 rfl (lv_at hl 0 rfl) ?_
      refine lv_iconst (v := 1) hx hb dX5_mount_15 (by decide) ?_
      refine kQ (C := RX5) (wr := []) (w1 := wM D r ma 1 M) G (cqX5_fail l D r ma 0 M 1) okX5_fail hgf hP hD hS hA [0, 1, 2, 3, 4, 5, 6, 7, 8, 9, 10, 11, 12, 13, 14] [] rfl rfl rfl rfl (by decide) (mw_recv hgf (hP 0 _ rfl) rfl) qw3_227 ⟨Nat.le_of_ble_eq_true rfl, Nat.le_of_ble_eq_true rfl⟩ ⟨Nat.zero_le _, Nat.zero_le _⟩ hl.1 (Nat.le_of_ble_eq_true rfl) rfl dX5_mount_16 (fun H locs hP hD hS => ?_)
      exact mM_iret (h := hX5_mount M n so) ((if_neg c_1).trans ((if_neg c_2).trans (rfl))) hx hb hr hlocks hP hD hS dX5_mount_19
set_option maxRecDepth 100000 in
set_option maxHeartbeats 4000000 in
theorem cqX5_forget_bad (l : Launch) (D : mG) (r : Nat) (ma : Nat → Nat) (t : Int32) (M : MSt) (i : Int32) (hbad : fX5_isInst (M.1 14 0) i = 0) : cQ l D yX5_forget cX5_forget 3 (some .int) (rmP 1) (wM D r ma t M) [.ref r, .int i] (some (.int 0)) (wM D r ma 1 M) := by
  refine cQ_of (by decide) (Nat.le_of_ble_eq_true rfl) ?_
  intro p e s m below meth c ls A hx hb hr hlocks G hnm hgf hA hP hD hS hl
  have hl : lv_has ls 3 [(0, .ref r), (1, .int i)] := hl
  refine lv_aload_n hx hb dX5_forget_0 rfl (lv_at hl 0 rfl) ?_
  refine lv_iconst (v := 0) hx hb dX5_forget_1 (by decide) ?_
  refine mw_put (w1 := wM D r ma 0 M) G hgf hP hD hS 0 rfl rfl inX5 tyX5_ok nmX5 0 (by decide) qw3_161 rfl rfl rfl rfl (Nat.le_of_ble_eq_true rfl) rfl dX5_forget_2 (fun H locs hP hD hS => ?_)
  refine lv_aload_n hx hb dX5_forget_5 rfl (lv_at hl 0 rfl) ?_
  refine lv_iload_n hx hb dX5_forget_6 rfl (lv_at hl 1 rfl) ?_
  refine kV (C := RX5) G (cvX5_isInstrument l D r ma 0 M i) okX5_isInstrument hgf hP (mw_recv hgf (hP 0 _ rfl) rfl) qw4_14 ⟨Nat.le_of_ble_eq_true rfl, Nat.le_of_ble_eq_true rfl⟩ ⟨Nat.zero_le _, Nat.zero_le _⟩ hl.1 (Nat.le_of_ble_eq_true rfl) rfl dX5_forget_7 ?_
  rw [show fX5_isInst (M.1 14 0) i = 0 from hbad]
  refine lv_if_ne (tgt := 19) hx hb dX5_forget_10 (by decide) (fun h => absurd (by decide) h) (fun _ => ?_)
  refine lv_aload_n hx hb dX5_forget_13 rfl (lv_at hl 0 rfl) ?_
  refine lv_iconst (v := 1) hx hb dX5_forget_14 (by decide) ?_
  refine kQ (C := RX5) (wr := []) (w1 := wM D r ma 1 M) G (cqX5_fail l D r ma 0 M 1) okX5_fail hgf hP hD hS hA [0, 1, 2, 3, 4, 5, 6, 7, 8, 9, 10, 11, 12, 13, 14] [] rfl rfl rfl rfl (by decide) (mw_recv hgf (hP 0 _ rfl) rfl) qw3_227 ⟨Nat.le_of_ble_eq_true rfl, Nat.le_of_ble_eq_true rfl⟩ ⟨Nat.zero_le _, Nat.zero_le _⟩ hl.1 (Nat.le_of_ble_eq_true rfl) rfl dX5_forget_15 (fun H locs hP hD hS => ?_)
  exact mM_iret (h := (0, 1, M)) (rfl) hx hb hr hlocks hP hD hS dX5_forget_18
def hX5_forget (M : MSt) (j : Nat) : Int32 × Int32 × MSt := (M.1 7 j, 0, (sI M 7 j 0))
set_option maxRecDepth 100000 in
set_option maxHeartbeats 4000000 in
theorem cqX5_forget (l : Launch) (D : mG) (r : Nat) (ma : Nat → Nat) (t : Int32) (M : MSt) {j : Nat} (hj : j < 8) (hin : fX5_isInst (M.1 14 0) (nI j) = 1) : cQ l D yX5_forget cX5_forget 3 (some .int) (rmP 1) (wM D r ma t M) [.ref r, .int (nI j)] (some (.int (hX5_forget M j).1)) (wM D r ma (hX5_forget M j).2.1 (hX5_forget M j).2.2) := by
  refine cQ_of (by decide) (Nat.le_of_ble_eq_true rfl) ?_
  intro p e s m below meth c ls A hx hb hr hlocks G hnm hgf hA hP hD hS hl
  have hl : lv_has ls 3 [(0, .ref r), (1, .int (nI j))] := hl
  refine lv_aload_n hx hb dX5_forget_0 rfl (lv_at hl 0 rfl) ?_
  refine lv_iconst (v := 0) hx hb dX5_forget_1 (by decide) ?_
  refine mw_put (w1 := wM D r ma 0 M) G hgf hP hD hS 0 rfl rfl inX5 tyX5_ok nmX5 0 (by decide) qw3_161 rfl rfl rfl rfl (Nat.le_of_ble_eq_true rfl) rfl dX5_forget_2 (fun H locs hP hD hS => ?_)
  refine lv_aload_n hx hb dX5_forget_5 rfl (lv_at hl 0 rfl) ?_
  refine lv_iload_n hx hb dX5_forget_6 rfl (lv_at hl 1 rfl) ?_
  refine kV (C := RX5) G (cvX5_isInstrument l D r ma 0 M (nI j)) okX5_isInstrument hgf hP (mw_recv hgf (hP 0 _ rfl) rfl) qw4_14 ⟨Nat.le_of_ble_eq_true rfl, Nat.le_of_ble_eq_true rfl⟩ ⟨Nat.zero_le _, Nat.zero_le _⟩ hl.1 (Nat.le_of_ble_eq_true rfl) rfl dX5_forget_7 ?_
  rw [show fX5_isInst (M.1 14 0) (nI j) = 1 from hin]
  refine lv_if_ne (tgt := 19) hx hb dX5_forget_10 (by decide) (fun _ => ?_) (fun h => absurd h (by decide))
  refine lv_aload_n hx hb dX5_forget_19 rfl (lv_at hl 0 rfl) ?_
  refine mw_get G hgf (hP 0 _ rfl) rfl inX5 9 (by decide) qw3_170 rfl dX5_forget_20 ?_
  refine lv_iload_n hx hb dX5_forget_23 rfl (lv_at hl 1 rfl) ?_
  refine mN_iald (f := M.1 7) G hgf (hP 8 _ rfl) (k := j) (rfl) (hj) (by decide) dX5_forget_24 ?_
  refine lv_istore_n (lv' := [(2, .int (M.1 7 j)), (0, .ref r), (1, .int (nI j))]) hx hb dX5_forget_25 rfl hl (by decide) rfl (fun ls hl => ?_)
  refine lv_aload_n hx hb dX5_forget_26 rfl (lv_at hl 1 rfl) ?_
  refine mw_get G hgf (hP 0 _ rfl) rfl inX5 9 (by decide) qw3_170 rfl dX5_forget_27 ?_
  refine lv_iload_n hx hb dX5_forget_30 rfl (lv_at hl 2 rfl) ?_
  refine lv_iconst (v := 0) hx hb dX5_forget_31 (by decide) ?_
  refine mN_iast (f := M.1 7) (w1 := wM D r ma 0 (sI M 7 j 0)) G hgf hP hD hS 8 rfl (k := j) (rfl) (hj) (by decide) rfl dX5_forget_32 (fun H locs hP hD hS => ?_)
  refine lv_iload_n hx hb dX5_forget_33 rfl (lv_at hl 0 rfl) ?_
  exact mM_iret (h := hX5_forget M j) (rfl) hx hb hr hlocks hP hD hS dX5_forget_34
set_option maxRecDepth 100000 in
set_option maxHeartbeats 4000000 in
theorem cqX5_reading_bad (l : Launch) (D : mG) (r : Nat) (ma : Nat → Nat) (t : Int32) (M : MSt) (i x : Int32) (hbad : fX5_isInst (M.1 14 0) i = 0) : cQ l D yX5_reading cX5_reading 4 (some .long) (rmP 1) (wM D r ma t M) [.ref r, .int i, .int x] (some (.long 0)) (wM D r ma 1 M) := by
  refine cQ_of (by decide) (Nat.le_of_ble_eq_true rfl) ?_
  intro p e s m below meth c ls A hx hb hr hlocks G hnm hgf hA hP hD hS hl
  have hl : lv_has ls 4 [(0, .ref r), (1, .int i), (2, .int x)] := hl
  refine lv_aload_n hx hb dX5_reading_0 rfl (lv_at hl 0 rfl) ?_
  refine lv_iconst (v := 0) hx hb dX5_reading_1 (by decide) ?_
  refine mw_put (w1 := wM D r ma 0 M) G hgf hP hD hS 0 rfl rfl inX5 tyX5_ok nmX5 0 (by decide) qw3_161 rfl rfl rfl rfl (Nat.le_of_ble_eq_true rfl) rfl dX5_reading_2 (fun H locs hP hD hS => ?_)
  refine lv_aload_n hx hb dX5_reading_5 rfl (lv_at hl 0 rfl) ?_
  refine lv_iload_n hx hb dX5_reading_6 rfl (lv_at hl 1 rfl) ?_
  refine kV (C := RX5) G (cvX5_isInstrument l D r ma 0 M i) okX5_isInstrument hgf hP (mw_recv hgf (hP 0 _ rfl) rfl) qw4_14 ⟨Nat.le_of_ble_eq_true rfl, Nat.le_of_ble_eq_true rfl⟩ ⟨Nat.zero_le _, Nat.zero_le _⟩ hl.1 (Nat.le_of_ble_eq_true rfl) rfl dX5_reading_7 ?_
  rw [show fX5_isInst (M.1 14 0) i = 0 from hbad]
  refine lv_if_ne (tgt := 20) hx hb dX5_reading_10 (by decide) (fun h => absurd (by decide) h) (fun _ => ?_)
  refine lv_aload_n hx hb dX5_reading_13 rfl (lv_at hl 0 rfl) ?_
  refine lv_iconst (v := 1) hx hb dX5_reading_14 (by decide) ?_
  refine kQ (C := RX5) (wr := []) (w1 := wM D r ma 1 M) G (cqX5_fail l D r ma 0 M 1) okX5_fail hgf hP hD hS hA [0, 1, 2, 3, 4, 5, 6, 7, 8, 9, 10, 11, 12, 13, 14] [] rfl rfl rfl rfl (by decide) (mw_recv hgf (hP 0 _ rfl) rfl) qw3_227 ⟨Nat.le_of_ble_eq_true rfl, Nat.le_of_ble_eq_true rfl⟩ ⟨Nat.zero_le _, Nat.zero_le _⟩ hl.1 (Nat.le_of_ble_eq_true rfl) rfl dX5_reading_15 (fun H locs hP hD hS => ?_)
  refine lv_i2l hx hb dX5_reading_18 rfl ?_
  exact mM_lret (h := (0, 1, M)) (rfl) hx hb hr hlocks hP hD hS dX5_reading_19
def hX5_reading (M : MSt) (j : Nat) (x : Int32) : Int64 × Int32 × MSt := if x < 0 then ((0 : Int32).toInt64, 2, M) else (if (nI (cnt M j)) ≤ x then ((0 : Int32).toInt64, 2, M) else (if x < 16 then (M.2 8 (16 * j + (cnt M j - 1 - x.toNatClampNeg) % 16), 0, M) else ((0 : Int32).toInt64, 2, M)))
set_option maxRecDepth 100000 in
set_option maxHeartbeats 4000000 in
theorem cqX5_reading (l : Launch) (D : mG) (r : Nat) (ma : Nat → Nat) (t : Int32) (M : MSt) {j : Nat} (hj : j < 8) (hin : fX5_isInst (M.1 14 0) (nI j) = 1) (hm : M.1 7 j = nI (cnt M j)) (hc : cnt M j ≤ 512) (x : Int32) : cQ l D yX5_reading cX5_reading 4 (some .long) (rmP 1) (wM D r ma t M) [.ref r, .int (nI j), .int x] (some (.long (hX5_reading M j x).1)) (wM D r ma (hX5_reading M j x).2.1 (hX5_reading M j x).2.2) := by
  refine cQ_of (by decide) (Nat.le_of_ble_eq_true rfl) ?_
  intro p e s m below meth c ls A hx hb hr hlocks G hnm hgf hA hP hD hS hl
  have hl : lv_has ls 4 [(0, .ref r), (1, .int (nI j)), (2, .int x)] := hl
  refine lv_aload_n hx hb dX5_reading_0 rfl (lv_at hl 0 rfl) ?_
  refine lv_iconst (v := 0) hx hb dX5_reading_1 (by decide) ?_
  refine mw_put (w1 := wM D r ma 0 M) G hgf hP hD hS 0 rfl rfl inX5 tyX5_ok nmX5 0 (by decide) qw3_161 rfl rfl rfl rfl (Nat.le_of_ble_eq_true rfl) rfl dX5_reading_2 (fun H locs hP hD hS => ?_)
  refine lv_aload_n hx hb dX5_reading_5 rfl (lv_at hl 0 rfl) ?_
  refine lv_iload_n hx hb dX5_reading_6 rfl (lv_at hl 1 rfl) ?_
  refine kV (C := RX5) G (cvX5_isInstrument l D r ma 0 M (nI j)) okX5_isInstrument hgf hP (mw_recv hgf (hP 0 _ rfl) rfl) qw4_14 ⟨Nat.le_of_ble_eq_true rfl, Nat.le_of_ble_eq_true rfl⟩ ⟨Nat.zero_le _, Nat.zero_le _⟩ hl.1 (Nat.le_of_ble_eq_true rfl) rfl dX5_reading_7 ?_
  rw [show fX5_isInst (M.1 14 0) (nI j) = 1 from hin]
  refine lv_if_ne (tgt := 20) hx hb dX5_reading_10 (by decide) (fun _ => ?_) (fun h => absurd h (by decide))
  refine lv_aload_n hx hb dX5_reading_20 rfl (lv_at hl 0 rfl) ?_
  refine mw_get G hgf (hP 0 _ rfl) rfl inX5 9 (by decide) qw3_170 rfl dX5_reading_21 ?_
  refine lv_iload_n hx hb dX5_reading_24 rfl (lv_at hl 1 rfl) ?_
  refine mN_iald (f := M.1 7) G hgf (hP 8 _ rfl) (k := j) (rfl) (hj) (by decide) dX5_reading_25 ?_
  rw [show M.1 7 j = nI (cnt M j) from hm]
  refine lv_istore_n (lv' := [(3, .int (nI (cnt M j))), (0, .ref r), (1, .int (nI j)), (2, .int x)]) hx hb dX5_reading_26 rfl hl (by decide) rfl (fun ls hl => ?_)
  refine lv_iload_n hx hb dX5_reading_27 rfl (lv_at hl 3 rfl) ?_
  refine lv_if_lt (tgt := 42) hx hb dX5_reading_28 (by decide) (fun c_1 => ?_) (fun c_1 => ?_)
  · refine lv_aload_n hx hb dX5_reading_42 rfl (lv_at hl 1 rfl) ?_
    refine lv_iconst (v := 2) hx hb dX5_reading_43 (by decide) ?_
    refine kQ (C := RX5) (wr := []) (w1 := wM D r ma 2 M) G (cqX5_fail l D r ma 0 M 2) okX5_fail hgf hP hD hS hA [0, 1, 2, 3, 4, 5, 6, 7, 8, 9, 10, 11, 12, 13, 14] [] rfl rfl rfl rfl (by decide) (mw_recv hgf (hP 0 _ rfl) rfl) qw3_227 ⟨Nat.le_of_ble_eq_true rfl, Nat.le_of_ble_eq_true rfl⟩ ⟨Nat.zero_le _, Nat.zero_le _⟩ hl.1 (Nat.le_of_ble_eq_true rfl) rfl dX5_reading_44 (fun H locs hP hD hS => ?_)
    refine lv_i2l hx hb dX5_reading_47 rfl ?_
    exact mM_lret (h := hX5_reading M j x) ((if_pos c_1).trans (rfl)) hx hb hr hlocks hP hD hS dX5_reading_48
  · refine lv_iload_n hx hb dX5_reading_31 rfl (lv_at hl 3 rfl) ?_
    refine lv_iload_n hx hb dX5_reading_32 rfl (lv_at hl 0 rfl) ?_
    refine lv_icmp_ge (tgt := 42) hx hb dX5_reading_33 (by decide) (fun c_2 => ?_) (fun c_2 => ?_)
    · refine lv_aload_n hx hb dX5_reading_42 rfl (lv_at hl 1 rfl) ?_
      refine lv_iconst (v := 2) hx hb dX5_reading_43 (by decide) ?_
      refine kQ (C := RX5) (wr := []) (w1 := wM D r ma 2 M) G (cqX5_fail l D r ma 0 M 2) okX5_fail hgf hP hD hS hA [0, 1, 2, 3, 4, 5, 6, 7, 8, 9, 10, 11, 12, 13, 14] [] rfl rfl rfl rfl (by decide) (mw_recv hgf (hP 0 _ rfl) rfl) qw3_227 ⟨Nat.le_of_ble_eq_true rfl, Nat.le_of_ble_eq_true rfl⟩ ⟨Nat.zero_le _, Nat.zero_le _⟩ hl.1 (Nat.le_of_ble_eq_true rfl) rfl dX5_reading_44 (fun H locs hP hD hS => ?_)
      refine lv_i2l hx hb dX5_reading_47 rfl ?_
      exact mM_lret (h := hX5_reading M j x) ((if_neg c_1).trans ((if_pos c_2).trans (rfl))) hx hb hr hlocks hP hD hS dX5_reading_48
    · refine lv_iload_n hx hb dX5_reading_36 rfl (lv_at hl 3 rfl) ?_
      refine lv_bipush (v := 16) hx hb dX5_reading_37 (by decide) ?_
      refine lv_icmp_lt (tgt := 49) hx hb dX5_reading_39 (by decide) (fun c_3 => ?_) (fun c_3 => ?_)
      · refine lv_aload_n hx hb dX5_reading_49 rfl (lv_at hl 1 rfl) ?_
        refine mw_get G hgf (hP 0 _ rfl) rfl inX5 10 (by decide) qw3_171 rfl dX5_reading_50 ?_
        refine lv_bipush (v := 16) hx hb dX5_reading_53 (by decide) ?_
        refine lv_iload_n hx hb dX5_reading_55 rfl (lv_at hl 2 rfl) ?_
        refine lv_imul hx hb dX5_reading_56 ?_
        refine lv_iload_n hx hb dX5_reading_57 rfl (lv_at hl 0 rfl) ?_
        refine lv_iconst (v := 1) hx hb dX5_reading_58 (by decide) ?_
        refine lv_isub hx hb dX5_reading_59 ?_
        refine lv_iload_n hx hb dX5_reading_60 rfl (lv_at hl 3 rfl) ?_
        refine lv_isub hx hb dX5_reading_61 ?_
        refine lv_bipush (v := 16) hx hb dX5_reading_62 (by decide) ?_
        refine lv_irem hx hb dX5_reading_64 (by decide) ?_
        refine lv_iadd hx hb dX5_reading_65 ?_
        refine mN_lald (f := M.2 8) G hgf (hP 9 _ rfl) (k := 16 * j + (cnt M j - 1 - x.toNatClampNeg) % 16) (nI_rd hc hj c_1 c_2) (by omega) (by decide) dX5_reading_66 ?_
        exact mM_lret (h := hX5_reading M j x) ((if_neg c_1).trans ((if_neg c_2).trans ((if_pos c_3).trans (rfl)))) hx hb hr hlocks hP hD hS dX5_reading_67
      · refine lv_aload_n hx hb dX5_reading_42 rfl (lv_at hl 1 rfl) ?_
        refine lv_iconst (v := 2) hx hb dX5_reading_43 (by decide) ?_
        refine kQ (C := RX5) (wr := []) (w1 := wM D r ma 2 M) G (cqX5_fail l D r ma 0 M 2) okX5_fail hgf hP hD hS hA [0, 1, 2, 3, 4, 5, 6, 7, 8, 9, 10, 11, 12, 13, 14] [] rfl rfl rfl rfl (by decide) (mw_recv hgf (hP 0 _ rfl) rfl) qw3_227 ⟨Nat.le_of_ble_eq_true rfl, Nat.le_of_ble_eq_true rfl⟩ ⟨Nat.zero_le _, Nat.zero_le _⟩ hl.1 (Nat.le_of_ble_eq_true rfl) rfl dX5_reading_44 (fun H locs hP hD hS => ?_)
        refine lv_i2l hx hb dX5_reading_47 rfl ?_
        exact mM_lret (h := hX5_reading M j x) ((if_neg c_1).trans ((if_neg c_2).trans ((if_neg c_3).trans (rfl)))) hx hb hr hlocks hP hD hS dX5_reading_48
set_option maxRecDepth 100000 in
set_option maxHeartbeats 4000000 in
theorem cqX5_tell_bad (l : Launch) (D : mG) (r : Nat) (ma : Nat → Nat) (t : Int32) (M : MSt) (i what : Int32) (hbad : fX5_isInst (M.1 14 0) i = 0) : cQ l D yX5_tell cX5_tell 3 (some .long) (rmP 1) (wM D r ma t M) [.ref r, .int i, .int what] (some (.long 0)) (wM D r ma 1 M) := by
  refine cQ_of (by decide) (Nat.le_of_ble_eq_true rfl) ?_
  intro p e s m below meth c ls A hx hb hr hlocks G hnm hgf hA hP hD hS hl
  have hl : lv_has ls 3 [(0, .ref r), (1, .int i), (2, .int what)] := hl
  refine lv_aload_n hx hb dX5_tell_0 rfl (lv_at hl 0 rfl) ?_
  refine lv_iconst (v := 0) hx hb dX5_tell_1 (by decide) ?_
  refine mw_put (w1 := wM D r ma 0 M) G hgf hP hD hS 0 rfl rfl inX5 tyX5_ok nmX5 0 (by decide) qw3_161 rfl rfl rfl rfl (Nat.le_of_ble_eq_true rfl) rfl dX5_tell_2 (fun H locs hP hD hS => ?_)
  refine lv_aload_n hx hb dX5_tell_5 rfl (lv_at hl 0 rfl) ?_
  refine lv_iload_n hx hb dX5_tell_6 rfl (lv_at hl 1 rfl) ?_
  refine kV (C := RX5) G (cvX5_isInstrument l D r ma 0 M i) okX5_isInstrument hgf hP (mw_recv hgf (hP 0 _ rfl) rfl) qw4_14 ⟨Nat.le_of_ble_eq_true rfl, Nat.le_of_ble_eq_true rfl⟩ ⟨Nat.zero_le _, Nat.zero_le _⟩ hl.1 (Nat.le_of_ble_eq_true rfl) rfl dX5_tell_7 ?_
  rw [show fX5_isInst (M.1 14 0) i = 0 from hbad]
  refine lv_if_ne (tgt := 20) hx hb dX5_tell_10 (by decide) (fun h => absurd (by decide) h) (fun _ => ?_)
  refine lv_aload_n hx hb dX5_tell_13 rfl (lv_at hl 0 rfl) ?_
  refine lv_iconst (v := 1) hx hb dX5_tell_14 (by decide) ?_
  refine kQ (C := RX5) (wr := []) (w1 := wM D r ma 1 M) G (cqX5_fail l D r ma 0 M 1) okX5_fail hgf hP hD hS hA [0, 1, 2, 3, 4, 5, 6, 7, 8, 9, 10, 11, 12, 13, 14] [] rfl rfl rfl rfl (by decide) (mw_recv hgf (hP 0 _ rfl) rfl) qw3_227 ⟨Nat.le_of_ble_eq_true rfl, Nat.le_of_ble_eq_true rfl⟩ ⟨Nat.zero_le _, Nat.zero_le _⟩ hl.1 (Nat.le_of_ble_eq_true rfl) rfl dX5_tell_15 (fun H locs hP hD hS => ?_)
  refine lv_i2l hx hb dX5_tell_18 rfl ?_
  exact mM_lret (h := (0, 1, M)) (rfl) hx hb hr hlocks hP hD hS dX5_tell_19
def hX5_tell (M : MSt) (j : Nat) (what : Int32) : Int64 × Int32 × MSt := if what < 0 then ((0 : Int32).toInt64, 2, M) else (if what ≤ 3 then (if (M.1 7 j) = 0 then ((0 : Int32).toInt64, 3, M) else (if what = 0 then (M.2 9 j, 0, M) else (if what = 1 then (M.2 10 j, 0, M) else (if what = 2 then (M.2 11 j, 0, M) else (M.2 12 j, 0, M))))) else ((0 : Int32).toInt64, 2, M))
set_option maxRecDepth 100000 in
set_option maxHeartbeats 4000000 in
theorem cqX5_tell (l : Launch) (D : mG) (r : Nat) (ma : Nat → Nat) (t : Int32) (M : MSt) {j : Nat} (hj : j < 8) (hin : fX5_isInst (M.1 14 0) (nI j) = 1) (what : Int32) : cQ l D yX5_tell cX5_tell 3 (some .long) (rmP 1) (wM D r ma t M) [.ref r, .int (nI j), .int what] (some (.long (hX5_tell M j what).1)) (wM D r ma (hX5_tell M j what).2.1 (hX5_tell M j what).2.2) := by
  refine cQ_of (by decide) (Nat.le_of_ble_eq_true rfl) ?_
  intro p e s m below meth c ls A hx hb hr hlocks G hnm hgf hA hP hD hS hl
  have hl : lv_has ls 3 [(0, .ref r), (1, .int (nI j)), (2, .int what)] := hl
  refine lv_aload_n hx hb dX5_tell_0 rfl (lv_at hl 0 rfl) ?_
  refine lv_iconst (v := 0) hx hb dX5_tell_1 (by decide) ?_
  refine mw_put (w1 := wM D r ma 0 M) G hgf hP hD hS 0 rfl rfl inX5 tyX5_ok nmX5 0 (by decide) qw3_161 rfl rfl rfl rfl (Nat.le_of_ble_eq_true rfl) rfl dX5_tell_2 (fun H locs hP hD hS => ?_)
  refine lv_aload_n hx hb dX5_tell_5 rfl (lv_at hl 0 rfl) ?_
  refine lv_iload_n hx hb dX5_tell_6 rfl (lv_at hl 1 rfl) ?_
  refine kV (C := RX5) G (cvX5_isInstrument l D r ma 0 M (nI j)) okX5_isInstrument hgf hP (mw_recv hgf (hP 0 _ rfl) rfl) qw4_14 ⟨Nat.le_of_ble_eq_true rfl, Nat.le_of_ble_eq_true rfl⟩ ⟨Nat.zero_le _, Nat.zero_le _⟩ hl.1 (Nat.le_of_ble_eq_true rfl) rfl dX5_tell_7 ?_
  rw [show fX5_isInst (M.1 14 0) (nI j) = 1 from hin]
  refine lv_if_ne (tgt := 20) hx hb dX5_tell_10 (by decide) (fun _ => ?_) (fun h => absurd h (by decide))
  refine lv_iload_n hx hb dX5_tell_20 rfl (lv_at hl 2 rfl) ?_
  refine lv_if_lt (tgt := 29) hx hb dX5_tell_21 (by decide) (fun c_1 => ?_) (fun c_1 => ?_)
  · refine lv_aload_n hx hb dX5_tell_29 rfl (lv_at hl 0 rfl) ?_
    refine lv_iconst (v := 2) hx hb dX5_tell_30 (by decide) ?_
    refine kQ (C := RX5) (wr := []) (w1 := wM D r ma 2 M) G (cqX5_fail l D r ma 0 M 2) okX5_fail hgf hP hD hS hA [0, 1, 2, 3, 4, 5, 6, 7, 8, 9, 10, 11, 12, 13, 14] [] rfl rfl rfl rfl (by decide) (mw_recv hgf (hP 0 _ rfl) rfl) qw3_227 ⟨Nat.le_of_ble_eq_true rfl, Nat.le_of_ble_eq_true rfl⟩ ⟨Nat.zero_le _, Nat.zero_le _⟩ hl.1 (Nat.le_of_ble_eq_true rfl) rfl dX5_tell_31 (fun H locs hP hD hS => ?_)
    refine lv_i2l hx hb dX5_tell_34 rfl ?_
    exact mM_lret (h := hX5_tell M j what) ((if_pos c_1).trans (rfl)) hx hb hr hlocks hP hD hS dX5_tell_35
  · refine lv_iload_n hx hb dX5_tell_24 rfl (lv_at hl 2 rfl) ?_
    refine lv_iconst (v := 3) hx hb dX5_tell_25 (by decide) ?_
    refine lv_icmp_le (tgt := 36) hx hb dX5_tell_26 (by decide) (fun c_2 => ?_) (fun c_2 => ?_)
    · refine lv_aload_n hx hb dX5_tell_36 rfl (lv_at hl 0 rfl) ?_
      refine mw_get G hgf (hP 0 _ rfl) rfl inX5 9 (by decide) qw3_170 rfl dX5_tell_37 ?_
      refine lv_iload_n hx hb dX5_tell_40 rfl (lv_at hl 1 rfl) ?_
      refine mN_iald (f := M.1 7) G hgf (hP 8 _ rfl) (k := j) (rfl) (hj) (by decide) dX5_tell_41 ?_
      refine lv_if_ne (tgt := 52) hx hb dX5_tell_42 (by decide) (fun c_3 => ?_) (fun c_3 => ?_)
      · refine lv_iload_n hx hb dX5_tell_52 rfl (lv_at hl 2 rfl) ?_
        refine lv_if_ne (tgt := 65) hx hb dX5_tell_53 (by decide) (fun c_4 => ?_) (fun c_4 => ?_)
        · refine lv_iload_n hx hb dX5_tell_65 rfl (lv_at hl 2 rfl) ?_
          refine lv_iconst (v := 1) hx hb dX5_tell_66 (by decide) ?_
          refine lv_icmp_ne (tgt := 79) hx hb dX5_tell_67 (by decide) (fun c_5 => ?_) (fun c_5 => ?_)
          · refine lv_iload_n hx hb dX5_tell_79 rfl (lv_at hl 2 rfl) ?_
            refine lv_iconst (v := 2) hx hb dX5_tell_80 (by decide) ?_
            refine lv_icmp_ne (tgt := 93) hx hb dX5_tell_81 (by decide) (fun c_6 => ?_) (fun c_6 => ?_)
            · refine lv_aload_n hx hb dX5_tell_93 rfl (lv_at hl 0 rfl) ?_
              refine mw_get G hgf (hP 0 _ rfl) rfl inX5 14 (by decide) qw3_175 rfl dX5_tell_94 ?_
              refine lv_iload_n hx hb dX5_tell_97 rfl (lv_at hl 1 rfl) ?_
              refine mN_lald (f := M.2 12) G hgf (hP 13 _ rfl) (k := j) (rfl) (hj) (by decide) dX5_tell_98 ?_
              exact mM_lret (h := hX5_tell M j what) ((if_neg c_1).trans ((if_pos c_2).trans ((if_neg c_3).trans ((if_neg c_4).trans ((if_neg c_5).trans ((if_neg c_6).trans (rfl))))))) hx hb hr hlocks hP hD hS dX5_tell_99
            · refine lv_aload_n hx hb dX5_tell_84 rfl (lv_at hl 0 rfl) ?_
              refine mw_get G hgf (hP 0 _ rfl) rfl inX5 13 (by decide) qw3_174 rfl dX5_tell_85 ?_
              refine lv_iload_n hx hb dX5_tell_88 rfl (lv_at hl 1 rfl) ?_
              refine mN_lald (f := M.2 11) G hgf (hP 12 _ rfl) (k := j) (rfl) (hj) (by decide) dX5_tell_89 ?_
              refine lv_goto (tgt := 99) hx hb dX5_tell_90 (by decide) ?_
              exact mM_lret (h := hX5_tell M j what) ((if_neg c_1).trans ((if_pos c_2).trans ((if_neg c_3).trans ((if_neg c_4).trans ((if_neg c_5).trans ((if_pos c_6).trans (rfl))))))) hx hb hr hlocks hP hD hS dX5_tell_99
          · refine lv_aload_n hx hb dX5_tell_70 rfl (lv_at hl 0 rfl) ?_
            refine mw_get G hgf (hP 0 _ rfl) rfl inX5 12 (by decide) qw3_173 rfl dX5_tell_71 ?_
            refine lv_iload_n hx hb dX5_tell_74 rfl (lv_at hl 1 rfl) ?_
            refine mN_lald (f := M.2 10) G hgf (hP 11 _ rfl) (k := j) (rfl) (hj) (by decide) dX5_tell_75 ?_
            refine lv_goto (tgt := 99) hx hb dX5_tell_76 (by decide) ?_
            exact mM_lret (h := hX5_tell M j what) ((if_neg c_1).trans ((if_pos c_2).trans ((if_neg c_3).trans ((if_neg c_4).trans ((if_pos c_5).trans (rfl)))))) hx hb hr hlocks hP hD hS dX5_tell_99
        · refine lv_aload_n hx hb dX5_tell_56 rfl (lv_at hl 0 rfl) ?_
          refine mw_get G hgf (hP 0 _ rfl) rfl inX5 11 (by decide) qw3_172 rfl dX5_tell_57 ?_
          refine lv_iload_n hx hb dX5_tell_60 rfl (lv_at hl 1 rfl) ?_
          refine mN_lald (f := M.2 9) G hgf (hP 10 _ rfl) (k := j) (rfl) (hj) (by decide) dX5_tell_61 ?_
          refine lv_goto (tgt := 99) hx hb dX5_tell_62 (by decide) ?_
          exact mM_lret (h := hX5_tell M j what) ((if_neg c_1).trans ((if_pos c_2).trans ((if_neg c_3).trans ((if_pos c_4).trans (rfl))))) hx hb hr hlocks hP hD hS dX5_tell_99
      · refine lv_aload_n hx hb dX5_tell_45 rfl (lv_at hl 0 rfl) ?_
        refine lv_iconst (v := 3) hx hb dX5_tell_46 (by decide) ?_
        refine kQ (C := RX5) (wr := []) (w1 := wM D r ma 3 M) G (cqX5_fail l D r ma 0 M 3) okX5_fail hgf hP hD hS hA [0, 1, 2, 3, 4, 5, 6, 7, 8, 9, 10, 11, 12, 13, 14] [] rfl rfl rfl rfl (by decide) (mw_recv hgf (hP 0 _ rfl) rfl) qw3_227 ⟨Nat.le_of_ble_eq_true rfl, Nat.le_of_ble_eq_true rfl⟩ ⟨Nat.zero_le _, Nat.zero_le _⟩ hl.1 (Nat.le_of_ble_eq_true rfl) rfl dX5_tell_47 (fun H locs hP hD hS => ?_)
        refine lv_i2l hx hb dX5_tell_50 rfl ?_
        exact mM_lret (h := hX5_tell M j what) ((if_neg c_1).trans ((if_pos c_2).trans ((if_pos c_3).trans (rfl)))) hx hb hr hlocks hP hD hS dX5_tell_51
    · refine lv_aload_n hx hb dX5_tell_29 rfl (lv_at hl 0 rfl) ?_
      refine lv_iconst (v := 2) hx hb dX5_tell_30 (by decide) ?_
      refine kQ (C := RX5) (wr := []) (w1 := wM D r ma 2 M) G (cqX5_fail l D r ma 0 M 2) okX5_fail hgf hP hD hS hA [0, 1, 2, 3, 4, 5, 6, 7, 8, 9, 10, 11, 12, 13, 14] [] rfl rfl rfl rfl (by decide) (mw_recv hgf (hP 0 _ rfl) rfl) qw3_227 ⟨Nat.le_of_ble_eq_true rfl, Nat.le_of_ble_eq_true rfl⟩ ⟨Nat.zero_le _, Nat.zero_le _⟩ hl.1 (Nat.le_of_ble_eq_true rfl) rfl dX5_tell_31 (fun H locs hP hD hS => ?_)
      refine lv_i2l hx hb dX5_tell_34 rfl ?_
      exact mM_lret (h := hX5_tell M j what) ((if_neg c_1).trans ((if_neg c_2).trans (rfl))) hx hb hr hlocks hP hD hS dX5_tell_35
set_option maxRecDepth 100000 in
set_option maxHeartbeats 4000000 in
theorem cqX5_alarms_bad (l : Launch) (D : mG) (r : Nat) (ma : Nat → Nat) (t : Int32) (M : MSt) (i : Int32) (hbad : fX5_isInst (M.1 14 0) i = 0) : cQ l D yX5_alarms cX5_alarms 2 (some .int) (rmP 1) (wM D r ma t M) [.ref r, .int i] (some (.int 0)) (wM D r ma 1 M) := by
  refine cQ_of (by decide) (Nat.le_of_ble_eq_true rfl) ?_
  intro p e s m below meth c ls A hx hb hr hlocks G hnm hgf hA hP hD hS hl
  have hl : lv_has ls 2 [(0, .ref r), (1, .int i)] := hl
  refine lv_aload_n hx hb dX5_alarms_0 rfl (lv_at hl 0 rfl) ?_
  refine lv_iconst (v := 0) hx hb dX5_alarms_1 (by decide) ?_
  refine mw_put (w1 := wM D r ma 0 M) G hgf hP hD hS 0 rfl rfl inX5 tyX5_ok nmX5 0 (by decide) qw3_161 rfl rfl rfl rfl (Nat.le_of_ble_eq_true rfl) rfl dX5_alarms_2 (fun H locs hP hD hS => ?_)
  refine lv_aload_n hx hb dX5_alarms_5 rfl (lv_at hl 0 rfl) ?_
  refine lv_iload_n hx hb dX5_alarms_6 rfl (lv_at hl 1 rfl) ?_
  refine kV (C := RX5) G (cvX5_isInstrument l D r ma 0 M i) okX5_isInstrument hgf hP (mw_recv hgf (hP 0 _ rfl) rfl) qw4_14 ⟨Nat.le_of_ble_eq_true rfl, Nat.le_of_ble_eq_true rfl⟩ ⟨Nat.zero_le _, Nat.zero_le _⟩ hl.1 (Nat.le_of_ble_eq_true rfl) rfl dX5_alarms_7 ?_
  rw [show fX5_isInst (M.1 14 0) i = 0 from hbad]
  refine lv_if_eq (tgt := 22) hx hb dX5_alarms_10 (by decide) (fun _ => ?_) (fun h => absurd (by decide) h)
  refine lv_aload_n hx hb dX5_alarms_22 rfl (lv_at hl 0 rfl) ?_
  refine lv_iconst (v := 1) hx hb dX5_alarms_23 (by decide) ?_
  refine kQ (C := RX5) (wr := []) (w1 := wM D r ma 1 M) G (cqX5_fail l D r ma 0 M 1) okX5_fail hgf hP hD hS hA [0, 1, 2, 3, 4, 5, 6, 7, 8, 9, 10, 11, 12, 13, 14] [] rfl rfl rfl rfl (by decide) (mw_recv hgf (hP 0 _ rfl) rfl) qw3_227 ⟨Nat.le_of_ble_eq_true rfl, Nat.le_of_ble_eq_true rfl⟩ ⟨Nat.zero_le _, Nat.zero_le _⟩ hl.1 (Nat.le_of_ble_eq_true rfl) rfl dX5_alarms_24 (fun H locs hP hD hS => ?_)
  exact mM_iret (h := (0, 1, M)) (rfl) hx hb hr hlocks hP hD hS dX5_alarms_27
def hX5_alarms (M : MSt) (j : Nat) : Int32 × Int32 × MSt := (M.1 13 j, 0, M)
set_option maxRecDepth 100000 in
set_option maxHeartbeats 4000000 in
theorem cqX5_alarms (l : Launch) (D : mG) (r : Nat) (ma : Nat → Nat) (t : Int32) (M : MSt) {j : Nat} (hj : j < 8) (hin : fX5_isInst (M.1 14 0) (nI j) = 1) : cQ l D yX5_alarms cX5_alarms 2 (some .int) (rmP 1) (wM D r ma t M) [.ref r, .int (nI j)] (some (.int (hX5_alarms M j).1)) (wM D r ma (hX5_alarms M j).2.1 (hX5_alarms M j).2.2) := by
  refine cQ_of (by decide) (Nat.le_of_ble_eq_true rfl) ?_
  intro p e s m below meth c ls A hx hb hr hlocks G hnm hgf hA hP hD hS hl
  have hl : lv_has ls 2 [(0, .ref r), (1, .int (nI j))] := hl
  refine lv_aload_n hx hb dX5_alarms_0 rfl (lv_at hl 0 rfl) ?_
  refine lv_iconst (v := 0) hx hb dX5_alarms_1 (by decide) ?_
  refine mw_put (w1 := wM D r ma 0 M) G hgf hP hD hS 0 rfl rfl inX5 tyX5_ok nmX5 0 (by decide) qw3_161 rfl rfl rfl rfl (Nat.le_of_ble_eq_true rfl) rfl dX5_alarms_2 (fun H locs hP hD hS => ?_)
  refine lv_aload_n hx hb dX5_alarms_5 rfl (lv_at hl 0 rfl) ?_
  refine lv_iload_n hx hb dX5_alarms_6 rfl (lv_at hl 1 rfl) ?_
  refine kV (C := RX5) G (cvX5_isInstrument l D r ma 0 M (nI j)) okX5_isInstrument hgf hP (mw_recv hgf (hP 0 _ rfl) rfl) qw4_14 ⟨Nat.le_of_ble_eq_true rfl, Nat.le_of_ble_eq_true rfl⟩ ⟨Nat.zero_le _, Nat.zero_le _⟩ hl.1 (Nat.le_of_ble_eq_true rfl) rfl dX5_alarms_7 ?_
  rw [show fX5_isInst (M.1 14 0) (nI j) = 1 from hin]
  refine lv_if_eq (tgt := 22) hx hb dX5_alarms_10 (by decide) (fun h => absurd h (by decide)) (fun _ => ?_)
  refine lv_aload_n hx hb dX5_alarms_13 rfl (lv_at hl 0 rfl) ?_
  refine mw_get G hgf (hP 0 _ rfl) rfl inX5 15 (by decide) qw3_176 rfl dX5_alarms_14 ?_
  refine lv_iload_n hx hb dX5_alarms_17 rfl (lv_at hl 1 rfl) ?_
  refine mN_iald (f := M.1 13) G hgf (hP 14 _ rfl) (k := j) (rfl) (hj) (by decide) dX5_alarms_18 ?_
  refine lv_goto (tgt := 27) hx hb dX5_alarms_19 (by decide) ?_
  exact mM_iret (h := hX5_alarms M j) (rfl) hx hb hr hlocks hP hD hS dX5_alarms_27
def hX5_count (M : MSt) (what : Int32) : Int32 × Int32 × MSt := if what = 0 then (M.1 14 0, 0, M) else (if what = 1 then (M.1 14 1, 0, M) else (if what = 2 then (M.1 14 2, 0, M) else (if what = 3 then (M.1 14 3, 0, M) else ((-1), 0, M))))
set_option maxRecDepth 100000 in
set_option maxHeartbeats 4000000 in
theorem cqX5_count (l : Launch) (D : mG) (r : Nat) (ma : Nat → Nat) (t : Int32) (M : MSt) (what : Int32) : cQ l D yX5_count cX5_count 2 (some .int) (rmP 0) (wM D r ma t M) [.ref r, .int what] (some (.int (hX5_count M what).1)) (wM D r ma (hX5_count M what).2.1 (hX5_count M what).2.2) := by
  refine cQ_of (by decide) (Nat.le_of_ble_eq_true rfl) ?_
  intro p e s m below meth c ls A hx hb hr hlocks G hnm hgf hA hP hD hS hl
  have hl : lv_has ls 2 [(0, .ref r), (1, .int what)] := hl
  refine lv_aload_n hx hb dX5_count_0 rfl (lv_at hl 0 rfl) ?_
  refine lv_iconst (v := 0) hx hb dX5_count_1 (by decide) ?_
  refine mw_put (w1 := wM D r ma 0 M) G hgf hP hD hS 0 rfl rfl inX5 tyX5_ok nmX5 0 (by decide) qw3_161 rfl rfl rfl rfl (Nat.le_of_ble_eq_true rfl) rfl dX5_count_2 (fun H locs hP hD hS => ?_)
  refine lv_iload_n hx hb dX5_count_5 rfl (lv_at hl 1 rfl) ?_
  by_cases c_1 : what = 0
  · refine lv_tableIn (off := 30) (tgt := 36) hx hb dX5_count_6 (by rw [c_1]; decide) (by rw [c_1]; decide) (by rw [c_1]; rfl) (by decide) ?_
    refine lv_aload_n hx hb dX5_count_36 rfl (lv_at hl 0 rfl) ?_
    refine mw_get G hgf (hP 0 _ rfl) rfl inX5 1 (by decide) qw3_162 rfl dX5_count_37 ?_
    exact mM_iret (h := hX5_count M what) ((if_pos c_1).trans (rfl)) hx hb hr hlocks hP hD hS dX5_count_40
  · by_cases c_2 : what = 1
    · refine lv_tableIn (off := 35) (tgt := 41) hx hb dX5_count_6 (by rw [c_2]; decide) (by rw [c_2]; decide) (by rw [c_2]; rfl) (by decide) ?_
      refine lv_aload_n hx hb dX5_count_41 rfl (lv_at hl 0 rfl) ?_
      refine mw_get G hgf (hP 0 _ rfl) rfl inX5 16 (by decide) qw3_177 rfl dX5_count_42 ?_
      exact mM_iret (h := hX5_count M what) ((if_neg c_1).trans ((if_pos c_2).trans (rfl))) hx hb hr hlocks hP hD hS dX5_count_45
    · by_cases c_3 : what = 2
      · refine lv_tableIn (off := 40) (tgt := 46) hx hb dX5_count_6 (by rw [c_3]; decide) (by rw [c_3]; decide) (by rw [c_3]; rfl) (by decide) ?_
        refine lv_aload_n hx hb dX5_count_46 rfl (lv_at hl 0 rfl) ?_
        refine mw_get G hgf (hP 0 _ rfl) rfl inX5 17 (by decide) qw3_178 rfl dX5_count_47 ?_
        exact mM_iret (h := hX5_count M what) ((if_neg c_1).trans ((if_neg c_2).trans ((if_pos c_3).trans (rfl)))) hx hb hr hlocks hP hD hS dX5_count_50
      · by_cases c_4 : what = 3
        · refine lv_tableIn (off := 45) (tgt := 51) hx hb dX5_count_6 (by rw [c_4]; decide) (by rw [c_4]; decide) (by rw [c_4]; rfl) (by decide) ?_
          refine lv_aload_n hx hb dX5_count_51 rfl (lv_at hl 0 rfl) ?_
          refine mw_get G hgf (hP 0 _ rfl) rfl inX5 18 (by decide) qw3_179 rfl dX5_count_52 ?_
          exact mM_iret (h := hX5_count M what) ((if_neg c_1).trans ((if_neg c_2).trans ((if_neg c_3).trans ((if_pos c_4).trans (rfl))))) hx hb hr hlocks hP hD hS dX5_count_55
        · refine lv_tableOut (tgt := 56) hx hb dX5_count_6 (by have qc_1 : what.toInt ≠ 0 := mw_ne c_1; have qc_2 : what.toInt ≠ 1 := mw_ne c_2; have qc_3 : what.toInt ≠ 2 := mw_ne c_3; have qc_4 : what.toInt ≠ 3 := mw_ne c_4; omega) (by decide) ?_
          refine lv_iconst (v := (-1)) hx hb dX5_count_56 (by decide) ?_
          exact mM_iret (h := hX5_count M what) ((if_neg c_1).trans ((if_neg c_2).trans ((if_neg c_3).trans ((if_neg c_4).trans (rfl))))) hx hb hr hlocks hP hD hS dX5_count_57
end
section
/-! THE REFERENCE: through, read, whole, widest, and its making -/
/-- the K of step x of all; what comes out behind c steps of instrument j -/
def kof (M : MSt) (x : Nat) : Int64 := if 0 ≤ M.1 3 x then lat M (M.1 3 x).toNatClampNeg else M.2 4 x
def thr (M : MSt) (j : Nat) : Nat → Int64 → Int64
  | 0, v => v
  | c + 1, v => fX5_changed (M.1 0 j) (M.1 2 (6 * j + c)) (thr M j c v) (kof M (6 * j + c))
theorem sI_sI (M : MSt) (a i : Nat) (v w : Int32) : sI (sI M a i v) a i w = sI M a i w := by
  unfold sI
  refine Prod.ext (funext fun b => funext fun k => ?_) rfl
  by_cases hb : b = a
  · subst hb
    by_cases hk : k = i
    · simp [va_up, upd, hk]
    · simp [va_up, upd, hk]
  · simp [va_up, hb]
theorem thr_done (M : MSt) (c : Nat) : sI (sI M 14 3 (M.1 14 3 + nI c)) 14 3 (M.1 14 3 + nI c + 1) = sI M 14 3 (M.1 14 3 + nI (c + 1)) := by
  rw [sI_sI, ← nI_1, Int32.add_assoc]
theorem sI_id (M : MSt) (a i : Nat) : sI M a i (M.1 a i) = M := by
  unfold sI
  refine Prod.ext (funext fun b => funext fun k => ?_) rfl
  by_cases hb : b = a
  · subst hb
    by_cases hk : k = i
    · simp [va_up, upd, hk]
    · simp [va_up, upd, hk]
  · simp [va_up, hb]
set_option maxRecDepth 100000 in
set_option maxHeartbeats 4000000 in
theorem lpX5_through {p : Program} {l : Launch} {e : Env} {s : State} {m : MethodId} {args : Array Value} {below : List Frame} {meth : Method} {c : Code} {D : mG} {r : Nat} {ma : Nat → Nat} {t : Int32} {M : MSt} {n j : Nat} {v : Int64} {A : Nat → Prop} (hx : p.tables.exec = Jvm.exec) (hb : c.code = cX5_through) (hr : meth.sig.returnType = some .long) (hlocks : meth.locks = false) (G : CallFix p m c cX5_through 9 s args aw RX5) (hgf : GF D s) (hA : ∀ q : Nat, s.heap.size ≤ q → A q) (hok : mok M n) (hjn : j < n) :
    ∀ (rem c9 : Nat), c9 + rem = chn M j → ∀ (ls : Array Slot) (H : Heap) (locs : List Loc), va_P D.1 vwCl (wM D r ma t (sI M 14 3 (M.1 14 3 + nI c9))) H → va_D A (wM D r ma t (sI M 14 3 (M.1 14 3 + nI c9))) → va_S A s.heap H locs → lv_has ls 9 [(6, .int (nI (6 * j + c9))), (4, .long (thr M j c9 v)), (0, .ref r), (1, .int (nI j)), (2, .long v)] → W p l e (rmP 5) s m args below meth c H locs 0 0 (MQ below (mQ D (some (.long (thr M j (chn M j) v))) (wM D r ma t (sI M 14 3 (M.1 14 3 + nI (chn M j)))) A) args s 0 0 A) (F0 m 9 ls []) := by
  have hj : j < 8 := by have q := hok.1; omega
  have hch := (hok.2.2.1 j hj).2
  have hc6 := (hok.2.2.1 j hj).1
  have h8 := hok.1
  intro rem
  induction rem with
  | zero =>
    intro c9 hcr ls H locs hP hD hS hl
    have hcc : c9 = chn M j := by omega
    have hge : (6 : Int32) * nI j + nI (chn M j) ≤ nI (6 * j + c9) := by rw [nI_6, hcc]; exact nI_le (Nat.le_refl _) (by omega)
    refine lv_iload hx hb dX5_through_9 (lv_at hl 0 rfl) ?_
    refine lv_bipush (v := 6) hx hb dX5_through_11 (by decide) ?_
    refine lv_iload_n hx hb dX5_through_13 rfl (lv_at hl 3 rfl) ?_
    refine lv_imul hx hb dX5_through_14 ?_
    refine lv_aload_n hx hb dX5_through_15 rfl (lv_at hl 2 rfl) ?_
    refine mw_get G hgf (hP 0 _ rfl) rfl inX5 3 (by decide) qw3_164 rfl dX5_through_16 ?_
    refine lv_iload_n hx hb dX5_through_19 rfl (lv_at hl 3 rfl) ?_
    refine mN_iald (f := M.1 1) G hgf (hP 2 _ rfl) (k := j) (rfl) (hj) (by decide) dX5_through_20 ?_
    rw [show M.1 1 j = nI (chn M j) from hch]
    refine lv_iadd hx hb dX5_through_21 ?_
    refine lv_icmp_ge (tgt := 96) hx hb dX5_through_22 (by decide) (fun _ => ?_) (fun h => absurd hge h)
    refine lv_lload hx hb dX5_through_96 (lv_at hl 1 rfl) ?_
    exact mM_lret (h := (thr M j (chn M j) v, t, sI M 14 3 (M.1 14 3 + nI (chn M j)))) (by rw [hcc]) hx hb hr hlocks hP hD hS dX5_through_98
  | succ rem ih =>
    intro c9 hcr ls H locs hP hD hS hl
    have hlt : ¬ (6 : Int32) * nI j + nI (chn M j) ≤ nI (6 * j + c9) := by rw [nI_6]; exact nI_ge (by omega) (by omega)
    rcases hok.2.2.2.2 j hjn c9 (by omega) with hs | ⟨kq, hkq, hs⟩
    · refine lv_iload hx hb dX5_through_9 (lv_at hl 0 rfl) ?_
      refine lv_bipush (v := 6) hx hb dX5_through_11 (by decide) ?_
      refine lv_iload_n hx hb dX5_through_13 rfl (lv_at hl 3 rfl) ?_
      refine lv_imul hx hb dX5_through_14 ?_
      refine lv_aload_n hx hb dX5_through_15 rfl (lv_at hl 2 rfl) ?_
      refine mw_get G hgf (hP 0 _ rfl) rfl inX5 3 (by decide) qw3_164 rfl dX5_through_16 ?_
      refine lv_iload_n hx hb dX5_through_19 rfl (lv_at hl 3 rfl) ?_
      refine mN_iald (f := M.1 1) G hgf (hP 2 _ rfl) (k := j) (rfl) (hj) (by decide) dX5_through_20 ?_
      rw [show M.1 1 j = nI (chn M j) from hch]
      refine lv_iadd hx hb dX5_through_21 ?_
      refine lv_icmp_ge (tgt := 96) hx hb dX5_through_22 (by decide) (fun h => absurd h hlt) (fun _ => ?_)
      refine lv_aload_n hx hb dX5_through_25 rfl (lv_at hl 2 rfl) ?_
      refine mw_get G hgf (hP 0 _ rfl) rfl inX5 5 (by decide) qw3_166 rfl dX5_through_26 ?_
      refine lv_iload hx hb dX5_through_29 (lv_at hl 0 rfl) ?_
      refine mN_iald (f := M.1 3) G hgf (hP 4 _ rfl) (k := 6 * j + c9) (rfl) (by omega) (by decide) dX5_through_31 ?_
      refine lv_if_ge (tgt := 45) hx hb dX5_through_32 (by decide) (fun h => absurd h (fun q => absurd hs (by rw [Int32.lt_iff_toInt_lt]; rw [Int32.le_iff_toInt_le] at q; omega))) (fun _ => ?_)
      refine lv_aload_n hx hb dX5_through_35 rfl (lv_at hl 2 rfl) ?_
      refine mw_get G hgf (hP 0 _ rfl) rfl inX5 6 (by decide) qw3_167 rfl dX5_through_36 ?_
      refine lv_iload hx hb dX5_through_39 (lv_at hl 0 rfl) ?_
      refine mN_lald (f := M.2 4) G hgf (hP 5 _ rfl) (k := 6 * j + c9) (rfl) (by omega) (by decide) dX5_through_41 ?_
      refine lv_goto (tgt := 56) hx hb dX5_through_42 (by decide) ?_
      refine lv_lstore (lv' := [(7, .long (M.2 4 (6 * j + c9))), (6, .int (nI (6 * j + c9))), (4, .long (thr M j c9 v)), (0, .ref r), (1, .int (nI j)), (2, .long v)]) hx hb dX5_through_56 hl (by decide) rfl (fun ls hl => ?_)
      refine lv_aload_n hx hb dX5_through_58 rfl (lv_at hl 3 rfl) ?_
      refine mw_get G hgf (hP 0 _ rfl) rfl inX5 2 (by decide) qw3_163 rfl dX5_through_59 ?_
      refine lv_iload_n hx hb dX5_through_62 rfl (lv_at hl 4 rfl) ?_
      refine mN_iald (f := M.1 0) G hgf (hP 1 _ rfl) (k := j) (rfl) (hj) (by decide) dX5_through_63 ?_
      refine lv_aload_n hx hb dX5_through_64 rfl (lv_at hl 3 rfl) ?_
      refine mw_get G hgf (hP 0 _ rfl) rfl inX5 4 (by decide) qw3_165 rfl dX5_through_65 ?_
      refine lv_iload hx hb dX5_through_68 (lv_at hl 1 rfl) ?_
      refine mN_iald (f := M.1 2) G hgf (hP 3 _ rfl) (k := 6 * j + c9) (rfl) (by omega) (by decide) dX5_through_70 ?_
      refine lv_lload hx hb dX5_through_71 (lv_at hl 2 rfl) ?_
      refine lv_lload hx hb dX5_through_73 (lv_at hl 0 rfl) ?_
      refine kS G (cvX5_changed l D (M.1 0 j) (M.1 2 (6 * j + c9)) (thr M j c9 v) (M.2 4 (6 * j + c9))) okX5_changed hgf trivial qw4_74 ⟨Nat.le_of_ble_eq_true rfl, Nat.le_of_ble_eq_true rfl⟩ ⟨Nat.zero_le _, Nat.zero_le _⟩ hl.1 (Nat.le_of_ble_eq_true rfl) rfl dX5_through_75 ?_
      refine lv_lstore (lv' := [(4, .long (fX5_changed (M.1 0 j) (M.1 2 (6 * j + c9)) (thr M j c9 v) (M.2 4 (6 * j + c9)))), (7, .long (M.2 4 (6 * j + c9))), (6, .int (nI (6 * j + c9))), (0, .ref r), (1, .int (nI j)), (2, .long v)]) hx hb dX5_through_78 hl (by decide) rfl (fun ls hl => ?_)
      refine lv_aload_n hx hb dX5_through_80 rfl (lv_at hl 3 rfl) ?_
      refine lv_dup hx hb dX5_through_81 rfl ?_
      refine mw_get G hgf (hP 0 _ rfl) rfl inX5 18 (by decide) qw3_179 rfl dX5_through_82 ?_
      refine lv_iconst (v := 1) hx hb dX5_through_85 (by decide) ?_
      refine lv_iadd hx hb dX5_through_86 ?_
      refine mw_put (w1 := wM D r ma t (sI (sI M 14 3 (M.1 14 3 + nI c9)) 14 3 ((M.1 14 3 + nI c9) + 1))) G hgf hP hD hS 0 rfl rfl inX5 tyX5_ok nmX5 18 (by decide) qw3_179 rfl rfl rfl rfl (Nat.le_of_ble_eq_true rfl) rfl dX5_through_87 (fun H locs hP hD hS => ?_)
      refine lv_iinc (v := (nI (6 * j + c9)) + 1) (lv' := [(6, .int ((nI (6 * j + c9)) + 1)), (4, .long (fX5_changed (M.1 0 j) (M.1 2 (6 * j + c9)) (thr M j c9 v) (M.2 4 (6 * j + c9)))), (7, .long (M.2 4 (6 * j + c9))), (0, .ref r), (1, .int (nI j)), (2, .long v)]) hx hb dX5_through_90 hl (k := 2) rfl rfl (by decide) rfl (fun ls hl => ?_)
      refine lv_goto (tgt := 9) hx hb dX5_through_93 (by decide) ?_
      rw [thr_done] at hP hD
      have hv9 : thr M j (c9 + 1) v = fX5_changed (M.1 0 j) (M.1 2 (6 * j + c9)) (thr M j c9 v) (M.2 4 (6 * j + c9)) := by rw [show M.2 4 (6 * j + c9) = kof M (6 * j + c9) from (if_neg (fun q => absurd hs (by rw [Int32.lt_iff_toInt_lt]; rw [Int32.le_iff_toInt_le] at q; omega))).symm]; rfl
      have hl := lv_sub (l' := [(6, .int (nI (6 * j + c9) + 1)), (4, .long (fX5_changed (M.1 0 j) (M.1 2 (6 * j + c9)) (thr M j c9 v) (M.2 4 (6 * j + c9)))), (0, .ref r), (1, .int (nI j)), (2, .long v)]) hl [0, 1, 3, 4, 5] rfl
      rw [← hv9, nI_1, show 6 * j + c9 + 1 = 6 * j + (c9 + 1) by omega] at hl
      exact ih (c9 + 1) (by omega) _ _ _ hP hD hS hl
    · refine lv_iload hx hb dX5_through_9 (lv_at hl 0 rfl) ?_
      refine lv_bipush (v := 6) hx hb dX5_through_11 (by decide) ?_
      refine lv_iload_n hx hb dX5_through_13 rfl (lv_at hl 3 rfl) ?_
      refine lv_imul hx hb dX5_through_14 ?_
      refine lv_aload_n hx hb dX5_through_15 rfl (lv_at hl 2 rfl) ?_
      refine mw_get G hgf (hP 0 _ rfl) rfl inX5 3 (by decide) qw3_164 rfl dX5_through_16 ?_
      refine lv_iload_n hx hb dX5_through_19 rfl (lv_at hl 3 rfl) ?_
      refine mN_iald (f := M.1 1) G hgf (hP 2 _ rfl) (k := j) (rfl) (hj) (by decide) dX5_through_20 ?_
      rw [show M.1 1 j = nI (chn M j) from hch]
      refine lv_iadd hx hb dX5_through_21 ?_
      refine lv_icmp_ge (tgt := 96) hx hb dX5_through_22 (by decide) (fun h => absurd h hlt) (fun _ => ?_)
      refine lv_aload_n hx hb dX5_through_25 rfl (lv_at hl 2 rfl) ?_
      refine mw_get G hgf (hP 0 _ rfl) rfl inX5 5 (by decide) qw3_166 rfl dX5_through_26 ?_
      refine lv_iload hx hb dX5_through_29 (lv_at hl 0 rfl) ?_
      refine mN_iald (f := M.1 3) G hgf (hP 4 _ rfl) (k := 6 * j + c9) (rfl) (by omega) (by decide) dX5_through_31 ?_
      rw [show M.1 3 (6 * j + c9) = nI kq from hs]
      refine lv_if_ge (tgt := 45) hx hb dX5_through_32 (by decide) (fun _ => ?_) (fun h => absurd (nI_pos' (by omega)) h)
      refine lv_aload_n hx hb dX5_through_45 rfl (lv_at hl 2 rfl) ?_
      refine lv_aload_n hx hb dX5_through_46 rfl (lv_at hl 2 rfl) ?_
      refine mw_get G hgf (hP 0 _ rfl) rfl inX5 5 (by decide) qw3_166 rfl dX5_through_47 ?_
      refine lv_iload hx hb dX5_through_50 (lv_at hl 0 rfl) ?_
      refine mN_iald (f := M.1 3) G hgf (hP 4 _ rfl) (k := 6 * j + c9) (rfl) (by omega) (by decide) dX5_through_52 ?_
      rw [show M.1 3 (6 * j + c9) = nI kq from hs]
      refine kV (C := RX5) G (cvX5_latest l D r ma t (sI M 14 3 (M.1 14 3 + nI c9)) (j := kq) (by omega) (hok.2.2.2.1 kq (by omega)).1 (hok.2.2.2.1 kq (by omega)).2) okX5_latest hgf hP (mw_recv hgf (hP 0 _ rfl) rfl) qw4_70 ⟨Nat.le_of_ble_eq_true rfl, Nat.le_of_ble_eq_true rfl⟩ ⟨Nat.zero_le _, Nat.zero_le _⟩ hl.1 (Nat.le_of_ble_eq_true rfl) rfl dX5_through_53 ?_
      refine lv_lstore (lv' := [(7, .long (lat M kq)), (6, .int (nI (6 * j + c9))), (4, .long (thr M j c9 v)), (0, .ref r), (1, .int (nI j)), (2, .long v)]) hx hb dX5_through_56 hl (by decide) rfl (fun ls hl => ?_)
      refine lv_aload_n hx hb dX5_through_58 rfl (lv_at hl 3 rfl) ?_
      refine mw_get G hgf (hP 0 _ rfl) rfl inX5 2 (by decide) qw3_163 rfl dX5_through_59 ?_
      refine lv_iload_n hx hb dX5_through_62 rfl (lv_at hl 4 rfl) ?_
      refine mN_iald (f := M.1 0) G hgf (hP 1 _ rfl) (k := j) (rfl) (hj) (by decide) dX5_through_63 ?_
      refine lv_aload_n hx hb dX5_through_64 rfl (lv_at hl 3 rfl) ?_
      refine mw_get G hgf (hP 0 _ rfl) rfl inX5 4 (by decide) qw3_165 rfl dX5_through_65 ?_
      refine lv_iload hx hb dX5_through_68 (lv_at hl 1 rfl) ?_
      refine mN_iald (f := M.1 2) G hgf (hP 3 _ rfl) (k := 6 * j + c9) (rfl) (by omega) (by decide) dX5_through_70 ?_
      refine lv_lload hx hb dX5_through_71 (lv_at hl 2 rfl) ?_
      refine lv_lload hx hb dX5_through_73 (lv_at hl 0 rfl) ?_
      refine kS G (cvX5_changed l D (M.1 0 j) (M.1 2 (6 * j + c9)) (thr M j c9 v) (lat M kq)) okX5_changed hgf trivial qw4_74 ⟨Nat.le_of_ble_eq_true rfl, Nat.le_of_ble_eq_true rfl⟩ ⟨Nat.zero_le _, Nat.zero_le _⟩ hl.1 (Nat.le_of_ble_eq_true rfl) rfl dX5_through_75 ?_
      refine lv_lstore (lv' := [(4, .long (fX5_changed (M.1 0 j) (M.1 2 (6 * j + c9)) (thr M j c9 v) (lat M kq))), (7, .long (lat M kq)), (6, .int (nI (6 * j + c9))), (0, .ref r), (1, .int (nI j)), (2, .long v)]) hx hb dX5_through_78 hl (by decide) rfl (fun ls hl => ?_)
      refine lv_aload_n hx hb dX5_through_80 rfl (lv_at hl 3 rfl) ?_
      refine lv_dup hx hb dX5_through_81 rfl ?_
      refine mw_get G hgf (hP 0 _ rfl) rfl inX5 18 (by decide) qw3_179 rfl dX5_through_82 ?_
      refine lv_iconst (v := 1) hx hb dX5_through_85 (by decide) ?_
      refine lv_iadd hx hb dX5_through_86 ?_
      refine mw_put (w1 := wM D r ma t (sI (sI M 14 3 (M.1 14 3 + nI c9)) 14 3 ((M.1 14 3 + nI c9) + 1))) G hgf hP hD hS 0 rfl rfl inX5 tyX5_ok nmX5 18 (by decide) qw3_179 rfl rfl rfl rfl (Nat.le_of_ble_eq_true rfl) rfl dX5_through_87 (fun H locs hP hD hS => ?_)
      refine lv_iinc (v := (nI (6 * j + c9)) + 1) (lv' := [(6, .int ((nI (6 * j + c9)) + 1)), (4, .long (fX5_changed (M.1 0 j) (M.1 2 (6 * j + c9)) (thr M j c9 v) (lat M kq))), (7, .long (lat M kq)), (0, .ref r), (1, .int (nI j)), (2, .long v)]) hx hb dX5_through_90 hl (k := 2) rfl rfl (by decide) rfl (fun ls hl => ?_)
      refine lv_goto (tgt := 9) hx hb dX5_through_93 (by decide) ?_
      rw [thr_done] at hP hD
      have hv9 : thr M j (c9 + 1) v = fX5_changed (M.1 0 j) (M.1 2 (6 * j + c9)) (thr M j c9 v) (lat M kq) := by rw [show lat M kq = kof M (6 * j + c9) from ((if_pos (by rw [hs]; exact nI_pos' (by omega))).trans (by rw [hs, nI_clamp (by omega)])).symm]; rfl
      have hl := lv_sub (l' := [(6, .int (nI (6 * j + c9) + 1)), (4, .long (fX5_changed (M.1 0 j) (M.1 2 (6 * j + c9)) (thr M j c9 v) (lat M kq))), (0, .ref r), (1, .int (nI j)), (2, .long v)]) hl [0, 1, 3, 4, 5] rfl
      rw [← hv9, nI_1, show 6 * j + c9 + 1 = 6 * j + (c9 + 1) by omega] at hl
      exact ih (c9 + 1) (by omega) _ _ _ hP hD hS hl
set_option maxRecDepth 100000 in
set_option maxHeartbeats 4000000 in
theorem cqX5_through (l : Launch) (D : mG) (r : Nat) (ma : Nat → Nat) (t : Int32) (M : MSt) {n j : Nat} (hok : mok M n) (hjn : j < n) (v : Int64) : cQ l D yX5_through cX5_through 9 (some .long) (rmP 5) (wM D r ma t M) [.ref r, .int (nI j), .long v] (some (.long (thr M j (chn M j) v))) (wM D r ma t (sI M 14 3 (M.1 14 3 + nI (chn M j)))) := by
  refine cQ_of (by decide) (Nat.le_of_ble_eq_true rfl) ?_
  intro p e s m below meth c ls A hx hb hr hlocks G hnm hgf hA hP hD hS hl
  have hl : lv_has ls 9 [(0, .ref r), (1, .int (nI j)), (2, .long v)] := hl
  refine lv_lload_n hx hb dX5_through_0 rfl (lv_at hl 2 rfl) ?_
  refine lv_lstore (lv' := [(4, .long v), (0, .ref r), (1, .int (nI j)), (2, .long v)]) hx hb dX5_through_1 hl (by decide) rfl (fun ls hl => ?_)
  refine lv_bipush (v := 6) hx hb dX5_through_3 (by decide) ?_
  refine lv_iload_n hx hb dX5_through_5 rfl (lv_at hl 2 rfl) ?_
  refine lv_imul hx hb dX5_through_6 ?_
  refine lv_istore (lv' := [(6, .int (6 * (nI j))), (4, .long v), (0, .ref r), (1, .int (nI j)), (2, .long v)]) hx hb dX5_through_7 hl (by decide) rfl (fun ls hl => ?_)
  have hl := lv_sub (l' := [(6, .int (6 * nI j)), (4, .long v), (0, .ref r), (1, .int (nI j)), (2, .long v)]) hl [0, 1, 2, 3, 4] rfl
  rw [show (6 : Int32) * nI j = nI (6 * j + 0) by rw [show (6 : Int32) = nI 6 from rfl, pk_mul]; rfl] at hl
  have h0 : sI M 14 3 (M.1 14 3 + nI 0) = M := by rw [nI_0, Int32.add_zero]; exact sI_id M 14 3
  exact lpX5_through hx hb hr hlocks G hgf hA hok hjn (chn M j) 0 (by omega) ls _ _ (by rw [h0]; exact hP) (by rw [h0]; exact hD) hS hl
end
