/-! THROWS -/
def ZF (U : State) : Prop := vx_Zq Bundle.tN "UNASSIGNED_STACK" Bundle.steD (fun _ => False) U U.heap ∧ vx_Zq Bundle.tN "SUPPRESSED_SENTINEL" Bundle.listD (fun _ => False) U U.heap
theorem ZF.moved {U V : State} (h : ZF U) (hvm : U.vm.Alike V.vm) (hq : ∀ a : Nat, a < U.heap.size → V.heap[a]? = U.heap[a]?) : ZF V :=
  ⟨vx_Zq.moved hvm (h.1.kept fun a h1 _ => hq a h1), vx_Zq.moved hvm (h.2.kept fun a h1 _ => hq a h1)⟩
abbrev exN : List String := ["java/lang/RuntimeException", "java/lang/Exception"]
def exB (X : String) : List Cond := gfD.map Cond.declares ++ [Cond.castable X X]
theorem exB_ok {D : mG} {s : State} {X : String} (g : GF D s) (hX : (X, X) ∈ gfC) (args : Array Value) : ∀ w ∈ exB X, w.before args s = true := by
  intro w hw
  rcases List.mem_append.mp hw with h | h
  · obtain ⟨x, h1, rfl⟩ := List.mem_map.mp h
    exact va_Nw.use rfl (g.2.2.1 x h1)
  · rw [List.mem_singleton.mp h]
    exact va_Nw.use rfl (g.2.2.2.1 (X, X) hX)
/-- a class whose constructor hands the text to Y's by the link i2 -/
def nsA (own : String) (ic : Nat) (X Y : String) (i2 : Nat) (b2 : ByteArray) (names : List String) : List Cond :=
  Bundle.throwableAtoms ++ Bundle.throwableSAtoms ++ (Bundle.passSAtoms X Y i2 b2 ++ Bundle.chainSAtoms Y names) ++
  [.methodLink own ic (Bundle.initS X), .instantiable X 6, .castable X X, .selects X Bundle.tFill0 Bundle.tFill0, .selects X Bundle.tFill Bundle.tFill,
   .lays X Bundle.tN "cause" "Ljava/lang/Throwable;", .lays X Bundle.tN "stackTrace" Bundle.steD, .lays X Bundle.tN "suppressedExceptions" Bundle.listD, .lays X Bundle.tN "detailMessage" "Ljava/lang/String;",
   .isRef (.static Bundle.tN "UNASSIGNED_STACK" Bundle.steD), .isRef (.static Bundle.tN "SUPPRESSED_SENTINEL" Bundle.listD),
   .fieldLink Bundle.tN 198 Bundle.tN "backtrace" "Ljava/lang/Object;", .lays Bundle.tN Bundle.tN "backtrace" "Ljava/lang/Object;", .lays X Bundle.tN "backtrace" "Ljava/lang/Object;"]
def nsAt (own : String) (ic : Nat) (X Y : String) (i2 : Nat) (b2 : ByteArray) (names : List String) : List Cond := (nsA own ic X Y i2 b2 names).filter vx_no
set_option maxHeartbeats 1000000 in
/-- the constructor and the throw, for such a class -/
theorem mw_ctorT {p : Program} {l : Launch} {e : Env} {R : Room} {s : State} {m₀ : MethodId} {args : Array Value} {below : List Frame} {meth : Method} {c : Code} {W : State} {cells slots : Nat} (X : Stand p l e R s m₀ args below meth c W [] cells slots) (hexec : p.tables.exec = Jvm.exec) (htr : e.platform.stackTraces = false) {own cls sup : String} {names : List String} {ic i2 : Nat} {b2 : ByteArray}
    (hown : s.vm.findClass own = some m₀.cls) (hcls : Bundle.fit cls = true) (hsup : Bundle.fit sup = true) (hnames : ∀ n ∈ names, Bundle.fit n = true) (b0 : decode b2 0 = .ok (.aload_n 0, 1)) (b1 : decode b2 1 = .ok (.aload_n 1, 1)) (b2' : decode b2 2 = .ok (.invokespecial i2, 3)) (b5 : decode b2 5 = .ok (.return_, 1))
    (h : ∀ a ∈ nsA own ic cls sup i2 b2 names, a.before args s = true) {a : Addr} {cX : ClassId} {kX : Class} (hfoundX : s.vm.findClass cls = some cX) (hkX : s.vm.classes[cX]? = some kX) (hcell : W.heap[a]? = some (freshCell cX kX)) (hnew : s.heap.size ≤ a)
    {msg : Value} (hmsg : msg.isRef = true) {g : JFrame} (hg : g.method = m₀) (hsize : g.locals.size = c.maxLocals) (hlocked : g.locked = none) (hentered : g.entered = []) {rest : List Value} (hstack : g.stack = msg :: .ref a :: .ref a :: rest)
    (hd6 : decode c.code g.pc = .ok (.invokespecial ic, 3)) (hd9 : decode c.code (g.pc + 3) = .ok (.athrow, 1)) (hout : ∀ x ∈ c.exceptionTable.toList, covers x (g.pc + 3) = false)
    (hRframes : names.length + 4 < R.frames) (hRlocals : 2 * g.monitorRoom + ((Value.ref a :: rest).map fun v => v.category).sum + (13 * (names.length + 2) + 42) ≤ R.locals) (hlocks : meth.locks = false) :
    ∃ U : State, Steps p.tables e below (W.setTop g) U ∧ U.status = .running ∧ Ended U below (.threw a) ∧ s.WarmedH U.vm ∧ s.sameButNew ({ U with vm := s.vm } : State) [] cells slots ∧ ∃ ce : Cell, U.heap[a]? = some ce ∧ ce.vm = .none ∧ s.vm.findClass cls = some ce.cls := by
  have hpl : e.platform.magicAccessors = ({} : Platform).magicAccessors := by rw [X.admits.platform]
  have a' : ∀ x, x ∈ nsA own ic cls sup i2 b2 names → x.holds args s none s [] = true := fun x hx => h x hx
  obtain ⟨T, Z0, L, -, Y⟩ := ThrowableC.of_atoms (args := args) (by rw [X.admits.platform]) (by rw [X.admits.platform]) hpl (fun x hx => h x (by simp [nsA, hx]))
  obtain ⟨Z, M, LZ, LM, hnZ⟩ := Init0T.ofS_atoms (args := args) hpl L Y (fun x hx => h x (by simp [nsA, hx]))
  obtain ⟨P2, Ps2, hlen2, L2, hL2, hP2m, hlink2, hpass2⟩ := Bundle.chainS (args := args) hpl hnZ names sup hsup hnames (fun x hx => h x (by simp [nsA, hx]))
  obtain ⟨P1, L1, hP1m, hP1s⟩ := PassC.ofS_atoms (args := args) (s := s) hpl (X := cls) (Y := sup) (Bundle.fit_spec hcls).1 (Bundle.fit_spec hsup).2 b0 b1 b2' b5 (fun x hx => h x (by simp [nsA, hx]))
  have e12 : P1.sup = P2.m := Option.some.inj (hP1s.symm.trans hP2m)
  have hfound : s.vm.findClass cls = some P1.m.cls := findClass_of_methodNamed hP1m
  cases Option.some.inj (hfoundX.symm.trans hfound)
  obtain ⟨c1, kX', hc1, hk, hord, -, -, -⟩ := Cond.instantiable_spec (a' (.instantiable cls 6) (by simp [nsA]))
  cases Option.some.inj (hc1.symm.trans hfound)
  cases Option.some.inj (hkX.symm.trans hk)
  have hsel : ∀ {y : MethodName} {f : MethodId}, s.methodNamed? y = some f → (y.cls ≠ "java/lang/invoke/MethodHandle" ∧ y.cls ≠ "java/lang/invoke/VarHandle") → Cond.selects cls y y ∈ nsA own ic cls sup i2 b2 names → y.cls = Bundle.tN → selectMethod e.platform s.vm P1.m.cls f = .method f := by
    intro y f hf hy hin _
    obtain ⟨c2, r2, m2, q1, q2, q3, q4, -⟩ := Cond.selects_spec (a' _ hin)
    cases Option.some.inj (q1.symm.trans hfound)
    cases Option.some.inj (q2.symm.trans (State.methodFound?_of_named hf hy))
    cases Option.some.inj (q3.symm.trans hf)
    rw [Launch.admits_selectMethod X.admits]; exact q4
  obtain ⟨cellS0, hcS0, hiss⟩ := Y.statics
  obtain ⟨u0, hu0⟩ := Cond.staticRefV Y.unassigned L.unassignedStatic L.statics hcS0 hiss (a' (.isRef (.static Bundle.tN "UNASSIGNED_STACK" Bundle.steD)) (by simp [nsA]))
  obtain ⟨sen, hsen⟩ := Cond.staticRefV Y.sentinel L.sentinelStatic L.statics hcS0 hiss (a' (.isRef (.static Bundle.tN "SUPPRESSED_SENTINEL" Bundle.listD)) (by simp [nsA]))
  obtain ⟨ci198, i198, fB, hk198, hg198, ha198, hsB, -, hnB, htB, hffB⟩ := Cond.ownField (t := .object "java/lang/Object") Y.found L.cls (by decide +kernel) (a' (.fieldLink Bundle.tN 198 Bundle.tN "backtrace" "Ljava/lang/Object;") (by simp [nsA])) (a' (.lays Bundle.tN Bundle.tN "backtrace" "Ljava/lang/Object;") (by simp [nsA])) e.platform hpl
  obtain ⟨cellS, hcS', heS, -, hkeep⟩ := X.same.2.2.2.2.2 T.aS cellS0 hcS0
  have hcellS : W.heap[T.aS]? = some cellS := hcS'
  have hknownS : cellS.vm ≠ .unknown := by
    rw [heS]; intro hu
    rw [show cellS0.vm = .unknown from hu] at hiss
    cases hiss
  have hneS : T.aS ≠ a := Nat.ne_of_lt (Nat.lt_of_lt_of_le (Array.getElem?_eq_some_iff.mp hcS0).1 hnew)
  obtain ⟨iM, hffM⟩ := Y.msg
  obtain ⟨tyC, dC, hdC, hdnC⟩ := Cond.laysAt hfound hk Y.cause (a' (.lays cls Bundle.tN "cause" "Ljava/lang/Throwable;") (by simp [nsA]))
  obtain ⟨tyS, dS, hdS, hdnS⟩ := Cond.laysAt hfound hk Y.stack (a' (.lays cls Bundle.tN "stackTrace" Bundle.steD) (by simp [nsA]))
  obtain ⟨tyP, dP, hdP, hdnP⟩ := Cond.laysAt hfound hk Y.supp (a' (.lays cls Bundle.tN "suppressedExceptions" Bundle.listD) (by simp [nsA]))
  obtain ⟨tyM, dM, hdM, hdnM⟩ := Cond.laysAt hfound hk hffM (a' (.lays cls Bundle.tN "detailMessage" "Ljava/lang/String;") (by simp [nsA]))
  obtain ⟨tyB, dB, hdB, hdnB⟩ := Cond.laysAt hfound hk hffB (a' (.lays cls Bundle.tN "backtrace" "Ljava/lang/Object;") (by simp [nsA]))
  have bC := Cond.laysApart hdB hdC hdnB hdnC (by rw [hnB, Y.causeName]; decide)
  have bS := Cond.laysApart hdB hdS hdnB hdnS (by rw [hnB, Y.stackName]; decide)
  have bP := Cond.laysApart hdB hdP hdnB hdnP (by rw [hnB, Y.suppName]; decide)
  have hskip : SkipFacts T e.platform s (fun u => u) u0 ((preparedCellV T.toThrowableT (freshCell P1.m.cls kX) a u0 sen).withEntry W.cur) :=
    ⟨{ ci198 := ci198, i198 := i198, fBack := fB }, ⟨hk198, hg198, ha198, hsB⟩, by
      have := fresh_default (c := P1.m.cls) tyB
      rw [htB] at this
      simpa [preparedCellV, Cell.setSlot, Cell.withEntry, Array.getElem?_setIfInBounds, bC, bS, bP, bC.symm, bS.symm, bP.symm, defaultValue] using this, fun _ _ => rfl⟩
  obtain ⟨tm, methC, cdC, kC, vm₁, hnC, -, -, -, -, -, -, -, hW₁, st1⟩ := Steps.initColdS (tb := p.tables) (e := e) (below := below) (s := s) (U := W) X.here hexec X.warmed hpl hown (t := Bundle.initS cls) rfl rfl (Bundle.fit_spec hcls).2
    (a' (.methodLink own ic (Bundle.initS cls)) (by simp [nsA])) (h (.instanceMethod (Bundle.initS cls)) (by simp [nsA, Bundle.passSAtoms])) (bytes := b2) (maxL := 2) (h (.code (Bundle.initS cls) b2 2 none) (by simp [nsA, Bundle.passSAtoms]))
    (f := g) hg (a := a) (msg := msg) (rest := .ref a :: rest) hstack hd6
  cases Option.some.inj (hnC.symm.trans hP1m)
  have X₁ := X.noted hW₁
  obtain ⟨vm₂, X₂, st2⟩ := X₁.ctorMessageOffV hexec (g := { g with stack := .ref a :: rest }) hg hsize T L Z LZ M LM (P1 :: P2 :: Ps2)
    (fun P hP => by rcases List.mem_cons.mp hP with rfl | hP; exact L1; rcases List.mem_cons.mp hP with rfl | hP; exact L2; exact hL2 P hP) ⟨e12, hlink2, hpass2⟩ (u0 := u0) (sen := sen) (self := a) hmsg (cell := freshCell P1.m.cls kX) (cellS := cellS)
    hcell (fun _ => by simp) (by simp) rfl rfl (hsel Y.fill0 (by decide) (by simp [nsA]) rfl) (hsel Y.fill (by decide) (by simp [nsA]) rfl) hcellS hneS hknownS (by rw [hkeep _ (fun q => nomatch q)]; exact hu0) (by rw [hkeep _ (fun q => nomatch q)]; exact hsen)
    (Takes.of_laid hk hord tyC (by rw [Y.causeType]; rfl)) (Takes.of_laid hk hord tyS (by rw [Y.stackType]; exact fits_refV_array _ u0)) (Takes.of_laid hk hord tyP (by rw [Y.suppType]; exact fits_refV_object _ sen))
    (Takes.of_laid hk hord tyM (by rw [Y.msgType]; exact fits_refV_object _ ⟨msg, hmsg⟩)) Y.objLocals hskip htr [] hd6
    (by simp only [List.length_cons, hlen2]; omega) (by simp only [List.length_cons, hlen2]; exact hRlocals)
  obtain ⟨hwalk, hrun, hended, hWU, hsame⟩ := X₂.athrowLeaves hexec (g := { g with stack := .ref a :: rest, pc := g.pc + 3 }) hg hlocked hentered hout (a := a) (rest := rest) rfl hd9
  have hlt : a < ((W.setVm vm₁).setVm vm₂).heap.size := (Array.getElem?_eq_some_iff.mp hcell).1
  have hU := heapAt_setCell_self (s := (W.setVm vm₁).setVm vm₂) (plainBareV T.toThrowableT (freshCell P1.m.cls kX) a u0 sen msg) hlt
  refine ⟨_, st1 _ (fun acts => ?_), hrun, hended, hWU, hsame.weaken (fun y hy hlt' => ?_) (Nat.le_refl _) (Nat.le_refl _), _, hU, rfl, hfound⟩
  · rw [doInvoke_state]
    exact st2 _ hwalk
  · exfalso
    have hb : y.base = a := by
      simp only [List.nil_append, List.mem_cons, List.not_mem_nil, or_false] at hy
      rcases hy with rfl | rfl | rfl | rfl | rfl <;> rfl
    rw [hb] at hlt'
    exact Nat.not_lt.mpr hnew hlt'
theorem ex1_IllegalArgumentException : ∀ w ∈ (vx_atS RX4 23 "java/lang/IllegalArgumentException" exN).filter goodWord, w ∈ lw_tbl := by decide +kernel
theorem ex2_IllegalArgumentException : ∀ w ∈ (vx_atS RX4 23 "java/lang/IllegalArgumentException" exN).filter (fun w => !goodWord w), w ∈ exB "java/lang/IllegalArgumentException" := by decide +kernel
theorem ex3_IllegalArgumentException : ∀ w ∈ vx_atS RX4 23 "java/lang/IllegalArgumentException" exN, vx_ot w = true := by decide +kernel
theorem ex1_IllegalStateException : ∀ w ∈ (vx_atS RX4 78 "java/lang/IllegalStateException" exN).filter goodWord, w ∈ lw_tbl := by decide +kernel
theorem ex2_IllegalStateException : ∀ w ∈ (vx_atS RX4 78 "java/lang/IllegalStateException" exN).filter (fun w => !goodWord w), w ∈ exB "java/lang/IllegalStateException" := by decide +kernel
theorem ex3_IllegalStateException : ∀ w ∈ vx_atS RX4 78 "java/lang/IllegalStateException" exN, vx_ot w = true := by decide +kernel
theorem ex1_IndexOutOfBoundsException : ∀ w ∈ (vx_atS RX4 179 "java/lang/IndexOutOfBoundsException" exN).filter goodWord, w ∈ lw_tbl := by decide +kernel
theorem ex2_IndexOutOfBoundsException : ∀ w ∈ (vx_atS RX4 179 "java/lang/IndexOutOfBoundsException" exN).filter (fun w => !goodWord w), w ∈ exB "java/lang/IndexOutOfBoundsException" := by decide +kernel
theorem ex3_IndexOutOfBoundsException : ∀ w ∈ vx_atS RX4 179 "java/lang/IndexOutOfBoundsException" exN, vx_ot w = true := by decide +kernel
theorem ex1_UnsupportedOperationException : ∀ w ∈ (vx_atS RX4 34 "java/lang/UnsupportedOperationException" exN).filter goodWord, w ∈ lw_tbl := by decide +kernel
theorem ex2_UnsupportedOperationException : ∀ w ∈ (vx_atS RX4 34 "java/lang/UnsupportedOperationException" exN).filter (fun w => !goodWord w), w ∈ exB "java/lang/UnsupportedOperationException" := by decide +kernel
theorem ex3_UnsupportedOperationException : ∀ w ∈ vx_atS RX4 34 "java/lang/UnsupportedOperationException" exN, vx_ot w = true := by decide +kernel
theorem ex1_NoSuchElementException : ∀ w ∈ (nsAt RX4 124 "java/util/NoSuchElementException" "java/lang/RuntimeException" 13 prog_24_method_4_code ["java/lang/Exception"]).filter goodWord, w ∈ lw_tbl := by decide +kernel
theorem ex2_NoSuchElementException : ∀ w ∈ (nsAt RX4 124 "java/util/NoSuchElementException" "java/lang/RuntimeException" 13 prog_24_method_4_code ["java/lang/Exception"]).filter (fun w => !goodWord w), w ∈ exB "java/util/NoSuchElementException" := by decide +kernel
theorem ex3_NoSuchElementException : ∀ w ∈ nsAt RX4 124 "java/util/NoSuchElementException" "java/lang/RuntimeException" 13 prog_24_method_4_code ["java/lang/Exception"], vx_ot w = true := by decide +kernel
/-- what a call that throws E leaves: no old cell has changed -/
def mXu (E : String) : String → State → State → Prop := fun E' st t => E' = E ∧ st.heap.size ≤ t.heap.size ∧ ∀ q : Nat, q < st.heap.size → t.heap[q]? = st.heap[q]?
def rmT (k : Nat) : Room := { frames := k, cells := 1, slots := 6, locals := 42 * k }
def mPT (D : mG) (Pic : Heap → Prop) : State → Prop := fun U => GF D U ∧ ZF U ∧ Pic U.heap
theorem ZF.calling {U : State} (fr : JFrame) (mk : MethodId) (a : Array Value) (h : ZF U) : ZF (U.calling fr mk a) := h.moved (Vm.Alike.refl U.vm) (fun _ _ => rfl)
theorem ZF.warm {s U : State} (hW : s.WarmedH U.vm) (hh : U.heap = s.heap) (h : ZF s) : ZF U := h.moved hW.alike (fun _ _ => by rw [hh])
theorem mPT.blind {D : mG} {Pic : Heap → Prop} {As : List Value} : FrameBlind (va_Pc As (mPT D Pic)) := fun a U g mk q => ⟨q.1, GF.calling g mk a q.2.1, ZF.calling g mk a q.2.2.1, q.2.2.2⟩
abbrev mQN : Array Value → State → Outcome → State → Prop := fun _ _ _ _ => False
def cT (l : Launch) (D : mG) (y : MethodName) (b : ByteArray) (n : Nat) (ret : FieldType) (k : Nat) (Pic : Heap → Prop) (As : List Value) (E : String) : Prop :=
  vx_Met l y (.code y b n (some ret) :: aw) (rmT k) (va_Pc As (mPT D Pic)) mQN (mXu E) 1 6 (fun _ => False)
theorem cT_of {l : Launch} {D : mG} {y : MethodName} {b : ByteArray} {n : Nat} {ret : FieldType} {k : Nat} {Pic : Heap → Prop} {As : List Value} {E : String} (hy : plainName y.cls = true) (hn : (lg_sl As).length ≤ n)
    (body : ∀ (p : Program) (e : Env) (s : State) (m : MethodId) (below : List Frame) (meth : Method) (c : Code) (ls : Array Slot), p.tables.exec = Jvm.exec → c.code = b → meth.locks = false → (∀ x ∈ c.exceptionTable.toList, False) → CallFix p m c b n s As.toArray aw y.cls → GF D s → ZF s → Pic s.heap → lv_has ls n (lv_args 0 As) →
      W p l e (rmT k) s m As.toArray below meth c s.heap [] 0 0 (vx_MQ below mQN (mXu E) As.toArray s 1 6 (fun _ => False)) (F0 m 0 ls [])) : cT l D y b n ret k Pic As E := by
  refine vx_ofW (cc := b) (maxL := n) (ret := some ret) hy rfl ?_
  intro p e s m args below meth c s₁ B hml hex hv
  obtain ⟨rfl, hg, hz, hpic⟩ := hv
  have hts := atoms_spec (ws := .code y b n (some ret) :: aw) B.pre
  rw [lg_entry_eq]
  exact body p e s m below meth c _ B.exec B.bytes B.notSynchronized hex ⟨B.exec, B.bytes, hml, findClass_of_methodNamed B.named, fun w h => hts w (List.mem_cons_of_mem _ h)⟩ hg hz hpic (lv_entry As hn)
section MWT
variable {p : Program} {l : Launch} {e : Env} {R : Room} {s : State} {m : MethodId} {args : Array Value} {below : List Frame} {meth : Method} {c : Code} {H : Heap} {locs : List Loc} {cells slots : Nat} {Q : State → Prop}
variable {cc : ByteArray} {pc nL index n k : Nat} {ls : Array Slot} {st rest As : List Value} {D : mG} {own C : String} {y x : MethodName} {b : ByteArray} {ret : FieldType} {Pic : Heap → Prop} {o : Nat} {E : String}
/-- 'throw new E("text")' -/
theorem mw_throw {ik is ic : Nat} {text : String} (hlt : l.stackTraces = false) (G : CallFix p m c cc nL s args aw RX4) (hlocks : meth.locks = false) (hex : ∀ x ∈ c.exceptionTable.toList, False) (hgf : GF D s) (hz : ZF s) (hcls : Bundle.fit E = true) (hk : Cond.classLink RX4 ik E ∈ aw) (hini : Cond.initialized E ∈ aw) (hstr : (is, text) ∈ gfS) (hE : (E, E) ∈ gfC)
    (h1 : ∀ w ∈ (vx_atS RX4 ic E exN).filter goodWord, w ∈ lw_tbl) (h2 : ∀ w ∈ (vx_atS RX4 ic E exN).filter (fun w => !goodWord w), w ∈ exB E) (h3 : ∀ w ∈ vx_atS RX4 ic E exN, vx_ot w = true) (hls : ls.size = nL) (hR : 6 ≤ R.frames ∧ (rest.map fun v => v.category).sum + 82 ≤ R.locals ∧ 1 ≤ R.cells ∧ 6 ≤ R.slots)
    (d0 : decode cc pc = .ok (.new ik, 3)) (d3 : decode cc (pc + 3) = .ok (.dup, 1)) (d4 : decode cc (pc + 4) = .ok (.ldc is, 2)) (d6 : decode cc (pc + 6) = .ok (.invokespecial ic, 3)) (d9 : decode cc (pc + 9) = .ok (.athrow, 1)) :
    W p l e R s m args below meth c s.heap [] 0 0 (vx_MQ below mQN (mXu E) args s 1 6 (fun _ => False)) (F0 m pc ls rest) := by
  obtain ⟨sa, hsa⟩ := hgf.2.2.2.2.2 (is, text) hstr
  have hat : ∀ w ∈ vx_atS RX4 ic E exN, w.before args s = true := vx_hat (fun w hw => G.2.2.2.2 w (List.mem_filter.mpr ⟨h1 w hw, (List.mem_filter.mp hw).2⟩)) h2 (exB_ok hgf hE args)
  refine vx_throwS (A := fun _ => False) (names := exN) G.1 G.2.1 hlt G.2.2.2.1 hcls (by decide +kernel) (G.2.2.2.2 _ hk) (G.2.2.2.2 _ hini) hsa hat ?_ hz.1 hz.2 va_S.rf (hls.trans G.2.2.1.symm) d0 d3 d4 d6 d9 (fun x hx => (hex x hx).elim) ?_ ?_ ?_ ?_ hlocks (fun t _ hs1 hs2 => ⟨rfl, hs1, hs2⟩) (fun _ h => nomatch h) (Nat.le_refl _) (Nat.le_refl _)
  · intro w hw
    rcases List.mem_cons.mp hw with rfl | hw
    · rfl
    · rcases List.mem_cons.mp hw with rfl | hw
      · rfl
      · exact h3 w hw
  · exact Nat.lt_of_lt_of_le (by decide) hR.1
  · exact hR.2.1
  · exact hR.2.2.1
  · exact hR.2.2.2
/-- 'throw new NoSuchElementException("text")' -/
theorem mw_throwN {ik is ic i2 : Nat} {text sup : String} {b2 : ByteArray} {names : List String} (hlt : l.stackTraces = false) (G : CallFix p m c cc nL s args aw RX4) (hlocks : meth.locks = false) (hex : ∀ x ∈ c.exceptionTable.toList, False) (hgf : GF D s) (hz : ZF s) (hcls : Bundle.fit E = true) (hsup : Bundle.fit sup = true) (hnames : ∀ n ∈ names, Bundle.fit n = true) (b0 : decode b2 0 = .ok (.aload_n 0, 1)) (b1 : decode b2 1 = .ok (.aload_n 1, 1)) (b2' : decode b2 2 = .ok (.invokespecial i2, 3)) (b5 : decode b2 5 = .ok (.return_, 1))
    (hk : Cond.classLink RX4 ik E ∈ aw) (hini : Cond.initialized E ∈ aw) (hstr : (is, text) ∈ gfS) (hE : (E, E) ∈ gfC)
    (h1 : ∀ w ∈ (nsAt RX4 ic E sup i2 b2 names).filter goodWord, w ∈ lw_tbl) (h2 : ∀ w ∈ (nsAt RX4 ic E sup i2 b2 names).filter (fun w => !goodWord w), w ∈ exB E) (h3 : ∀ w ∈ nsAt RX4 ic E sup i2 b2 names, vx_ot w = true) (hls : ls.size = nL) (hR : names.length + 4 < R.frames ∧ (rest.map fun v => v.category).sum + (13 * (names.length + 2) + 43) ≤ R.locals ∧ 1 ≤ R.cells ∧ 6 ≤ R.slots)
    (d0 : decode cc pc = .ok (.new ik, 3)) (d3 : decode cc (pc + 3) = .ok (.dup, 1)) (d4 : decode cc (pc + 4) = .ok (.ldc is, 2)) (d6 : decode cc (pc + 6) = .ok (.invokespecial ic, 3)) (d9 : decode cc (pc + 9) = .ok (.athrow, 1)) :
    W p l e R s m args below meth c s.heap [] 0 0 (vx_MQ below mQN (mXu E) args s 1 6 (fun _ => False)) (F0 m pc ls rest) := by
  obtain ⟨sa, hsa⟩ := hgf.2.2.2.2.2 (is, text) hstr
  have hat : ∀ w ∈ nsAt RX4 ic E sup i2 b2 names, w.before args s = true := vx_hat (fun w hw => G.2.2.2.2 w (List.mem_filter.mpr ⟨h1 w hw, (List.mem_filter.mp hw).2⟩)) h2 (exB_ok hgf hE args)
  intro T hT X
  have htr : e.platform.stackTraces = false := (show e.platform.stackTraces = l.stackTraces by rw [X.admits.platform]).trans hlt
  have Y := vx_rebase X (R' := { frames := R.frames, locals := R.locals, cells := 1, slots := 6 }) (Nat.le_refl _) (Nat.le_refl _) (by rw [Nat.zero_add]; exact hR.2.2.1) (by rw [Nat.zero_add]; exact hR.2.2.2)
  obtain ⟨s', hA⟩ : ∃ z, z = (T.setVm s.vm).setFrames (.invoking m args :: below) := ⟨_, rfl⟩
  rw [← hA] at Y
  have hvm : s'.vm = s.vm := by rw [hA]; rfl
  have hhp : s'.heap = s.heap := by rw [hA]; exact hT
  have hW0 : s.WarmedH s'.vm := by rw [hvm]; exact State.WarmedH.refl s
  have hat' : ∀ w ∈ nsAt RX4 ic E sup i2 b2 names, w.before args s' = true := fun w hw => vx_ot_at hW0 hvm.symm (h3 w hw) (hat w hw)
  have hk' : (Cond.classLink RX4 ik E).before args s' = true := vx_ot_at hW0 hvm.symm rfl (G.2.2.2.2 _ hk)
  have hini' : (Cond.initialized E).before args s' = true := vx_ot_at hW0 hvm.symm rfl (G.2.2.2.2 _ hini)
  have hz' : ZF s' := hz.warm hW0 hhp
  have h : ∀ w ∈ nsA RX4 ic E sup i2 b2 names, w.before args s' = true := vx_own hat' (vx_isRefq hz'.1.1) (vx_isRefq hz'.2.1) hz'.1.2.word hz'.2.2.word
  have hown' : s'.vm.findClass RX4 = some m.cls := by rw [hvm]; exact G.2.2.2.1
  have hins : (Cond.instantiable E 6).before args s' = true := h _ (by simp [nsA])
  obtain ⟨vm₁, cX, kX, hfX, hkX, -, -, X₁, st1⟩ := Y.newCold G.1 (own := RX4) (C := E) (index := ik) (n := 6) hown' hk' hins hini'
    (g := F0 m pc ls rest) rfl (by rw [G.2.1]; exact d0) (Nat.le_refl _) (Nat.le_refl _)
  generalize hT1 : (T.setVm vm₁).pushCell { cls := cX, slots := kX.instanceTypes.map defaultValue, vm := .none } = T1 at X₁ st1
  have hcat : (Value.ref T.heap.size).category = 1 := rfl
  have hcellA : T1.heap[T.heap.size]? = some (freshCell cX kX) := by rw [← hT1]; exact State.heap_pushCell_size _ _
  have hexec := G.1
  have d3' : decode c.code (pc + 3) = .ok (.dup, 1) := by rw [G.2.1]; exact d3
  have d4' : decode c.code (pc + 4) = .ok (.ldc is, 2) := by rw [G.2.1]; exact d4
  have hstr' : vk_R RX4 is text sa s' := vk_R.warm hW0 hsa
  obtain ⟨U, hsteps, hrun, hend, hW, hsame, ce, hce, hcv, hcf⟩ := mw_ctorT X₁ G.1 htr (own := RX4) (cls := E) (names := names) (ic := ic) hown' hcls hsup hnames b0 b1 b2' b5 h hfX hkX hcellA (by rw [hhp, hT]; exact Nat.le_refl _) (msg := .ref sa) rfl
    (g := { method := m, pc := pc + 6, locals := ls, stack := .ref sa :: .ref T.heap.size :: .ref T.heap.size :: rest, locked := none }) rfl (hls.trans G.2.2.1.symm) rfl rfl (rest := rest) rfl
    (by rw [G.2.1]; exact d6) (by rw [G.2.1]; exact d9) (fun x hx => (hex x hx).elim) hR.1 (by have := hR.2.1; simp only [List.map_cons, List.sum_cons, hcat]; omega) hlocks
  obtain ⟨f1, f2⟩ := vx_frame hsame
  rw [hhp] at f1 f2
  have hWs : s.WarmedH U.vm := State.WarmedH.trans hW0 hW
  have hcl : s.vm.findClass E = some ce.cls := by rw [← hvm]; exact hcf
  have hall : s.sameButNew ({ U with vm := s.vm } : State) [] 1 6 := by
    subst hA
    obtain ⟨e1, e2⟩ := hsame
    rw [State.setFrames_setFrames] at e1
    have h2 : (T.setVm s.vm).sameButNew ({ U with vm := s.vm } : State) [] (0 + 1) (0 + 6) := ⟨e1, e2⟩
    have h3 := X.same.trans h2
    rw [List.append_nil] at h3
    exact h3.mono (Nat.le_refl _) (Nat.le_refl _)
  refine ⟨U, ?_, .threw T.heap.size, hrun, hend, Or.inr ⟨T.heap.size, rfl, E, ce, [], ⟨rfl, f1, fun q hq => f2 q hq (fun z hz => nomatch hz)⟩, hce, hcv, hcl, hWs, hall, fun _ h => nomatch h⟩⟩
  refine st1 _ ?_
  show Steps p.tables e below (T1.setTop { method := m, pc := pc + 3, locals := ls, stack := .ref T.heap.size :: rest, locked := none }) _
  jvm_step X₁.here [X₁.here.top, hexec, d3', Value.category]
  exact X₁.ldcString hexec (own := RX4) (text := text) (index := is) (a := sa) hown' hstr'.1 hstr'.2
    (g := { method := m, pc := pc + 4, locals := ls, stack := .ref T.heap.size :: .ref T.heap.size :: rest, locked := none }) rfl d4' _ hsteps
/-- a call throws, and it isn't caught here -/
theorem kT (G : CallFix p m c cc nL s args aw own) (hlocks : meth.locks = false) (hex : ∀ x ∈ c.exceptionTable.toList, False) (hM : cT l D y b n ret k Pic (.ref o :: As) E) (hok : okV C y b n ret As.length) (hgf : GF D s) (hz : ZF s) (hpic : Pic s.heap) (hrc : ∃ cell : Cell, s.heap[o]? = some cell ∧ cell.vm.isStatics = false ∧ s.vm.findClass C = some cell.cls) (hl : Cond.methodLink own index y ∈ aw) (hR : k + 1 ≤ R.frames ∧ 8 + (n + 11) + 42 * k ≤ R.locals) (hcs : 0 + 1 ≤ R.cells ∧ 0 + 6 ≤ R.slots) (hls : ls.size = nL) (hrest : (rest.map fun v => v.category).sum ≤ 8)
    (hst : st = As.reverse ++ .ref o :: rest) (hdg : decode cc pc = .ok (.invokevirtual index, 3)) : W p l e R s m args below meth c s.heap [] 0 0 (vx_MQ below mQN (mXu E) args s 1 6 (fun _ => False)) (F0 m pc ls st) := by
  obtain ⟨h1, h2, h3, h4, hd⟩ := hok
  have hr := vx_runV (H := s.heap) (locs := []) (cells := 0) (slots := 0) (As := As) (rest := rest) (e := e) (below := below) (meth := meth) (g := F0 m pc ls st) G hM (cwV As.length G.2.2.2.2 (aw_gl (fun w h => by
    simp only [wsV, List.mem_append, List.mem_cons, List.not_mem_nil, or_false] at h
    rcases h with (rfl | rfl | rfl | rfl) | rfl | h
    · exact hl
    · exact h1
    · exact h2
    · exact h3
    · exact h4
    · exact h)) rfl rfl rfl hd hR) ⟨mPT.blind, hrc, fun U hU hW => ⟨rfl, GF.warm hW hgf, hz.warm hW hU, by rw [hU]; exact hpic⟩⟩ rfl rfl hls hst (lv_room hrest) hdg hcs
  intro T hT X
  rcases hr T hT X with ⟨v, st₀, t, T', L, h0, X', hL, e1, e2, hF, go⟩ | ⟨q, st₀, t, T', L, E', ce, h0, X', hL, e1, e2, ⟨rfl, k1, k2⟩, hce, hcv, hcl, go⟩
  · exact hF.elim
  · rw [h0] at k1 k2
    have hx : vx_W p l e R s m args below meth c T'.heap ([] ++ L) (0 + 1) (0 + 6) (vx_MQ below mQN (mXu E') args s 1 6 (fun _ => False)) (F0 m pc ls rest) q :=
      vx_out (fun x hx => (hex x hx).elim) hlocks (by rw [e1]; exact hce) hcv hcl (fun t9 ht9 _ => ⟨rfl, by rw [ht9, e1]; exact k1, fun z hz => by rw [ht9, e1]; exact k2 z hz⟩) (fun z hz => by rcases List.mem_append.mp hz with h | h; exact nomatch h; exact hL z h) (Nat.le_refl _) (Nat.le_refl _)
    obtain ⟨t2, a1, b1⟩ := hx T' rfl X'
    exact ⟨t2, go.trans a1, b1⟩
end MWT
