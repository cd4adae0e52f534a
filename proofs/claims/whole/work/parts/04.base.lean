/-! THE GROUND. mG: the classes' numbers and slots, and the numbers of the classes int[], long[], Instrument[]. -/
abbrev mG : Type := va_G × ClassId × ClassId × ClassId
abbrev mTys (D : mG) : List (ClassId × FieldType) := [(D.2.1, .int), (D.2.2.1, .long), (D.2.2.2, .object RX1)]
def gfD : List MethodName := [⟨"java/lang/RuntimeException", "<init>", "()V"⟩, ⟨"java/lang/RuntimeException", "<init>", "(Ljava/lang/String;)V"⟩, ⟨"java/lang/Exception", "<init>", "()V"⟩, ⟨"java/lang/Exception", "<init>", "(Ljava/lang/String;)V"⟩, ⟨"java/lang/Throwable", "<init>", "()V"⟩, ⟨"java/lang/Throwable", "<init>", "(Ljava/lang/String;)V"⟩, ⟨"WeatherMast$Numbers", "isNumber", "(J)Z"⟩, ⟨"WeatherMast$Numbers", "amount", "(J)J"⟩, ⟨"WeatherMast$Numbers", "ofWidth", "(J)J"⟩, ⟨"WeatherMast$Numbers", "rank", "(J)J"⟩, ⟨"WeatherMast$Numbers", "furtherStepped", "(IJJ)J"⟩, ⟨"WeatherMast$Numbers", "apart", "(JJ)J"⟩, ⟨"WeatherMast$Numbers", "plus", "(JJ)J"⟩, ⟨"WeatherMast$Numbers", "level", "(J)J"⟩, ⟨"WeatherMast$Numbers", "toInt", "(J)I"⟩]
def gfC : List (String × String) := [("java/lang/IllegalArgumentException", "java/lang/IllegalArgumentException"), ("java/lang/UnsupportedOperationException", "java/lang/UnsupportedOperationException"), ("java/lang/IndexOutOfBoundsException", "java/lang/IndexOutOfBoundsException"), ("java/lang/IllegalStateException", "java/lang/IllegalStateException"), ("java/util/NoSuchElementException", "java/util/NoSuchElementException")]
def gfN : List (String × String) := [("java/lang/IllegalArgumentException", "java/lang/UnsupportedOperationException"), ("java/lang/IllegalArgumentException", "java/lang/IndexOutOfBoundsException"), ("java/lang/IllegalArgumentException", "java/lang/IllegalStateException"), ("java/lang/IllegalArgumentException", "java/util/NoSuchElementException"), ("java/lang/UnsupportedOperationException", "java/lang/IllegalArgumentException"), ("java/lang/UnsupportedOperationException", "java/lang/IndexOutOfBoundsException"), ("java/lang/UnsupportedOperationException", "java/lang/IllegalStateException"), ("java/lang/UnsupportedOperationException", "java/util/NoSuchElementException"), ("java/lang/IndexOutOfBoundsException", "java/lang/IllegalArgumentException"), ("java/lang/IndexOutOfBoundsException", "java/lang/UnsupportedOperationException"), ("java/lang/IndexOutOfBoundsException", "java/lang/IllegalStateException"), ("java/lang/IndexOutOfBoundsException", "java/util/NoSuchElementException"), ("java/lang/IllegalStateException", "java/lang/IllegalArgumentException"), ("java/lang/IllegalStateException", "java/lang/UnsupportedOperationException"), ("java/lang/IllegalStateException", "java/lang/IndexOutOfBoundsException"), ("java/lang/IllegalStateException", "java/util/NoSuchElementException"), ("java/util/NoSuchElementException", "java/lang/IllegalArgumentException"), ("java/util/NoSuchElementException", "java/lang/UnsupportedOperationException"), ("java/util/NoSuchElementException", "java/lang/IndexOutOfBoundsException"), ("java/util/NoSuchElementException", "java/lang/IllegalStateException")]
def gfS : List (Nat × String) := [(21, "no such sort"), (32, "there are eight instruments"), (177, "no such instrument"), (55, "no such step of this sort"), (68, "K is no number"), (76, "there are six steps"), (83, "no such step with K of this sort"), (88, "the other instrument is of another sort"), (90, "the bits are no number"), (122, "no such reading is kept"), (129, "no such thing to tell"), (134, "nothing has been read"), (153, "a limit is no number"), (169, "no instrument of this sort has read anything")]
/-- what the tables say beside the words of 'aw' -/
def GF (D : mG) (U : State) : Prop := va_K D.1 vwCl (mTys D) U ∧ va_AO RX1 U ∧ (∀ x ∈ gfD, va_Nw (.declares x) U) ∧ (∀ x ∈ gfC, va_Nw (.castable x.1 x.2) U) ∧ (∀ x ∈ gfN, va_Nc x.1 x.2 U) ∧ ∀ x ∈ gfS, ∃ a : Nat, vk_R RX4 x.1 x.2 a U
theorem GF.K {D : mG} {U : State} (g : GF D U) : va_K D.1 vwCl (mTys D) U := g.1
theorem GF.dec {D : mG} {U : State} (g : GF D U) {x : MethodName} (h : x ∈ gfD) : va_Nw (.declares x) U := g.2.2.1 x h
theorem GF.warm {D : mG} {s U : State} (hW : s.WarmedH U.vm) (g : GF D s) : GF D U :=
  ⟨va_K.moved hW.alike g.1, va_AO.moved hW.alike g.2.1, fun x h => va_Nw.warmD hW (g.2.2.1 x h), fun x h => va_Nw.warmC hW (g.2.2.2.1 x h), fun x h => va_Nc.moved hW.alike (g.2.2.2.2.1 x h), fun x h => by obtain ⟨a, q⟩ := g.2.2.2.2.2 x h; exact ⟨a, vk_R.warm hW q⟩⟩
theorem GF.calling {D : mG} {U : State} (fr : JFrame) (mk : MethodId) (a : Array Value) (h : GF D U) : GF D (U.calling fr mk a) :=
  ⟨va_K.moved (u := U) (U := U.calling fr mk a) (Vm.Alike.refl U.vm) h.1, va_AO.moved (u := U) (U := U.calling fr mk a) (Vm.Alike.refl U.vm) h.2.1, fun x q => va_Nw.same (u := U) (U := U.calling fr mk a) rfl rfl (h.2.2.1 x q), fun x q => va_Nw.same (u := U) (U := U.calling fr mk a) rfl rfl (h.2.2.2.1 x q), fun x q => va_Nc.moved (u := U) (U := U.calling fr mk a) (Vm.Alike.refl U.vm) (h.2.2.2.2.1 x q), fun x q => by obtain ⟨a1, q1⟩ := h.2.2.2.2.2 x q; exact ⟨a1, vk_R.same (u := U) (U := U.calling fr mk a) rfl q1⟩⟩
/-! METHODS THAT CHANGE NOTHING: room by their height -/
def rmP (k : Nat) : Room := { frames := k, cells := 0, slots := 0, locals := 42 * k }
def mP (D : mG) (Pic : Heap → Prop) : State → Prop := fun U => GF D U ∧ Pic U.heap
theorem mP.blind {D : mG} {Pic : Heap → Prop} {As : List Value} : FrameBlind (va_Pc As (mP D Pic)) := fun a U g mk q => ⟨q.1, GF.calling g mk a q.2.1, q.2.2⟩
/-- it answers v, the heap is as it was -/
def mS (v : Value) : Array Value → State → Outcome → State → Prop := fun _ st o t => o = .returned (some v) ∧ t.heap = st.heap
def cV (l : Launch) (D : mG) (y : MethodName) (b : ByteArray) (n : Nat) (ret : FieldType) (k : Nat) (Pic : Heap → Prop) (As : List Value) (v : Value) : Prop :=
  Met l y (.code y b n (some ret) :: aw) (rmP k) (va_Pc As (mP D Pic)) (mS v) 0 0 (fun _ => False)
theorem cV_of {l : Launch} {D : mG} {y : MethodName} {b : ByteArray} {n : Nat} {ret : FieldType} {k : Nat} {Pic : Heap → Prop} {As : List Value} {v : Value} (hy : plainName y.cls = true) (hn : (lg_sl As).length ≤ n)
    (body : ∀ (p : Program) (e : Env) (s : State) (m : MethodId) (below : List Frame) (meth : Method) (c : Code) (ls : Array Slot), p.tables.exec = Jvm.exec → c.code = b → meth.sig.returnType = some ret → meth.locks = false → CallFix p m c b n s As.toArray aw y.cls → GF D s → Pic s.heap → lv_has ls n (lv_args 0 As) →
      W p l e (rmP k) s m As.toArray below meth c s.heap [] 0 0 (MQ below (mS v) As.toArray s 0 0 (fun _ => False)) (F0 m 0 ls [])) : cV l D y b n ret k Pic As v := by
  refine Met.ofW (cc := b) (maxL := n) (ret := some ret) hy rfl ?_
  intro p e s m args below meth c s₁ B hml hv
  obtain ⟨rfl, hg, hpic⟩ := hv
  have hts := atoms_spec (ws := .code y b n (some ret) :: aw) B.pre
  rw [lg_entry_eq]
  exact body p e s m below meth c _ B.exec B.bytes B.returns B.notSynchronized ⟨B.exec, B.bytes, hml, findClass_of_methodNamed B.named, fun w h => hts w (List.mem_cons_of_mem _ h)⟩ hg hpic (lv_entry As hn)
section MW
variable {p : Program} {l : Launch} {e : Env} {R : Room} {s : State} {m : MethodId} {args : Array Value} {below : List Frame} {meth : Method} {c : Code} {H : Heap} {locs : List Loc} {cells slots : Nat} {Q : State → Prop}
variable {cc : ByteArray} {pc nL index n k : Nat} {ls : Array Slot} {st rest As : List Value} {D : mG} {own C : String} {v : Value} {y x : MethodName} {b : ByteArray} {ret : FieldType} {Pic : Heap → Prop} {o : Nat}
theorem mw_call {a : Array Value} (hr : va_Run p l e R s m args below meth c H locs cells slots 0 0 (F0 m pc ls st) rest (mS v a) (fun _ => False)) (kk : W p l e R s m args below meth c H locs cells slots Q (F0 m (pc + 3) ls (v :: rest))) : W p l e R s m args below meth c H locs cells slots Q (F0 m pc ls st) := by
  intro T hT X
  obtain ⟨v1, st₀, t, T', L, h0, X', hL, e1, e2, ⟨hv, hh⟩, go⟩ := hr T hT X
  cases hv
  obtain ⟨t2, a1, b1⟩ := kk T' (by rw [e1, hh, h0]) (Stand.forget X' (fun q h => (hL q h).elim))
  exact ⟨t2, go t2 a1, b1⟩
/-- what a callee brings of its own -/
def okS (y : MethodName) (b : ByteArray) (n : Nat) (ret : FieldType) (na : Nat) : Prop := Cond.static y ∈ aw ∧ Cond.initialized y.cls ∈ aw ∧ Cond.code y b n (some ret) ∈ aw ∧ (y.cls ≠ "java/lang/invoke/MethodHandle" ∧ y.cls ≠ "java/lang/invoke/VarHandle" ∧ (parseMethodDescriptor y.desc).map (fun d => d.parameters.length) = some na)
def okV (C : String) (y : MethodName) (b : ByteArray) (n : Nat) (ret : FieldType) (na : Nat) : Prop := Cond.instanceMethod y ∈ aw ∧ Cond.selects C y y ∈ aw ∧ Cond.initialized C ∈ aw ∧ Cond.code y b n (some ret) ∈ aw ∧ (y.cls = C ∧ y.cls ≠ "java/lang/invoke/MethodHandle" ∧ y.cls ≠ "java/lang/invoke/VarHandle" ∧ (parseMethodDescriptor y.desc).map (fun d => d.parameters.length) = some na)
/-- a method x named at a class above, found at the receiver's class C as y, which is declared there -/
def okU (C owner : String) (x y : MethodName) (b : ByteArray) (n : Nat) (ret : FieldType) (na : Nat) : Prop := Cond.sameMethod x.cls owner x.name x.desc ∈ aw ∧ Cond.selects C x y ∈ aw ∧ Cond.instanceMethod y ∈ aw ∧ Cond.initialized y.cls ∈ aw ∧ Cond.code y b n (some ret) ∈ aw ∧ (owner ≠ "java/lang/invoke/MethodHandle" ∧ owner ≠ "java/lang/invoke/VarHandle" ∧ (parseMethodDescriptor x.desc).map (fun d => d.parameters.length) = some na) ∧ (y = ⟨owner, x.name, x.desc⟩ ∨ (⟨owner, x.name, x.desc⟩ : MethodName) ∈ gfD)
theorem aw_g {w : Cond} (h : w ∈ aw) : w ∈ aw ∧ ((w.onTables && w.keeps) = true ∨ ∃ ty, w = .arrayClass ty) := ⟨h, good_of_word (aw_good h)⟩
theorem aw_gl {ws : List Cond} (h : ∀ w ∈ ws, w ∈ aw) : GoodIn aw ws := fun w q => aw_g (h w q)
theorem kS (G : CallFix p m c cc nL s args aw own) (hM : cV l D y b n ret k Pic As v) (hok : okS y b n ret As.length) (hgf : GF D s) (hpic : Pic H) (hl : Cond.methodLink own index y ∈ aw) (hR : k + 1 ≤ R.frames ∧ 8 + (n + 11) + 42 * k ≤ R.locals) (hcs : cells ≤ R.cells ∧ slots ≤ R.slots) (hls : ls.size = nL) (hrest : (rest.map fun v => v.category).sum ≤ 8)
    (hst : st = As.reverse ++ rest) (hdg : decode cc pc = .ok (.invokestatic index, 3)) (kk : W p l e R s m args below meth c H locs cells slots Q (F0 m (pc + 3) ls (v :: rest))) : W p l e R s m args below meth c H locs cells slots Q (F0 m pc ls st) := by
  obtain ⟨h2, h3, h4, hd⟩ := hok
  refine mw_call (va_runS (As := As) (rest := rest) G hM (va_cwS As.length G.2.2.2.2 (aw_gl (fun w h => ?_)) rfl rfl rfl hd hR) ⟨mP.blind, fun U hU hW => ⟨rfl, GF.warm hW hgf, by rw [hU]; exact hpic⟩⟩ rfl rfl hls hst (lv_room hrest) hdg hcs) kk
  simp only [va_wsS, List.mem_append, List.mem_cons, List.not_mem_nil, or_false] at h
  rcases h with (rfl | rfl | rfl) | rfl | h
  · exact hl
  · exact h2
  · exact h3
  · exact h4
  · exact h
theorem kV (G : CallFix p m c cc nL s args aw own) (hM : cV l D y b n ret k Pic (.ref o :: As) v) (hok : okV C y b n ret As.length) (hgf : GF D s) (hpic : Pic H) (hrc : ∃ cell : Cell, H[o]? = some cell ∧ cell.vm.isStatics = false ∧ s.vm.findClass C = some cell.cls) (hl : Cond.methodLink own index y ∈ aw) (hR : k + 1 ≤ R.frames ∧ 8 + (n + 11) + 42 * k ≤ R.locals) (hcs : cells ≤ R.cells ∧ slots ≤ R.slots) (hls : ls.size = nL) (hrest : (rest.map fun v => v.category).sum ≤ 8)
    (hst : st = As.reverse ++ .ref o :: rest) (hdg : decode cc pc = .ok (.invokevirtual index, 3)) (kk : W p l e R s m args below meth c H locs cells slots Q (F0 m (pc + 3) ls (v :: rest))) : W p l e R s m args below meth c H locs cells slots Q (F0 m pc ls st) := by
  obtain ⟨h1, h2, h3, h4, hd⟩ := hok
  refine mw_call (va_runV (As := As) (rest := rest) G hM (cwV As.length G.2.2.2.2 (aw_gl (fun w h => ?_)) rfl rfl rfl hd hR) ⟨mP.blind, hrc, fun U hU hW => ⟨rfl, GF.warm hW hgf, by rw [hU]; exact hpic⟩⟩ rfl rfl hls hst (lv_room hrest) hdg hcs) kk
  simp only [wsV, List.mem_append, List.mem_cons, List.not_mem_nil, or_false] at h
  rcases h with (rfl | rfl | rfl | rfl) | rfl | h
  · exact hl
  · exact h1
  · exact h2
  · exact h3
  · exact h4
  · exact h
theorem kU {owner : String} (G : CallFix p m c cc nL s args aw own) (hM : cV l D y b n ret k Pic (.ref o :: As) v) (hok : okU C owner x y b n ret As.length) (hgf : GF D s) (hpic : Pic H) (hrc : ∃ cell : Cell, H[o]? = some cell ∧ cell.vm.isStatics = false ∧ s.vm.findClass C = some cell.cls) (hl : Cond.methodLink own index x ∈ aw) (hR : k + 1 ≤ R.frames ∧ 8 + (n + 11) + 42 * k ≤ R.locals) (hcs : cells ≤ R.cells ∧ slots ≤ R.slots) (hls : ls.size = nL) (hrest : (rest.map fun v => v.category).sum ≤ 8)
    (hst : st = As.reverse ++ .ref o :: rest) (hdg : decode cc pc = .ok (.invokevirtual index, 3)) (kk : W p l e R s m args below meth c H locs cells slots Q (F0 m (pc + 3) ls (v :: rest))) : W p l e R s m args below meth c H locs cells slots Q (F0 m pc ls st) := by
  obtain ⟨h1, h2, h3, h4, h5, hd, ha⟩ := hok
  have hG : GoodIn aw (va_wsU own index C owner x y (.code y b n (some ret) :: aw)) := aw_gl (fun w h => by
    simp only [va_wsU, List.mem_append, List.mem_cons, List.not_mem_nil, or_false] at h
    rcases h with (rfl | rfl | rfl | rfl | rfl) | rfl | h
    · exact hl
    · exact h1
    · exact h2
    · exact h3
    · exact h4
    · exact h5
    · exact h)
  have cw : va_CU R s args own C owner index x y b n (some ret) (.code y b n (some ret) :: aw) (rmP k) 0 0 As.length := by
    rcases ha with ha | ha
    · exact va_cwU As.length G.2.2.2.2 hG rfl rfl rfl ha hd hR
    · exact va_cwA As.length G.2.2.2.2 hG rfl rfl rfl (GF.dec hgf ha) hd hR
  exact mw_call (va_runU (As := As) (rest := rest) G hM cw ⟨mP.blind, hrc, fun U hU hW => ⟨rfl, GF.warm hW hgf, by rw [hU]; exact hpic⟩⟩ rfl rfl hls hst (lv_room hrest) hdg hcs) kk
/-- a cell by itself -/
theorem va_at.P {D : va_G} {cl : List vw_C} {q : Nat × va_E} {H : Heap} (h : va_at D cl q H) : va_P D cl [q] H := fun k z hk => by
  match k, hk with
  | 0, hk => cases hk; exact h
theorem va_P.at {D : va_G} {cl : List vw_C} {ws : va_W} {q : Nat × va_E} {H : Heap} (h : va_P D cl ws H) (k : Nat) (hk : ws[k]? = some q) : va_at D cl q H := h k q hk
theorem mw_recv {ci : Nat} {q : vw_C} {fs : List Value} (hgf : GF D s) (hP : va_at D.1 vwCl (o, .inr (ci, fs)) H) (hc : vwCl[ci]? = some q) : ∃ cell : Cell, H[o]? = some cell ∧ cell.vm.isStatics = false ∧ s.vm.findClass q.1 = some cell.cls := va_recv hgf.K hP.P (q0 := 0) hc rfl
theorem mw_get {ci N : Nat} {fs : List Value} {T : u_T} (G : CallFix p m c cc nL s args aw own) (hgf : GF D s) (hP : va_at D.1 vwCl (o, .inr (ci, fs)) H) (hc : vwCl[ci]? = some (C, T, N)) (hin : ∀ w ∈ u_ws C T N, w ∈ aw) (k : Nat) (hk : k < N) (hl : Cond.fieldLink own index (T k).1 (T k).2.1 (T k).2.2.1 ∈ aw) (hv : fs[k]? = some v) (hdg : decode cc pc = .ok (.getfield index, 3)) (kk : W p l e R s m args below meth c H locs cells slots Q (F0 m (pc + 3) ls (v :: rest))) : W p l e R s m args below meth c H locs cells slots Q (F0 m pc ls (.ref o :: rest)) :=
  va_get G.1 G.2.1 G.2.2.2.2 hin G.2.2.2.1 hgf.K hP.P 0 rfl hc k hk (G.2.2.2.2 _ hl) (fun _ h => h) hv hdg kk
/-- the ends of methods that change nothing -/
theorem mw_lret {x w : Int64} (hx : p.tables.exec = Jvm.exec) (hb : c.code = cc) (hr : meth.sig.returnType = some .long) (hlocks : meth.locks = false) (hdg : decode cc pc = .ok (.lreturn, 1)) (hv : x = w) : W p l e R s m args below meth c s.heap [] 0 0 (MQ below (mS (.long w)) args s 0 0 (fun _ => False)) (F0 m pc ls [.long x]) :=
  W.lret hx hb hr (fun t ht _ => ⟨by rw [hv], ht⟩) (fun _ h => by cases h) hdg hlocks
theorem mw_iret {x w : Int32} (hx : p.tables.exec = Jvm.exec) (hb : c.code = cc) (hr : meth.sig.returnType = some .int) (hlocks : meth.locks = false) (hdg : decode cc pc = .ok (.ireturn, 1)) (hv : x = w) : W p l e R s m args below meth c s.heap [] 0 0 (MQ below (mS (.int w)) args s 0 0 (fun _ => False)) (F0 m pc ls [.int x]) :=
  W.iret hx hb hr (fun t ht _ => ⟨by rw [hv], ht⟩) (fun _ h => by cases h) hdg hlocks
theorem mw_zret {x w : Int32} (hx : p.tables.exec = Jvm.exec) (hb : c.code = cc) (hr : meth.sig.returnType = some .boolean) (hlocks : meth.locks = false) (hdg : decode cc pc = .ok (.ireturn, 1)) (hn : x = 0 ∨ x = 1) (hv : x = w) : W p l e R s m args below meth c s.heap [] 0 0 (MQ below (mS (.int w)) args s 0 0 (fun _ => False)) (F0 m pc ls [.int x]) :=
  W.zret hx hb hr (by rcases hn with rfl | rfl <;> decide) (fun t ht _ => ⟨by rw [hv], ht⟩) (fun _ h => by cases h) hdg hlocks
end MW

theorem okX4_count : okV RX4 yX4_count cX4_count 2 .int 1 := ⟨qw1_46, qw1_47, qw1_1, qw1_48, by decide +kernel⟩
theorem okX4_mount : okV RX4 yX4_mount cX4_mount 3 .int 1 := ⟨qw1_55, qw1_56, qw1_1, qw1_57, by decide +kernel⟩
theorem okX4_isSort : okS yX4_isSort cX4_isSort 1 .boolean 1 := ⟨qw1_59, qw1_1, qw1_60, by decide +kernel⟩
theorem okX4_numbersOf : okS yX4_numbersOf cX4_numbersOf 1 (.object "WeatherMast$Numbers") 1 := ⟨qw1_149, qw1_1, qw1_150, by decide +kernel⟩
theorem okX0_infinityOf : okS yX0_infinityOf cX0_infinityOf 2 .long 2 := ⟨qw1_183, qw1_11, qw1_184, by decide +kernel⟩
theorem okX4_step : okV RX4 yX4_step cX4_step 9 .int 3 := ⟨qw2_40, qw2_41, qw1_1, qw2_42, by decide +kernel⟩
theorem okX4_instrumentAt : okV RX4 yX4_instrumentAt cX4_instrumentAt 3 (.object "WeatherMast$Instrument") 1 := ⟨qw2_45, qs_1, qw1_1, qw2_46, by decide +kernel⟩
theorem okX4_takesK : okS yX4_takesK cX4_takesK 1 .boolean 1 := ⟨qw2_77, qw1_1, qw2_78, by decide +kernel⟩
theorem okX0_amount : okV RX0 yX0_amount cX0_amount 3 .long 1 := ⟨qw2_86, qw2_87, qw1_11, qw2_88, by decide +kernel⟩
theorem okX1_chainIsFull : okV RX1 yX1_chainIsFull cX1_chainIsFull 1 .boolean 0 := ⟨qw2_94, qw2_95, qw1_8, qw2_96, by decide +kernel⟩
theorem okX1_addStep : okV RX1 yX1_addStep cX1_addStep 5 .int 3 := ⟨qw2_114, qw2_115, qw1_8, qw2_116, by decide +kernel⟩
theorem okX4_follow : okV RX4 yX4_follow cX4_follow 6 .int 3 := ⟨qw2_122, qw2_123, qw1_1, qw2_124, by decide +kernel⟩
theorem okX4_read : okV RX4 yX4_read cX4_read 9 .long 2 := ⟨qw2_131, qw2_132, qw1_1, qw2_133, by decide +kernel⟩
theorem okX1_throughChain : okV RX1 yX1_throughChain cX1_throughChain 9 .long 1 := ⟨qw2_136, qw2_137, qw1_8, qw2_138, by decide +kernel⟩
theorem okX1_latestOrZero : okV RX1 yX1_latestOrZero cX1_latestOrZero 1 .long 0 := ⟨qw2_140, qw2_141, qw1_8, qw2_142, by decide +kernel⟩
theorem okX1_hasRead : okV RX1 yX1_hasRead cX1_hasRead 1 .boolean 0 := ⟨qw2_144, qw2_145, qw1_8, qw2_146, by decide +kernel⟩
theorem okX1_latest : okV RX1 yX1_latest cX1_latest 2 .long 1 := ⟨qw2_148, qw2_149, qw1_8, qw2_150, by decide +kernel⟩
theorem okX3_amount : okV RX3 yX3_amount cX3_amount 3 .long 1 := ⟨qw2_162, qw4_167, qw1_10, qw2_163, by decide +kernel⟩
theorem okX0_raised : okV RX0 yX0_raised cX0_raised 5 .long 1 := ⟨qw2_197, qs_2, qw1_11, qw2_198, by decide +kernel⟩
theorem okX0_cut : okV RX0 yX0_cut cX0_cut 4 .long 1 := ⟨qw2_201, qs_3, qw1_11, qw2_202, by decide +kernel⟩
theorem okX0_bitsBehindPoint : okV RX0 yX0_bitsBehindPoint cX0_bitsBehindPoint 3 .int 1 := ⟨qw2_205, qs_4, qw1_11, qw2_206, by decide +kernel⟩
theorem okX0_nextWhole : okV RX0 yX0_nextWhole cX0_nextWhole 5 .long 2 := ⟨qw2_209, qs_5, qw1_11, qw2_210, by decide +kernel⟩
theorem okX0_withSignOf : okV RX0 yX0_withSignOf cX0_withSignOf 5 .long 2 := ⟨qw2_213, qs_6, qw1_11, qw2_214, by decide +kernel⟩
theorem okX0_nearest : okV RX0 yX0_nearest cX0_nearest 11 .long 1 := ⟨qw2_217, qs_7, qw1_11, qw2_218, by decide +kernel⟩
theorem okX0_plus : okV RX0 yX0_plus cX0_plus 12 .long 2 := ⟨qw2_235, qw2_236, qw1_11, qw2_237, by decide +kernel⟩
theorem okJ9_max_f86c9 : okS yJ9_max_f86c9 cJ9_max_f86c9 4 .long 2 := ⟨qw2_239, qw1_14, qw3_0, by decide +kernel⟩
theorem okJ9_min_f86c9 : okS yJ9_min_f86c9 cJ9_min_f86c9 4 .long 2 := ⟨qw3_2, qw1_14, qw3_3, by decide +kernel⟩
theorem okX0_exponentOf : okV RX0 yX0_exponentOf cX0_exponentOf 3 .int 1 := ⟨qw3_6, qs_8, qw1_11, qw3_7, by decide +kernel⟩
theorem okX0_significandOf : okV RX0 yX0_significandOf cX0_significandOf 5 .long 1 := ⟨qw3_10, qs_9, qw1_11, qw3_11, by decide +kernel⟩
theorem okX0_shiftedRight : okS yX0_shiftedRight cX0_shiftedRight 6 .long 2 := ⟨qw3_13, qw1_11, qw3_14, by decide +kernel⟩
theorem okJ9_min_7cf53 : okS yJ9_min_7cf53 cJ9_min_7cf53 2 .int 2 := ⟨qw3_16, qw1_14, qw3_17, by decide +kernel⟩
theorem okX0_rounded : okV RX0 yX0_rounded cX0_rounded 8 .long 2 := ⟨qw3_20, qs_10, qw1_11, qw3_21, by decide +kernel⟩
theorem okX0_minus : okV RX0 yX0_minus cX0_minus 8 .long 2 := ⟨qw3_26, qs_11, qw1_11, qw3_27, by decide +kernel⟩
theorem okX1_isBeyondLimits : okV RX1 yX1_isBeyondLimits cX1_isBeyondLimits 3 .boolean 1 := ⟨qw3_41, qw3_42, qw1_8, qw3_43, by decide +kernel⟩
theorem okX4_reading : okV RX4 yX4_reading cX4_reading 4 .long 2 := ⟨qw3_64, qw3_65, qw1_1, qw3_66, by decide +kernel⟩
theorem okX1_keeps : okV RX1 yX1_keeps cX1_keeps 2 .boolean 1 := ⟨qw3_68, qw3_69, qw1_8, qw3_70, by decide +kernel⟩
theorem okX4_tell : okV RX4 yX4_tell cX4_tell 4 .long 2 := ⟨qw3_92, qw3_93, qw1_1, qw3_94, by decide +kernel⟩
theorem okX4_whole : okV RX4 yX4_whole cX4_whole 3 .int 1 := ⟨qw3_102, qw3_103, qw1_1, qw3_104, by decide +kernel⟩
theorem okX4_limits : okV RX4 yX4_limits cX4_limits 12 .boolean 3 := ⟨qw3_124, qw3_125, qw1_1, qw3_126, by decide +kernel⟩
theorem okX4_widest : okV RX4 yX4_widest cX4_widest 9 .long 1 := ⟨qw3_133, qw3_134, qw1_1, qw3_135, by decide +kernel⟩
theorem okX4_forget : okV RX4 yX4_forget cX4_forget 2 .int 1 := ⟨qw3_142, qw3_143, qw1_1, qw3_144, by decide +kernel⟩
theorem okX1_dropReadings : okV RX1 yX1_dropReadings cX1_dropReadings 2 .int 0 := ⟨qw3_146, qw3_147, qw1_8, qw3_148, by decide +kernel⟩
theorem okX4_alarms : okV RX4 yX4_alarms cX4_alarms 2 .int 1 := ⟨qw3_153, qw3_154, qw1_1, qw3_155, by decide +kernel⟩
theorem okX5_thrown : okV RX5 yX5_thrown cX5_thrown 1 .int 0 := ⟨qw3_221, qw3_222, qw1_2, qw3_223, by decide +kernel⟩
theorem okX5_mount : okV RX5 yX5_mount cX5_mount 3 .int 1 := ⟨qw3_225, qw3_226, qw1_2, qw3_227, by decide +kernel⟩
theorem okX5_fail : okV RX5 yX5_fail cX5_fail 2 .int 1 := ⟨qw3_230, qs_12, qw1_2, qw3_231, by decide +kernel⟩
theorem okX5_endless : okS yX5_endless cX5_endless 1 .long 1 := ⟨qw3_235, qw1_2, qw3_236, by decide +kernel⟩
theorem okX5_signed : okS yX5_signed cX5_signed 4 .long 3 := ⟨qw4_0, qw1_2, qw4_1, by decide +kernel⟩
theorem okX5_signBit : okS yX5_signBit cX5_signBit 1 .long 1 := ⟨qw4_3, qw1_2, qw4_4, by decide +kernel⟩
theorem okX5_cut : okS yX5_cut cX5_cut 3 .long 2 := ⟨qw4_7, qw1_2, qw4_8, by decide +kernel⟩
theorem okX5_step : okV RX5 yX5_step cX5_step 6 .int 3 := ⟨qw4_12, qw4_13, qw1_2, qw4_14, by decide +kernel⟩
theorem okX5_isInstrument : okV RX5 yX5_isInstrument cX5_isInstrument 2 .boolean 1 := ⟨qw4_17, qs_13, qw1_2, qw4_18, by decide +kernel⟩
theorem okX5_isStep : okS yX5_isStep cX5_isStep 2 .boolean 2 := ⟨qw4_20, qw1_2, qw4_21, by decide +kernel⟩
theorem okX5_isReal : okS yX5_isReal cX5_isReal 1 .boolean 1 := ⟨qw4_23, qw1_2, qw4_24, by decide +kernel⟩
theorem okX5_takes : okS yX5_takes cX5_takes 1 .boolean 1 := ⟨qw4_26, qw1_2, qw4_27, by decide +kernel⟩
theorem okX5_isNone : okS yX5_isNone cX5_isNone 3 .boolean 2 := ⟨qw4_29, qw1_2, qw4_30, by decide +kernel⟩
theorem okX5_amountBits : okS yX5_amountBits cX5_amountBits 3 .long 2 := ⟨qw4_32, qw1_2, qw4_33, by decide +kernel⟩
theorem okX5_form : okS yX5_form cX5_form 3 .long 2 := ⟨qw4_35, qw1_2, qw4_36, by decide +kernel⟩
theorem okX5_link : okV RX5 yX5_link cX5_link 7 .int 4 := ⟨qw4_41, qs_14, qw1_2, qw4_42, by decide +kernel⟩
theorem okX5_follow : okV RX5 yX5_follow cX5_follow 4 .int 3 := ⟨qw4_44, qw4_45, qw1_2, qw4_46, by decide +kernel⟩
theorem okX5_limits : okV RX5 yX5_limits cX5_limits 7 .boolean 3 := ⟨qw4_48, qw4_49, qw1_2, qw4_50, by decide +kernel⟩
theorem okX5_isAbove : okS yX5_isAbove cX5_isAbove 5 .boolean 3 := ⟨qw4_52, qw1_2, qw4_53, by decide +kernel⟩
theorem okX5_height : okS yX5_height cX5_height 3 .long 2 := ⟨qw4_55, qw1_2, qw4_56, by decide +kernel⟩
theorem okX5_rank : okS yX5_rank cX5_rank 5 .long 2 := ⟨qw4_58, qw1_2, qw4_59, by decide +kernel⟩
theorem okX5_isMinus : okS yX5_isMinus cX5_isMinus 3 .boolean 2 := ⟨qw4_61, qw1_2, qw4_62, by decide +kernel⟩
theorem okX5_read : okV RX5 yX5_read cX5_read 9 .long 2 := ⟨qw4_64, qw4_65, qw1_2, qw4_66, by decide +kernel⟩
theorem okX5_through : okV RX5 yX5_through cX5_through 9 .long 2 := ⟨qw4_69, qs_15, qw1_2, qw4_70, by decide +kernel⟩
theorem okX5_latest : okV RX5 yX5_latest cX5_latest 2 .long 1 := ⟨qw4_73, qs_16, qw1_2, qw4_74, by decide +kernel⟩
theorem okX5_changed : okS yX5_changed cX5_changed 6 .long 4 := ⟨qw4_76, qw1_2, qw4_77, by decide +kernel⟩
theorem okX5_amount : okS yX5_amount cX5_amount 3 .long 2 := ⟨qw4_79, qw1_2, qw4_80, by decide +kernel⟩
theorem okX5_greater : okS yX5_greater cX5_greater 5 .long 3 := ⟨qw4_82, qw1_2, qw4_83, by decide +kernel⟩
theorem okX5_lesser : okS yX5_lesser cX5_lesser 5 .long 3 := ⟨qw4_85, qw1_2, qw4_86, by decide +kernel⟩
theorem okX5_one : okS yX5_one cX5_one 1 .long 1 := ⟨qw4_88, qw1_2, qw4_89, by decide +kernel⟩
theorem okX5_toWhole : okS yX5_toWhole cX5_toWhole 16 .long 3 := ⟨qw4_93, qw1_2, qw4_94, by decide +kernel⟩
theorem okX5_places : okS yX5_places cX5_places 1 .int 1 := ⟨qw4_96, qw1_2, qw4_97, by decide +kernel⟩
theorem okX5_swing : okS yX5_swing cX5_swing 5 .long 3 := ⟨qw4_100, qw1_2, qw4_101, by decide +kernel⟩
theorem okX5_single : okS yX5_single cX5_single 2 .float 1 := ⟨qw4_103, qw1_2, qw4_104, by decide +kernel⟩
theorem okJxf58ca_floatToIntBits_5c35a : okS yJxf58ca_floatToIntBits_5c35a cJxf58ca_floatToIntBits_5c35a 1 .int 1 := ⟨qw4_109, qw1_16, qw4_110, by decide +kernel⟩
theorem okJxf58ca_isNaN_12338 : okS yJxf58ca_isNaN_12338 cJxf58ca_isNaN_12338 1 .boolean 1 := ⟨qw4_112, qw1_16, qw4_113, by decide +kernel⟩
theorem okX5_real : okS yX5_real cX5_real 2 .double 1 := ⟨qw4_119, qw1_2, qw4_120, by decide +kernel⟩
theorem okJxe99ae_doubleToLongBits_ccdee : okS yJxe99ae_doubleToLongBits_ccdee cJxe99ae_doubleToLongBits_ccdee 2 .long 1 := ⟨qw4_125, qw1_17, qw4_126, by decide +kernel⟩
theorem okJxe99ae_isNaN_b9ae7 : okS yJxe99ae_isNaN_b9ae7 cJxe99ae_isNaN_b9ae7 2 .boolean 1 := ⟨qw4_128, qw1_17, qw4_129, by decide +kernel⟩
theorem okX5_sum : okS yX5_sum cX5_sum 5 .long 3 := ⟨qw4_135, qw1_2, qw4_136, by decide +kernel⟩
theorem okX5_forget : okV RX5 yX5_forget cX5_forget 3 .int 1 := ⟨qw4_138, qw4_139, qw1_2, qw4_140, by decide +kernel⟩
theorem okX5_reading : okV RX5 yX5_reading cX5_reading 4 .long 2 := ⟨qw4_142, qw4_143, qw1_2, qw4_144, by decide +kernel⟩
theorem okX5_tell : okV RX5 yX5_tell cX5_tell 3 .long 2 := ⟨qw4_146, qw4_147, qw1_2, qw4_148, by decide +kernel⟩
theorem okX5_whole : okV RX5 yX5_whole cX5_whole 4 .int 1 := ⟨qw4_150, qw4_151, qw1_2, qw4_152, by decide +kernel⟩
theorem okX5_widest : okV RX5 yX5_widest cX5_widest 6 .long 1 := ⟨qw4_154, qw4_155, qw1_2, qw4_156, by decide +kernel⟩
theorem okX5_alarms : okV RX5 yX5_alarms cX5_alarms 2 .int 1 := ⟨qw4_158, qw4_159, qw1_2, qw4_160, by decide +kernel⟩
theorem okX5_count : okV RX5 yX5_count cX5_count 2 .int 1 := ⟨qw4_162, qw4_163, qw1_2, qw4_164, by decide +kernel⟩
theorem ou_X0_X2_X2_hasStep : okU RX0 RX2 yX2_hasStep yX2_hasStep cX2_hasStep 2 .boolean 1 := ⟨qw2_65, qw2_66, qw2_64, qw1_9, qw2_68, by decide +kernel, Or.inl rfl⟩
theorem ou_X3_X2_X2_hasStep : okU RX3 RX2 yX2_hasStep yX2_hasStep cX2_hasStep 2 .boolean 1 := ⟨qw2_65, qw2_67, qw2_64, qw1_9, qw2_68, by decide +kernel, Or.inl rfl⟩
theorem ou_X0_X2_X2_ofWidth : okU RX0 RX2 yX2_ofWidth yX2_ofWidth cX2_ofWidth 3 .long 1 := ⟨qw2_72, qw2_73, qw2_71, qw1_9, qw2_75, by decide +kernel, Or.inl rfl⟩
theorem ou_X3_X2_X2_ofWidth : okU RX3 RX2 yX2_ofWidth yX2_ofWidth cX2_ofWidth 3 .long 1 := ⟨qw2_72, qw2_74, qw2_71, qw1_9, qw2_75, by decide +kernel, Or.inl rfl⟩
theorem ou_X0_X2_X0_isNumber : okU RX0 RX2 ⟨"WeatherMast$Numbers", "isNumber", "(J)Z"⟩ yX0_isNumber cX0_isNumber 3 .boolean 1 := ⟨qw2_81, qw2_82, qw2_83, qw1_11, qw2_84, by decide +kernel, Or.inr (by decide +kernel)⟩
theorem ou_X3_X2_X3_isNumber : okU RX3 RX2 ⟨"WeatherMast$Numbers", "isNumber", "(J)Z"⟩ yX3_isNumber cX3_isNumber 3 .boolean 1 := ⟨qw2_81, qw2_89, qw2_90, qw1_10, qw2_91, by decide +kernel, Or.inr (by decide +kernel)⟩
theorem ou_X0_X2_X2_stepped : okU RX0 RX2 yX2_stepped yX2_stepped cX2_stepped 6 .long 3 := ⟨qw2_153, qw2_154, qw2_152, qw1_9, qw2_156, by decide +kernel, Or.inl rfl⟩
theorem ou_X3_X2_X2_stepped : okU RX3 RX2 yX2_stepped yX2_stepped cX2_stepped 6 .long 3 := ⟨qw2_153, qw2_155, qw2_152, qw1_9, qw2_156, by decide +kernel, Or.inl rfl⟩
theorem ou_X0_X2_X0_amount : okU RX0 RX2 ⟨"WeatherMast$Numbers", "amount", "(J)J"⟩ yX0_amount cX0_amount 3 .long 1 := ⟨qw2_159, qw2_160, qw2_86, qw1_11, qw2_88, by decide +kernel, Or.inr (by decide +kernel)⟩
theorem ou_X3_X2_X3_amount : okU RX3 RX2 ⟨"WeatherMast$Numbers", "amount", "(J)J"⟩ yX3_amount cX3_amount 3 .long 1 := ⟨qw2_159, qw2_161, qw2_162, qw1_10, qw2_163, by decide +kernel, Or.inr (by decide +kernel)⟩
theorem ou_X3_X3_X2_ofWidth : okU RX3 RX2 ⟨"WeatherMast$Wrapping", "ofWidth", "(J)J"⟩ yX2_ofWidth cX2_ofWidth 3 .long 1 := ⟨qw2_165, qw2_167, qw2_71, qw1_9, qw2_75, by decide +kernel, Or.inl rfl⟩
theorem ou_X0_X2_X2_greater : okU RX0 RX2 yX2_greater yX2_greater cX2_greater 5 .long 2 := ⟨qw2_170, qw2_171, qw2_169, qw1_9, qw2_173, by decide +kernel, Or.inl rfl⟩
theorem ou_X3_X2_X2_greater : okU RX3 RX2 yX2_greater yX2_greater cX2_greater 5 .long 2 := ⟨qw2_170, qw2_172, qw2_169, qw1_9, qw2_173, by decide +kernel, Or.inl rfl⟩
theorem ou_X0_X2_X0_rank : okU RX0 RX2 ⟨"WeatherMast$Numbers", "rank", "(J)J"⟩ yX0_rank cX0_rank 3 .long 1 := ⟨qw2_176, qw2_177, qw2_178, qw1_11, qw2_179, by decide +kernel, Or.inr (by decide +kernel)⟩
theorem ou_X3_X2_X3_rank : okU RX3 RX2 ⟨"WeatherMast$Numbers", "rank", "(J)J"⟩ yX3_rank cX3_rank 3 .long 1 := ⟨qw2_176, qw2_180, qw2_181, qw1_10, qw2_182, by decide +kernel, Or.inr (by decide +kernel)⟩
theorem ou_X0_X2_X2_lesser : okU RX0 RX2 yX2_lesser yX2_lesser cX2_lesser 5 .long 2 := ⟨qw2_185, qw2_186, qw2_184, qw1_9, qw2_188, by decide +kernel, Or.inl rfl⟩
theorem ou_X3_X2_X2_lesser : okU RX3 RX2 yX2_lesser yX2_lesser cX2_lesser 5 .long 2 := ⟨qw2_185, qw2_187, qw2_184, qw1_9, qw2_188, by decide +kernel, Or.inl rfl⟩
theorem ou_X0_X2_X0_furtherStepped : okU RX0 RX2 ⟨"WeatherMast$Numbers", "furtherStepped", "(IJJ)J"⟩ yX0_furtherStepped cX0_furtherStepped 8 .long 3 := ⟨qw2_191, qw2_192, qw2_193, qw1_11, qw2_194, by decide +kernel, Or.inr (by decide +kernel)⟩
theorem ou_X3_X2_X3_furtherStepped : okU RX3 RX2 ⟨"WeatherMast$Numbers", "furtherStepped", "(IJJ)J"⟩ yX3_furtherStepped cX3_furtherStepped 6 .long 3 := ⟨qw2_191, qw2_219, qw2_220, qw1_10, qw2_221, by decide +kernel, Or.inr (by decide +kernel)⟩
theorem ou_X0_X2_X0_apart : okU RX0 RX2 ⟨"WeatherMast$Numbers", "apart", "(JJ)J"⟩ yX0_apart cX0_apart 9 .long 2 := ⟨qw2_230, qw2_231, qw2_232, qw1_11, qw2_233, by decide +kernel, Or.inr (by decide +kernel)⟩
theorem ou_X3_X2_X3_apart : okU RX3 RX2 ⟨"WeatherMast$Numbers", "apart", "(JJ)J"⟩ yX3_apart cX3_apart 5 .long 2 := ⟨qw2_230, qw3_28, qw3_29, qw1_10, qw3_30, by decide +kernel, Or.inr (by decide +kernel)⟩
theorem ou_X0_X2_X0_plus : okU RX0 RX2 ⟨"WeatherMast$Numbers", "plus", "(JJ)J"⟩ yX0_plus cX0_plus 12 .long 2 := ⟨qw3_35, qw3_36, qw2_235, qw1_11, qw2_237, by decide +kernel, Or.inr (by decide +kernel)⟩
theorem ou_X3_X2_X3_plus : okU RX3 RX2 ⟨"WeatherMast$Numbers", "plus", "(JJ)J"⟩ yX3_plus cX3_plus 5 .long 2 := ⟨qw3_35, qw3_37, qw3_38, qw1_10, qw3_39, by decide +kernel, Or.inr (by decide +kernel)⟩
theorem ou_X0_X2_X2_isAbove : okU RX0 RX2 yX2_isAbove yX2_isAbove cX2_isAbove 5 .boolean 2 := ⟨qw3_46, qw3_47, qw3_45, qw1_9, qw3_49, by decide +kernel, Or.inl rfl⟩
theorem ou_X3_X2_X2_isAbove : okU RX3 RX2 yX2_isAbove yX2_isAbove cX2_isAbove 5 .boolean 2 := ⟨qw3_46, qw3_48, qw3_45, qw1_9, qw3_49, by decide +kernel, Or.inl rfl⟩
theorem ou_X0_X2_X0_level : okU RX0 RX2 ⟨"WeatherMast$Numbers", "level", "(J)J"⟩ yX0_level cX0_level 3 .long 1 := ⟨qw3_52, qw3_53, qw3_54, qw1_11, qw3_55, by decide +kernel, Or.inr (by decide +kernel)⟩
theorem ou_X3_X2_X3_level : okU RX3 RX2 ⟨"WeatherMast$Numbers", "level", "(J)J"⟩ yX3_level cX3_level 3 .long 1 := ⟨qw3_52, qw3_56, qw3_57, qw1_10, qw3_58, by decide +kernel, Or.inr (by decide +kernel)⟩
theorem ou_X0_X2_X0_toInt : okU RX0 RX2 ⟨"WeatherMast$Numbers", "toInt", "(J)I"⟩ yX0_toInt cX0_toInt 9 .int 1 := ⟨qw3_107, qw3_108, qw3_109, qw1_11, qw3_110, by decide +kernel, Or.inr (by decide +kernel)⟩
theorem ou_X3_X2_X3_toInt : okU RX3 RX2 ⟨"WeatherMast$Numbers", "toInt", "(J)I"⟩ yX3_toInt cX3_toInt 3 .int 1 := ⟨qw3_107, qw3_113, qw3_114, qw1_10, qw3_115, by decide +kernel, Or.inr (by decide +kernel)⟩
