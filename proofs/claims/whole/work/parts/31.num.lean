/-! THE NUMBERS OF AN INSTRUMENT: a Floating (f) or a Wrapping, of 64 bits (z) or 32 -/
def nE (f z : Bool) : va_E := match f with | true => .inr (0, flF z) | false => .inr (2, wrF z)
section NM
variable {p : Program} {l : Launch} {e : Env} {R : Room} {s : State} {m : MethodId} {args : Array Value} {below : List Frame} {meth : Method} {c : Code} {H : Heap} {locs : List Loc} {cells slots : Nat} {Q : State → Prop}
variable {cc : ByteArray} {pc nL index n : Nat} {ls : Array Slot} {st rest As : List Value} {D : mG} {own C : String} {y x : MethodName} {b : ByteArray} {o : Nat} {rm : Room} {ws w0 wr : va_W} {A : Nat → Prop} {Pic : Heap → Prop}
def gn_isNumber (f z : Bool) (x1 : Int64) : Int32 := match f with | true => fX0_isNumber z x1 | false => fX3_isNumber z x1
theorem kgn_isNumber {f z : Bool} {nb : Nat} (x1 : Int64) (G : CallFix p m c cc nL s args aw own) (hgf : GF D s) (hpic : va_at D.1 vwCl (nb, nE f z) H) (hl : Cond.methodLink own index ⟨"WeatherMast$Numbers", "isNumber", "(J)Z"⟩ ∈ aw) (hR : 1 + 1 ≤ R.frames ∧ 8 + (3 + 11) + 42 * 1 ≤ R.locals) (hcs : cells ≤ R.cells ∧ slots ≤ R.slots) (hls : ls.size = nL) (hrest : (rest.map fun v => v.category).sum ≤ 8) (hdg : decode cc pc = .ok (.invokevirtual index, 3))
    (kk : W p l e R s m args below meth c H locs cells slots Q (F0 m (pc + 3) ls (.int (gn_isNumber f z x1) :: rest))) : W p l e R s m args below meth c H locs cells slots Q (F0 m pc ls (.long x1 :: .ref nb :: rest)) := by
  cases f
  · exact kU (C := RX3) G (cvX3_isNumber l D nb z x1) ou_X3_X2_X3_isNumber hgf hpic (mw_recv hgf hpic rfl) hl ⟨by have := hR.1; omega, by have := hR.2; omega⟩ hcs hls hrest rfl hdg kk
  · exact kU (C := RX0) G (cvX0_isNumber l D nb z x1) ou_X0_X2_X0_isNumber hgf hpic (mw_recv hgf hpic rfl) hl ⟨by have := hR.1; omega, by have := hR.2; omega⟩ hcs hls hrest rfl hdg kk
def gn_amount (f z : Bool) (x1 : Int64) : Int64 := match f with | true => fX0_amount z x1 | false => fX3_amount z x1
theorem kgn_amount {f z : Bool} {nb : Nat} (x1 : Int64) (G : CallFix p m c cc nL s args aw own) (hgf : GF D s) (hpic : va_at D.1 vwCl (nb, nE f z) H) (hl : Cond.methodLink own index ⟨"WeatherMast$Numbers", "amount", "(J)J"⟩ ∈ aw) (hR : 1 + 1 ≤ R.frames ∧ 8 + (3 + 11) + 42 * 1 ≤ R.locals) (hcs : cells ≤ R.cells ∧ slots ≤ R.slots) (hls : ls.size = nL) (hrest : (rest.map fun v => v.category).sum ≤ 8) (hdg : decode cc pc = .ok (.invokevirtual index, 3))
    (kk : W p l e R s m args below meth c H locs cells slots Q (F0 m (pc + 3) ls (.long (gn_amount f z x1) :: rest))) : W p l e R s m args below meth c H locs cells slots Q (F0 m pc ls (.long x1 :: .ref nb :: rest)) := by
  cases f
  · exact kU (C := RX3) G (cvX3_amount l D nb z x1) ou_X3_X2_X3_amount hgf hpic (mw_recv hgf hpic rfl) hl ⟨by have := hR.1; omega, by have := hR.2; omega⟩ hcs hls hrest rfl hdg kk
  · exact kU (C := RX0) G (cvX0_amount l D nb z x1) ou_X0_X2_X0_amount hgf hpic (mw_recv hgf hpic rfl) hl ⟨by have := hR.1; omega, by have := hR.2; omega⟩ hcs hls hrest rfl hdg kk
def gn_plus (f z : Bool) (x1 : Int64) (x2 : Int64) : Int64 := match f with | true => fX0_plus z x1 x2 | false => fX3_plus z x1 x2
theorem kgn_plus {f z : Bool} {nb : Nat} (x1 : Int64) (x2 : Int64) (G : CallFix p m c cc nL s args aw own) (hgf : GF D s) (hpic : va_at D.1 vwCl (nb, nE f z) H) (hl : Cond.methodLink own index ⟨"WeatherMast$Numbers", "plus", "(JJ)J"⟩ ∈ aw) (hR : 2 + 1 ≤ R.frames ∧ 8 + (12 + 11) + 42 * 2 ≤ R.locals) (hcs : cells ≤ R.cells ∧ slots ≤ R.slots) (hls : ls.size = nL) (hrest : (rest.map fun v => v.category).sum ≤ 8) (hdg : decode cc pc = .ok (.invokevirtual index, 3))
    (kk : W p l e R s m args below meth c H locs cells slots Q (F0 m (pc + 3) ls (.long (gn_plus f z x1 x2) :: rest))) : W p l e R s m args below meth c H locs cells slots Q (F0 m pc ls (.long x2 :: .long x1 :: .ref nb :: rest)) := by
  cases f
  · exact kU (C := RX3) G (cvX3_plus l D nb z x1 x2) ou_X3_X2_X3_plus hgf hpic (mw_recv hgf hpic rfl) hl ⟨by have := hR.1; omega, by have := hR.2; omega⟩ hcs hls hrest rfl hdg kk
  · exact kU (C := RX0) G (cvX0_plus l D nb z x1 x2) ou_X0_X2_X0_plus hgf hpic (mw_recv hgf hpic rfl) hl ⟨by have := hR.1; omega, by have := hR.2; omega⟩ hcs hls hrest rfl hdg kk
def gn_apart (f z : Bool) (x1 : Int64) (x2 : Int64) : Int64 := match f with | true => fX0_apart z x1 x2 | false => fX3_apart z x1 x2
theorem kgn_apart {f z : Bool} {nb : Nat} (x1 : Int64) (x2 : Int64) (G : CallFix p m c cc nL s args aw own) (hgf : GF D s) (hpic : va_at D.1 vwCl (nb, nE f z) H) (hl : Cond.methodLink own index ⟨"WeatherMast$Numbers", "apart", "(JJ)J"⟩ ∈ aw) (hR : 3 + 1 ≤ R.frames ∧ 8 + (9 + 11) + 42 * 3 ≤ R.locals) (hcs : cells ≤ R.cells ∧ slots ≤ R.slots) (hls : ls.size = nL) (hrest : (rest.map fun v => v.category).sum ≤ 8) (hdg : decode cc pc = .ok (.invokevirtual index, 3))
    (kk : W p l e R s m args below meth c H locs cells slots Q (F0 m (pc + 3) ls (.long (gn_apart f z x1 x2) :: rest))) : W p l e R s m args below meth c H locs cells slots Q (F0 m pc ls (.long x2 :: .long x1 :: .ref nb :: rest)) := by
  cases f
  · exact kU (C := RX3) G (cvX3_apart l D nb z x1 x2) ou_X3_X2_X3_apart hgf hpic (mw_recv hgf hpic rfl) hl ⟨by have := hR.1; omega, by have := hR.2; omega⟩ hcs hls hrest rfl hdg kk
  · exact kU (C := RX0) G (cvX0_apart l D nb z x1 x2) ou_X0_X2_X0_apart hgf hpic (mw_recv hgf hpic rfl) hl ⟨by have := hR.1; omega, by have := hR.2; omega⟩ hcs hls hrest rfl hdg kk
def gn_toInt (f z : Bool) (x1 : Int64) : Int32 := match f with | true => fX0_toInt z x1 | false => fX3_toInt z x1
theorem kgn_toInt {f z : Bool} {nb : Nat} (x1 : Int64) (G : CallFix p m c cc nL s args aw own) (hgf : GF D s) (hpic : va_at D.1 vwCl (nb, nE f z) H) (hl : Cond.methodLink own index ⟨"WeatherMast$Numbers", "toInt", "(J)I"⟩ ∈ aw) (hR : 1 + 1 ≤ R.frames ∧ 8 + (9 + 11) + 42 * 1 ≤ R.locals) (hcs : cells ≤ R.cells ∧ slots ≤ R.slots) (hls : ls.size = nL) (hrest : (rest.map fun v => v.category).sum ≤ 8) (hdg : decode cc pc = .ok (.invokevirtual index, 3))
    (kk : W p l e R s m args below meth c H locs cells slots Q (F0 m (pc + 3) ls (.int (gn_toInt f z x1) :: rest))) : W p l e R s m args below meth c H locs cells slots Q (F0 m pc ls (.long x1 :: .ref nb :: rest)) := by
  cases f
  · exact kU (C := RX3) G (cvX3_toInt l D nb z x1) ou_X3_X2_X3_toInt hgf hpic (mw_recv hgf hpic rfl) hl ⟨by have := hR.1; omega, by have := hR.2; omega⟩ hcs hls hrest rfl hdg kk
  · exact kU (C := RX0) G (cvX0_toInt l D nb z x1) ou_X0_X2_X0_toInt hgf hpic (mw_recv hgf hpic rfl) hl ⟨by have := hR.1; omega, by have := hR.2; omega⟩ hcs hls hrest rfl hdg kk
def gn_stepped (f z : Bool) (x1 : Int32) (x2 : Int64) (x3 : Int64) : Int64 := match f with | true => fX2_stepped_f z x1 x2 x3 | false => fX2_stepped_w z x1 x2 x3
theorem kgn_stepped {f z : Bool} {nb : Nat} (x1 : Int32) (x2 : Int64) (x3 : Int64) (G : CallFix p m c cc nL s args aw own) (hgf : GF D s) (hpic : va_at D.1 vwCl (nb, nE f z) H) (hl : Cond.methodLink own index yX2_stepped ∈ aw) (hR : 4 + 1 ≤ R.frames ∧ 8 + (6 + 11) + 42 * 4 ≤ R.locals) (hcs : cells ≤ R.cells ∧ slots ≤ R.slots) (hls : ls.size = nL) (hrest : (rest.map fun v => v.category).sum ≤ 8) (hdg : decode cc pc = .ok (.invokevirtual index, 3))
    (kk : W p l e R s m args below meth c H locs cells slots Q (F0 m (pc + 3) ls (.long (gn_stepped f z x1 x2 x3) :: rest))) : W p l e R s m args below meth c H locs cells slots Q (F0 m pc ls (.long x3 :: .long x2 :: .int x1 :: .ref nb :: rest)) := by
  cases f
  · exact kU (C := RX3) G (cvX2_stepped_w l D nb z x1 x2 x3) ou_X3_X2_X2_stepped hgf hpic (mw_recv hgf hpic rfl) hl ⟨by have := hR.1; omega, by have := hR.2; omega⟩ hcs hls hrest rfl hdg kk
  · exact kU (C := RX0) G (cvX2_stepped_f l D nb z x1 x2 x3) ou_X0_X2_X2_stepped hgf hpic (mw_recv hgf hpic rfl) hl ⟨by have := hR.1; omega, by have := hR.2; omega⟩ hcs hls hrest rfl hdg kk
def gn_ofWidth (f z : Bool) (x1 : Int64) : Int64 := match f with | true => fX2_ofWidth_f z x1 | false => fX2_ofWidth_w z x1
theorem kgn_ofWidth {f z : Bool} {nb : Nat} (x1 : Int64) (G : CallFix p m c cc nL s args aw own) (hgf : GF D s) (hpic : va_at D.1 vwCl (nb, nE f z) H) (hl : Cond.methodLink own index yX2_ofWidth ∈ aw) (hR : 0 + 1 ≤ R.frames ∧ 8 + (3 + 11) + 42 * 0 ≤ R.locals) (hcs : cells ≤ R.cells ∧ slots ≤ R.slots) (hls : ls.size = nL) (hrest : (rest.map fun v => v.category).sum ≤ 8) (hdg : decode cc pc = .ok (.invokevirtual index, 3))
    (kk : W p l e R s m args below meth c H locs cells slots Q (F0 m (pc + 3) ls (.long (gn_ofWidth f z x1) :: rest))) : W p l e R s m args below meth c H locs cells slots Q (F0 m pc ls (.long x1 :: .ref nb :: rest)) := by
  cases f
  · exact kU (C := RX3) G (cvX2_ofWidth_w l D nb z x1) ou_X3_X2_X2_ofWidth hgf hpic (mw_recv hgf hpic rfl) hl ⟨by have := hR.1; omega, by have := hR.2; omega⟩ hcs hls hrest rfl hdg kk
  · exact kU (C := RX0) G (cvX2_ofWidth_f l D nb z x1) ou_X0_X2_X2_ofWidth hgf hpic (mw_recv hgf hpic rfl) hl ⟨by have := hR.1; omega, by have := hR.2; omega⟩ hcs hls hrest rfl hdg kk
def gn_hasStep (f z : Bool) (x1 : Int32) : Int32 := match f with | true => fX2_hasStep_f z x1 | false => fX2_hasStep_w z x1
theorem kgn_hasStep {f z : Bool} {nb : Nat} (x1 : Int32) (G : CallFix p m c cc nL s args aw own) (hgf : GF D s) (hpic : va_at D.1 vwCl (nb, nE f z) H) (hl : Cond.methodLink own index yX2_hasStep ∈ aw) (hR : 0 + 1 ≤ R.frames ∧ 8 + (2 + 11) + 42 * 0 ≤ R.locals) (hcs : cells ≤ R.cells ∧ slots ≤ R.slots) (hls : ls.size = nL) (hrest : (rest.map fun v => v.category).sum ≤ 8) (hdg : decode cc pc = .ok (.invokevirtual index, 3))
    (kk : W p l e R s m args below meth c H locs cells slots Q (F0 m (pc + 3) ls (.int (gn_hasStep f z x1) :: rest))) : W p l e R s m args below meth c H locs cells slots Q (F0 m pc ls (.int x1 :: .ref nb :: rest)) := by
  cases f
  · exact kU (C := RX3) G (cvX2_hasStep_w l D nb z x1) ou_X3_X2_X2_hasStep hgf hpic (mw_recv hgf hpic rfl) hl ⟨by have := hR.1; omega, by have := hR.2; omega⟩ hcs hls hrest rfl hdg kk
  · exact kU (C := RX0) G (cvX2_hasStep_f l D nb z x1) ou_X0_X2_X2_hasStep hgf hpic (mw_recv hgf hpic rfl) hl ⟨by have := hR.1; omega, by have := hR.2; omega⟩ hcs hls hrest rfl hdg kk
def gn_greater (f z : Bool) (x1 : Int64) (x2 : Int64) : Int64 := match f with | true => fX2_greater_f z x1 x2 | false => fX2_greater_w z x1 x2
theorem kgn_greater {f z : Bool} {nb : Nat} (x1 : Int64) (x2 : Int64) (G : CallFix p m c cc nL s args aw own) (hgf : GF D s) (hpic : va_at D.1 vwCl (nb, nE f z) H) (hl : Cond.methodLink own index yX2_greater ∈ aw) (hR : 2 + 1 ≤ R.frames ∧ 8 + (5 + 11) + 42 * 2 ≤ R.locals) (hcs : cells ≤ R.cells ∧ slots ≤ R.slots) (hls : ls.size = nL) (hrest : (rest.map fun v => v.category).sum ≤ 8) (hdg : decode cc pc = .ok (.invokevirtual index, 3))
    (kk : W p l e R s m args below meth c H locs cells slots Q (F0 m (pc + 3) ls (.long (gn_greater f z x1 x2) :: rest))) : W p l e R s m args below meth c H locs cells slots Q (F0 m pc ls (.long x2 :: .long x1 :: .ref nb :: rest)) := by
  cases f
  · exact kU (C := RX3) G (cvX2_greater_w l D nb z x1 x2) ou_X3_X2_X2_greater hgf hpic (mw_recv hgf hpic rfl) hl ⟨by have := hR.1; omega, by have := hR.2; omega⟩ hcs hls hrest rfl hdg kk
  · exact kU (C := RX0) G (cvX2_greater_f l D nb z x1 x2) ou_X0_X2_X2_greater hgf hpic (mw_recv hgf hpic rfl) hl ⟨by have := hR.1; omega, by have := hR.2; omega⟩ hcs hls hrest rfl hdg kk
def gn_lesser (f z : Bool) (x1 : Int64) (x2 : Int64) : Int64 := match f with | true => fX2_lesser_f z x1 x2 | false => fX2_lesser_w z x1 x2
theorem kgn_lesser {f z : Bool} {nb : Nat} (x1 : Int64) (x2 : Int64) (G : CallFix p m c cc nL s args aw own) (hgf : GF D s) (hpic : va_at D.1 vwCl (nb, nE f z) H) (hl : Cond.methodLink own index yX2_lesser ∈ aw) (hR : 2 + 1 ≤ R.frames ∧ 8 + (5 + 11) + 42 * 2 ≤ R.locals) (hcs : cells ≤ R.cells ∧ slots ≤ R.slots) (hls : ls.size = nL) (hrest : (rest.map fun v => v.category).sum ≤ 8) (hdg : decode cc pc = .ok (.invokevirtual index, 3))
    (kk : W p l e R s m args below meth c H locs cells slots Q (F0 m (pc + 3) ls (.long (gn_lesser f z x1 x2) :: rest))) : W p l e R s m args below meth c H locs cells slots Q (F0 m pc ls (.long x2 :: .long x1 :: .ref nb :: rest)) := by
  cases f
  · exact kU (C := RX3) G (cvX2_lesser_w l D nb z x1 x2) ou_X3_X2_X2_lesser hgf hpic (mw_recv hgf hpic rfl) hl ⟨by have := hR.1; omega, by have := hR.2; omega⟩ hcs hls hrest rfl hdg kk
  · exact kU (C := RX0) G (cvX2_lesser_f l D nb z x1 x2) ou_X0_X2_X2_lesser hgf hpic (mw_recv hgf hpic rfl) hl ⟨by have := hR.1; omega, by have := hR.2; omega⟩ hcs hls hrest rfl hdg kk
def gn_isAbove (f z : Bool) (x1 : Int64) (x2 : Int64) : Int32 := match f with | true => fX2_isAbove_f z x1 x2 | false => fX2_isAbove_w z x1 x2
theorem kgn_isAbove {f z : Bool} {nb : Nat} (x1 : Int64) (x2 : Int64) (G : CallFix p m c cc nL s args aw own) (hgf : GF D s) (hpic : va_at D.1 vwCl (nb, nE f z) H) (hl : Cond.methodLink own index yX2_isAbove ∈ aw) (hR : 2 + 1 ≤ R.frames ∧ 8 + (5 + 11) + 42 * 2 ≤ R.locals) (hcs : cells ≤ R.cells ∧ slots ≤ R.slots) (hls : ls.size = nL) (hrest : (rest.map fun v => v.category).sum ≤ 8) (hdg : decode cc pc = .ok (.invokevirtual index, 3))
    (kk : W p l e R s m args below meth c H locs cells slots Q (F0 m (pc + 3) ls (.int (gn_isAbove f z x1 x2) :: rest))) : W p l e R s m args below meth c H locs cells slots Q (F0 m pc ls (.long x2 :: .long x1 :: .ref nb :: rest)) := by
  cases f
  · exact kU (C := RX3) G (cvX2_isAbove_w l D nb z x1 x2) ou_X3_X2_X2_isAbove hgf hpic (mw_recv hgf hpic rfl) hl ⟨by have := hR.1; omega, by have := hR.2; omega⟩ hcs hls hrest rfl hdg kk
  · exact kU (C := RX0) G (cvX2_isAbove_f l D nb z x1 x2) ou_X0_X2_X2_isAbove hgf hpic (mw_recv hgf hpic rfl) hl ⟨by have := hR.1; omega, by have := hR.2; omega⟩ hcs hls hrest rfl hdg kk
end NM
/-! CONTRACTS WITH A PICTURE of the start heap -/
def mPz (D : mG) (w0 : va_W) (Pic : Heap → Prop) (sz : Nat) : State → Prop := fun U => mPq D w0 sz U ∧ Pic U.heap
def cZ (l : Launch) (D : mG) (y : MethodName) (b : ByteArray) (n : Nat) (ret : Option FieldType) (rm : Room) (w0 : va_W) (Pic : Heap → Prop) (As : List Value) {S : Type} (v : S → Option Value) (w1 : S → va_W) : Prop :=
  ∀ sz : Nat, Met l y (.code y b n ret :: aw) rm (va_Pc As (mPz D w0 Pic sz)) (mQE D v w1 (va_A w0 sz)) rm.cells rm.slots (va_A w0 sz)
theorem mPz.blind {D : mG} {w0 : va_W} {Pic : Heap → Prop} {sz : Nat} {As : List Value} : FrameBlind (va_Pc As (mPz D w0 Pic sz)) := fun a U g mk q => ⟨q.1, ⟨q.2.1.1, GF.calling g mk a q.2.1.2.1, q.2.1.2.2⟩, q.2.2⟩
theorem cZ_of {l : Launch} {D : mG} {y : MethodName} {b : ByteArray} {n : Nat} {ret : Option FieldType} {rm : Room} {w0 : va_W} {Pic : Heap → Prop} {As : List Value} {S : Type} {v : S → Option Value} {w1 : S → va_W} (hy : plainName y.cls = true) (hn : (lg_sl As).length ≤ n)
    (body : ∀ (p : Program) (e : Env) (s : State) (m : MethodId) (below : List Frame) (meth : Method) (c : Code) (ls : Array Slot) (A : Nat → Prop), p.tables.exec = Jvm.exec → c.code = b → meth.sig.returnType = ret → meth.locks = false → CallFix p m c b n s As.toArray aw y.cls → meth.name = y.name → GF D s → (∀ q : Nat, s.heap.size ≤ q → A q) → Pic s.heap → va_P D.1 vwCl w0 s.heap → va_D A w0 → va_S A s.heap s.heap [] → lv_has ls n (lv_args 0 As) →
      W p l e rm s m As.toArray below meth c s.heap [] 0 0 (MQ below (mQE D v w1 A) As.toArray s rm.cells rm.slots A) (F0 m 0 ls [])) : cZ l D y b n ret rm w0 Pic As v w1 := by
  intro sz
  refine Met.ofW (cc := b) (maxL := n) (ret := ret) hy rfl ?_
  intro p e s m args below meth c s₁ B hml hv
  obtain ⟨rfl, ⟨hsz, hg, hP, hD⟩, hpic⟩ := hv
  have hts := atoms_spec (ws := .code y b n ret :: aw) B.pre
  rw [lg_entry_eq, ← hsz]
  exact body p e s m below meth c _ (va_A w0 s.heap.size) B.exec B.bytes B.returns B.notSynchronized ⟨B.exec, B.bytes, hml, findClass_of_methodNamed B.named, fun w h => hts w (List.mem_cons_of_mem _ h)⟩ (name_of_methodNamed B.named B.method).1 hg (fun q h => Or.inr h) hpic hP hD.self va_S.rf (lv_entry As hn)
/-- a method of an object, of any answer -/
def okO (C : String) (y : MethodName) (b : ByteArray) (n : Nat) (ret : Option FieldType) (na : Nat) : Prop := Cond.instanceMethod y ∈ aw ∧ Cond.selects C y y ∈ aw ∧ Cond.initialized C ∈ aw ∧ Cond.code y b n ret ∈ aw ∧ (y.cls = C ∧ y.cls ≠ "java/lang/invoke/MethodHandle" ∧ y.cls ≠ "java/lang/invoke/VarHandle" ∧ (parseMethodDescriptor y.desc).map (fun d => d.parameters.length) = some na)
section MZ
variable {p : Program} {l : Launch} {e : Env} {R : Room} {s : State} {m : MethodId} {args : Array Value} {below : List Frame} {meth : Method} {c : Code} {H : Heap} {locs : List Loc} {cells slots : Nat} {Q : State → Prop}
variable {cc : ByteArray} {pc nL index n : Nat} {ls : Array Slot} {st rest As : List Value} {D : mG} {own C : String} {y x : MethodName} {b : ByteArray} {o : Nat} {rm : Room} {ws w0 wr : va_W} {A : Nat → Prop} {Pic : Heap → Prop}
variable {ret : Option FieldType} {S : Type} {ov : S → Option Value} {w1 : S → va_W}
theorem mw_preZ (hgf : GF D s) (hP : va_P D.1 vwCl ws H) (hD : va_D A ws) (isC : List Nat) (hnd : va_nd isC = true) (hC : isC.map (fun i => ws[i]?) = w0.map some) (hpic : Pic H) (U : State) (hU : U.heap = H) (hW : s.WarmedH U.vm) : va_Pc As (mPz D w0 Pic H.size) As.toArray U :=
  ⟨rfl, (mw_preQ (As := As) hgf hP hD isC hnd hC U hU hW).2, by rw [hU]; exact hpic⟩
theorem kZ (G : CallFix p m c cc nL s args aw own) (hM : cZ l D y b n ret rm w0 Pic (.ref o :: As) ov w1) (hok : okO C y b n ret As.length) (hgf : GF D s) (hP : va_P D.1 vwCl ws H) (hD : va_D A ws) (hS : va_S A s.heap H locs) (hA : ∀ q, s.heap.size ≤ q → A q) (hpic : Pic H)
    (isC isR : List Nat) (hnd : va_nd isC = true) (hC : isC.map (fun i => ws[i]?) = w0.map some) (hRr : isR.map (fun i => ws[i]?) = wr.map some) (hn : va_nd isR = true) (hdis : ∀ i ∈ isR, i ∉ isC)
    (hrc : ∃ cell : Cell, H[o]? = some cell ∧ cell.vm.isStatics = false ∧ s.vm.findClass C = some cell.cls) (hl : Cond.methodLink own index y ∈ aw) (hR : rm.frames + 1 ≤ R.frames ∧ 8 + (n + 11) + rm.locals ≤ R.locals) (hcs : cells + rm.cells ≤ R.cells ∧ slots + rm.slots ≤ R.slots) (hls : ls.size = nL) (hrest : (rest.map fun v => v.category).sum ≤ 8)
    (hst : st = As.reverse ++ .ref o :: rest) (hdg : decode cc pc = .ok (.invokevirtual index, 3))
    (kk : ∀ (u : S) (H1 : Heap) (locs1 : List Loc), va_P D.1 vwCl (wr ++ w1 u) H1 → va_D A (wr ++ w1 u) → va_S A s.heap H1 locs1 → W p l e R s m args below meth c H1 locs1 (cells + rm.cells) (slots + rm.slots) Q (F0 m (pc + 3) ls ((ov u).toList ++ rest))) : W p l e R s m args below meth c H locs cells slots Q (F0 m pc ls st) := by
  obtain ⟨h1, h2, h3, h4, hd⟩ := hok
  refine mw_callE (va_runV (As := As) (rest := rest) G (hM H.size) (cwV As.length G.2.2.2.2 (aw_gl (fun w h => ?_)) rfl rfl rfl hd hR) ⟨mPz.blind, hrc, fun U hU hW => mw_preZ hgf hP hD isC hnd hC hpic U hU hW⟩ rfl rfl hls hst (lv_room hrest) hdg hcs) hP hD hS hA isC isR hC hRr hn hdis kk
  simp only [wsV, List.mem_append, List.mem_cons, List.not_mem_nil, or_false] at h
  rcases h with (rfl | rfl | rfl | rfl) | rfl | h
  · exact hl
  · exact h1
  · exact h2
  · exact h3
  · exact h4
  · exact h
theorem mE_iret {v : S → Option Value} {x : Int32} (u : S) (hv : v u = some (.int x)) (hx : p.tables.exec = Jvm.exec) (hb : c.code = cc) (hr : meth.sig.returnType = some .int) (hlocks : meth.locks = false) (hP : va_P D.1 vwCl (w1 u) H) (hD : va_D A (w1 u)) (hS : va_S A s.heap H locs) (hdg : decode cc pc = .ok (.ireturn, 1)) : W p l e R s m args below meth c H locs cells slots (MQ below (mQE D v w1 A) args s cells slots A) (F0 m pc ls [.int x]) :=
  W.iret hx hb hr (fun t ht _ => ⟨⟨u, by rw [hv], by rw [ht]; exact hP, hD⟩, hS.F ht⟩) hS.2.2 hdg hlocks
theorem mE_zret {v : S → Option Value} {x : Int32} (u : S) (hv : v u = some (.int x)) (hx : p.tables.exec = Jvm.exec) (hb : c.code = cc) (hr : meth.sig.returnType = some .boolean) (hlocks : meth.locks = false) (hn : x = 0 ∨ x = 1) (hP : va_P D.1 vwCl (w1 u) H) (hD : va_D A (w1 u)) (hS : va_S A s.heap H locs) (hdg : decode cc pc = .ok (.ireturn, 1)) : W p l e R s m args below meth c H locs cells slots (MQ below (mQE D v w1 A) args s cells slots A) (F0 m pc ls [.int x]) :=
  W.zret hx hb hr (by rcases hn with rfl | rfl <;> decide) (fun t ht _ => ⟨⟨u, by rw [hv], by rw [ht]; exact hP, hD⟩, hS.F ht⟩) hS.2.2 hdg hlocks
theorem mE_lret {v : S → Option Value} {x : Int64} (u : S) (hv : v u = some (.long x)) (hx : p.tables.exec = Jvm.exec) (hb : c.code = cc) (hr : meth.sig.returnType = some .long) (hlocks : meth.locks = false) (hP : va_P D.1 vwCl (w1 u) H) (hD : va_D A (w1 u)) (hS : va_S A s.heap H locs) (hdg : decode cc pc = .ok (.lreturn, 1)) : W p l e R s m args below meth c H locs cells slots (MQ below (mQE D v w1 A) args s cells slots A) (F0 m pc ls [.long x]) :=
  W.lret hx hb hr (fun t ht _ => ⟨⟨u, by rw [hv], by rw [ht]; exact hP, hD⟩, hS.F ht⟩) hS.2.2 hdg hlocks
theorem mw_aret {a : Nat} {cn : String} (hx : p.tables.exec = Jvm.exec) (hb : c.code = cc) (hr : meth.sig.returnType = some (.object cn)) (hlocks : meth.locks = false) (hdg : decode cc pc = .ok (.areturn, 1)) : W p l e R s m args below meth c s.heap [] 0 0 (MQ below (mS (.ref a)) args s 0 0 (fun _ => False)) (F0 m pc ls [.ref a]) :=
  W.aret hx hb hr (Or.inl ⟨cn, rfl⟩) (Or.inr ⟨a, rfl⟩) (fun t ht _ => ⟨rfl, ht⟩) (fun _ h => by cases h) hdg hlocks
theorem mw_aast {a n v : Nat} {r : vw_C} {vs : List Value} {ci : Nat} {f : Nat → Option Nat} {j : Int32} {w1 : va_W} (G : CallFix p m c cc nL s args aw own) (hgf : GF D s) (hP : va_P D.1 vwCl ws H) (hD : va_D A ws) (hS : va_S A s.heap H locs) (q0 qk : Nat) (he : ws[q0]? = some (a, .inl (D.2.2.2, n, .inr (.inr (.inr (.inr f)))))) (hv : ws[qk]? = some (v, .inr (ci, vs))) (hc : vwCl[ci]? = some r) (hr : r.1 = RX1) (hin : vp_in j n) (hw : ws.set q0 (a, .inl (D.2.2.2, n, .inr (.inr (.inr (.inr (va_up f j.toNatClampNeg (some v))))))) = w1) (hdg : decode cc pc = .ok (.aastore, 1))
    (kk : ∀ (H1 : Heap) (locs1 : List Loc), va_P D.1 vwCl w1 H1 → va_D A w1 → va_S A s.heap H1 locs1 → W p l e R s m args below meth c H1 locs1 cells slots Q (F0 m (pc + 1) ls rest)) : W p l e R s m args below meth c H locs cells slots Q (F0 m pc ls (.ref v :: .int j :: .ref a :: rest)) := by
  subst hw
  exact va_astq G.1 G.2.1 hgf.K hP hD hS q0 2 qk ci he (by rw [hr]; rfl) hv hc hin hdg kk
theorem mw_aastN {a n : Nat} {f : Nat → Option Nat} {j : Int32} {w1 : va_W} (G : CallFix p m c cc nL s args aw own) (hgf : GF D s) (hP : va_P D.1 vwCl ws H) (hD : va_D A ws) (hS : va_S A s.heap H locs) (q0 : Nat) (he : ws[q0]? = some (a, .inl (D.2.2.2, n, .inr (.inr (.inr (.inr f)))))) (hin : vp_in j n) (hw : ws.set q0 (a, .inl (D.2.2.2, n, .inr (.inr (.inr (.inr (va_up f j.toNatClampNeg none)))))) = w1) (hdg : decode cc pc = .ok (.aastore, 1))
    (kk : ∀ (H1 : Heap) (locs1 : List Loc), va_P D.1 vwCl w1 H1 → va_D A w1 → va_S A s.heap H1 locs1 → W p l e R s m args below meth c H1 locs1 cells slots Q (F0 m (pc + 1) ls rest)) : W p l e R s m args below meth c H locs cells slots Q (F0 m pc ls (.null :: .int j :: .ref a :: rest)) := by
  subst hw
  exact va_astqN G.1 G.2.1 hgf.K hP hD hS q0 2 he rfl hin hdg kk
end MZ
theorem in16 (x : Int32) : vp_in (x &&& 15) 16 := by
  have h1 : (x &&& 15).toInt = ((x.toBitVec &&& 15#32).toNat : Int) := by
    show (x.toBitVec &&& 15#32).toInt = _
    rw [BitVec.toInt_eq_toNat_of_lt]
    rw [BitVec.toNat_and]
    have := Nat.and_le_right (n := x.toBitVec.toNat) (m := (15#32).toNat)
    have : (15#32).toNat = 15 := rfl
    omega
  have h2 : (x.toBitVec &&& 15#32).toNat ≤ 15 := by
    rw [BitVec.toNat_and]
    exact Nat.and_le_right (n := x.toBitVec.toNat) (m := (15#32).toNat)
  rintro (h | h)
  · rw [Int32.lt_iff_toInt_lt, h1, Int32.toInt_zero] at h
    omega
  · have h3 : (x &&& 15).toNatClampNeg = (x &&& 15).toInt.toNat := rfl
    rw [h3, h1] at h
    omega
