/-! A WORLD THAT GROWS: mount -/
theorem cE.grow {l : Launch} {D : mG} {y : MethodName} {b : ByteArray} {n : Nat} {ret : Option FieldType} {rm : Room} {w0 : va_W} {As : List Value} {S : Type} {v : S → Option Value} {w1 : S → va_W} (h : cE l D y b n ret rm w0 As v w1) {rest : va_W} {wa wb : S → va_W} (hw : ∀ u, w1 u = wa u ++ wb u) : cZ l D y b n ret rm (w0 ++ rest) (fun _ => True) As v (fun u => (wa u ++ rest) ++ wb u) := by
  intro sz p e ha hc hk s m args below hf happ hP hK
  obtain ⟨rfl, ⟨hsz, hg, hPW, hDW⟩, -⟩ := hP
  have hl : ∀ (k : Nat) (q : Nat × va_E), w0[k]? = some q → (w0 ++ rest)[k]? = some q := fun k q hk => by rw [List.getElem?_append_left (List.getElem?_eq_some_iff.mp hk).1]; exact hk
  have hr : ∀ (k : Nat) (q : Nat × va_E), rest[k]? = some q → (w0 ++ rest)[w0.length + k]? = some q := fun k q hk => by rw [List.getElem?_append_right (by omega), Nat.add_sub_cancel_left]; exact hk
  have hP0 : va_P D.1 vwCl w0 s.heap := fun k q hk => hPW k q (hl k q hk)
  have hD0 : va_D (fun _ => True) w0 := ⟨fun i j a c h1 h2 h3 => hDW.1 i j a c (hl i a h1) (hl j c h2) h3, fun _ _ _ => trivial⟩
  have hwide : ∀ q, va_A w0 sz q → va_A (w0 ++ rest) sz q := by
    rintro q (⟨k, e, h⟩ | h)
    · exact Or.inl ⟨k, e, hl k _ h⟩
    · exact Or.inr h
  have hnot : ∀ (k : Nat) (q : Nat × va_E), rest[k]? = some q → ¬ va_A w0 sz q.1 := by
    rintro k q hk (⟨k', e, h⟩ | h)
    · have h1 := hDW.1 k' (w0.length + k) _ _ (hl k' _ h) (hr k q hk) rfl
      have h2 := (List.getElem?_eq_some_iff.mp h).1
      omega
    · exact absurd ((hPW _ q (hr k q hk)).lt) (by rw [hsz]; exact Nat.not_lt.mpr h)
  obtain ⟨k, o, h1, h2, h3, ⟨⟨u, e1, e2, e3⟩, hF⟩, L, h6, h7⟩ := h sz p e ha hc hk s m _ below hf happ ⟨rfl, hsz, hg, hP0, hD0⟩ hK
  rw [hw u] at e2 e3
  refine ⟨k, o, h1, h2, h3, ⟨⟨u, e1, ?_, ?_⟩, hF.1, fun q q1 q2 => hF.2 q q1 (fun z => q2 (hwide q z))⟩, L, h6, fun q hq => hwide _ (h7 q hq)⟩
  · have hR : va_P D.1 vwCl rest _ := fun k q hk => (hPW _ q (hr k q hk)).kept (hF.2 q.1 (hPW _ q (hr k q hk)).lt (hnot k q hk))
    exact (va_P.app e2 hR).swap
  · have hDr : va_D (va_A (w0 ++ rest) sz) rest := ⟨fun i j a c g1 g2 g3 => by have := hDW.1 _ _ a c (hr i a g1) (hr j c g2) g3; omega, fun k q hk => va_A.in (hr k q hk)⟩
    have h9 : va_D (va_A (w0 ++ rest) sz) (wa u ++ wb u) := e3.weaken (fun k q _ hq => hwide _ hq)
    exact (va_D.app h9 hDr (fun i j a c g1 g2 g3 => hnot j c g2 (by rw [← g3]; exact e3.2 i a g1))).swap
/-- what the reference holds of instruments that aren't there yet -/
def fresh (M : MSt) (N : Nat) : Prop := (∀ j, N ≤ j → M.1 1 j = 0 ∧ M.1 7 j = 0 ∧ M.1 13 j = 0 ∧ M.2 9 j = 0 ∧ M.2 10 j = 0 ∧ M.2 11 j = 0 ∧ M.2 12 j = 0) ∧ (∀ t, 6 * N ≤ t → M.1 2 t = 0 ∧ M.2 4 t = 0) ∧ ∀ t, 16 * N ≤ t → M.2 8 t = 0
def addI (I : Nat → Nat → Nat) (N : Nat) (u : Nat → Nat) : Nat → Nat → Nat := fun i => if i = N then u else I i
theorem IW_succ {D : mG} {I I' : Nat → Nat → Nat} {N : Nat} {M M' : MSt} (h : ∀ j, j < N → wJ D I' M' j = wJ D I M j) : IW D I' (N + 1) M' = IW D I N M ++ wJ D I' M' N := by
  apply List.ext_getElem?
  intro t
  have hlen : (IW D I N M).length = 6 * N := by rw [IW, List.length_map, List.length_range]
  by_cases ht : t < 6 * N
  · rw [List.getElem?_append_left (by omega), IW_get ht, IW_get (by omega), jc, jc, h (t / 6) (by omega)]
  · rw [List.getElem?_append_right (by omega), hlen]
    by_cases ht2 : t < 6 * (N + 1)
    · obtain ⟨i, rfl⟩ : ∃ i, t = 6 * N + i := ⟨t - 6 * N, by omega⟩
      rw [IW_at (by omega) (by omega), Nat.add_sub_cancel_left, wJ_get (by omega)]
    · rw [List.getElem?_eq_none (by rw [IW, List.length_map, List.length_range]; omega), List.getElem?_eq_none (by show 6 ≤ t - 6 * N; omega)]
theorem wJ_of {D : mG} {I : Nat → Nat → Nat} {M : MSt} {j : Nat} {so al ch mn : Int32} {lo hi le gr sw su : Int64} {KI : Nat → Int32} {KJ KE : Nat → Int64} {L : Nat → Option Nat} (h0 : M.1 0 j = so) (h5 : M.2 5 j = lo) (h6 : M.2 6 j = hi) (h13 : M.1 13 j = al) (h1 : M.1 1 j = ch) (h9 : M.2 9 j = le) (h10 : M.2 10 j = gr) (h11 : M.2 11 j = sw) (h12 : M.2 12 j = su) (h7 : M.1 7 j = mn) (hKI : mKI M j = KI) (hKJ : mKJ M j = KJ) (hL : mL I M j = L) (hKE : mKE M j = KE) :
    wJ D I M j = wI D (I j) so lo hi al ch le gr sw su mn (ff so) (zz so) KI KJ L KE := by
  subst h0 h5 h6 h13 h1 h9 h10 h11 h12 h7 hKI hKJ hL hKE
  rfl
/-- a newly mounted instrument's -/
theorem wJ_new {D : mG} {I : Nat → Nat → Nat} {M : MSt} {N : Nat} {u : Nat → Nat} {so : Int32} {lo hi : Int64} (hf : fresh M N) (h0 : M.1 0 N = so) (h5 : M.2 5 N = lo) (h6 : M.2 6 N = hi) : wJ D (addI I N u) M N = wI D u so lo hi 0 0 0 0 0 0 0 (ff so) (zz so) (fun _ => 0) (fun _ => 0) (fun _ => none) (fun _ => 0) := by
  obtain ⟨f1, f2, f3⟩ := hf
  obtain ⟨g1, g7, g13, g9, g10, g11, g12⟩ := f1 N (Nat.le_refl _)
  rw [wJ_of (KI := fun _ => 0) (KJ := fun _ => 0) (L := fun _ => none) (KE := fun _ => 0) h0 h5 h6 g13 g1 g9 g10 g11 g12 g7 (funext fun c => by unfold mKI; rw [(f2 (6 * N + c) (by omega)).1, ite_self]) (funext fun c => by unfold mKJ; rw [(f2 (6 * N + c) (by omega)).2, ite_self]) (funext fun c => by unfold mL chn; rw [g1]; exact if_neg (Nat.not_lt_zero _)) (funext fun c => by unfold mKE; rw [f3 (16 * N + c) (by omega), ite_self])]
  rw [show addI I N u N = u from if_pos rfl]
theorem addI_old {I : Nat → Nat → Nat} {N j : Nat} {u : Nat → Nat} (h : j < N) : addI I N u j = I j := if_neg (by omega)
theorem mL_add {I : Nat → Nat → Nat} {M : MSt} {N j : Nat} {u : Nat → Nat} (h : ∀ c, c < chn M j → M.1 3 (6 * j + c) < 0 ∨ ∃ k, k < N ∧ M.1 3 (6 * j + c) = nI k) (hN : N ≤ 8) : mL (addI I N u) M j = mL I M j := by
  funext c
  unfold mL
  split
  · rename_i hc
    rcases h c hc with h1 | ⟨k, h1, h2⟩
    · rw [if_neg (fun h3 => absurd h1 (Int32.not_lt.mpr h3)), if_neg (fun h3 => absurd h1 (Int32.not_lt.mpr h3))]
    · rw [h2, nI_clamp (by omega), addI_old h1]
  · rfl
theorem mIA_add {I : Nat → Nat → Nat} {N : Nat} {u : Nat → Nat} : mIA (addI I N u) (N + 1) = va_up (mIA I N) N (some (u 0)) := by
  funext i
  unfold mIA va_up addI
  by_cases h : i = N
  · subst h; simp
  · simp only [h, if_false]
    by_cases h2 : i < N
    · rw [if_pos h2, if_pos (by omega)]
    · rw [if_neg h2, if_neg (by omega)]
