/-! THE LAW, from its entry -/
set_option maxRecDepth 100000 in
set_option maxHeartbeats 4000000 in
theorem whole_start {p : Program} {e : Env} {s : State} {m : MethodId} {below : List Frame} {meth : Method} {c : Code} (l : Launch) (hlt : l.stackTraces = false) {b L : Nat} {xs : Nat → Int32} (hL : L ≤ 3072) (C0 : lw_At p s m meth c b L xs) : W p l e room_1 s m #[Value.ref b] below meth c s.heap [] 0 0 (lw_Z below #[Value.ref b] s) (entryFrame m ([Value.ref b] : List Value).toArray 8) := by
  obtain ⟨hx, hb, hr, hml, hown, hts, hX, hbl, hlocks, hgv⟩ := C0
  have hnar := flat_of_before _ hgv
  obtain ⟨D, hgf⟩ := gf_start hts hnar
  have hz := za_start hts hnar
  have G : CallFix p m c cL_law 8 s #[Value.ref b] aw RL := ⟨hx, hb, hml, hown, fun w h => hts w (aw_in h)⟩
  have C : LC p s m c b L xs D := ⟨hx, hb, G, hgf, hz, hX, hbl⟩
  have hA : ∀ q : Nat, s.heap.size ≤ q → LA s q := fun _ h => h
  have hS : va_S (LA s) s.heap s.heap [] := va_S.rf
  have hP : va_P D.1 vwCl [] s.heap := fun k q h => by simp at h
  have hD : va_D (LA s) [] := ⟨fun i j p q h => by simp at h, fun k q h => by simp at h⟩
  have hl := lv_entry ([.ref b]) (n := 8) (Nat.le_of_ble_eq_true rfl)
  rw [lg_entry_eq]
  generalize (lg_sl ([.ref b]) ++ List.replicate (8 - (lg_sl ([.ref b])).length) Slot.unset).toArray = ls at hl ⊢
  have hl : lv_has ls 8 [(0, .ref b)] := hl
  refine va_new (ci := 3) (fs := [.null, .int 0, .int 0, .int 0, .int 0]) (C := RX4) (T := TX4) (N := 5) hx hb G.2.2.2.2 inX4 tyX4 tyX4_ok G.2.2.2.1 (G.2.2.2.2 _ qw1_19) (G.2.2.2.2 _ qw1_20) (G.2.2.2.2 _ qw1_1) hgf.K hP hD hS hA rfl (fun j hj => mw_dvX4 j hj) (Nat.le_of_ble_eq_true rfl) (Nat.le_of_ble_eq_true rfl) dL_law_0 (fun x H hP hD hS => ?_)
  have hP : va_P D.1 vwCl [(x, .inr (3, [.null, .int 0, .int 0, .int 0, .int 0]))] H := hP
  have hD : va_D (LA s) [(x, .inr (3, [.null, .int 0, .int 0, .int 0, .int 0]))] := hD
  refine lv_dup hx hb dL_law_3 rfl ?_
  refine kEI (wr := []) (rest := [.ref x]) G (ceX4_init l D x) okI_X4_init hgf hP hD hS hA [0] [] rfl rfl rfl rfl (by decide) qw1_21 ⟨Nat.le_of_ble_eq_true rfl, Nat.le_of_ble_eq_true rfl⟩ ⟨Nat.le_of_ble_eq_true rfl, Nat.le_of_ble_eq_true rfl⟩ hl.1 (Nat.le_of_ble_eq_true rfl) rfl dL_law_4 (fun xa H locs hP hD hS => ?_)
  have hP : va_P D.1 vwCl [(x, .inr (3, [.ref xa, .int 0, .int 0, .int 0, .int 0])), (xa, .inl (D.2.2.2, 8, .inr (.inr (.inr (.inr (fun _ => none))))))] H := hP
  have hD : va_D (LA s) [(x, .inr (3, [.ref xa, .int 0, .int 0, .int 0, .int 0])), (xa, .inl (D.2.2.2, 8, .inr (.inr (.inr (.inr (fun _ => none))))))] := hD
  refine lv_astore_n (lv' := [(1, .ref x), (0, .ref b)]) hx hb dL_law_7 rfl hl (by decide) rfl (fun ls hl => ?_)
  refine va_new (ci := 4) (fs := [.int 0, .int 0, .null, .null, .null, .null, .null, .null, .null, .null, .null, .null, .null, .null, .null, .null, .int 0, .int 0, .int 0]) (C := RX5) (T := TX5) (N := 19) hx hb G.2.2.2.2 inX5 tyX5 tyX5_ok G.2.2.2.1 (G.2.2.2.2 _ qw3_156) (G.2.2.2.2 _ qw3_157) (G.2.2.2.2 _ qw1_2) hgf.K hP hD hS hA rfl (fun j hj => mw_dvX5 j hj) (Nat.le_of_ble_eq_true rfl) (Nat.le_of_ble_eq_true rfl) dL_law_8 (fun r H hP hD hS => ?_)
  have hP : va_P D.1 vwCl [(x, .inr (3, [.ref xa, .int 0, .int 0, .int 0, .int 0])), (xa, .inl (D.2.2.2, 8, .inr (.inr (.inr (.inr (fun _ => none)))))), (r, .inr (4, [.int 0, .int 0, .null, .null, .null, .null, .null, .null, .null, .null, .null, .null, .null, .null, .null, .null, .int 0, .int 0, .int 0]))] H := hP
  have hD : va_D (LA s) [(x, .inr (3, [.ref xa, .int 0, .int 0, .int 0, .int 0])), (xa, .inl (D.2.2.2, 8, .inr (.inr (.inr (.inr (fun _ => none)))))), (r, .inr (4, [.int 0, .int 0, .null, .null, .null, .null, .null, .null, .null, .null, .null, .null, .null, .null, .null, .null, .int 0, .int 0, .int 0]))] := hD
  refine lv_dup hx hb dL_law_11 rfl ?_
  refine kEI (wr := [(x, .inr (3, [.ref xa, .int 0, .int 0, .int 0, .int 0])), (xa, .inl (D.2.2.2, 8, .inr (.inr (.inr (.inr (fun _ => none))))))]) (rest := [.ref r]) G (ceX5_init l D r) okI_X5_init hgf hP hD hS hA [2] [0, 1] rfl rfl rfl rfl (by decide) qw3_158 ⟨Nat.le_of_ble_eq_true rfl, Nat.le_of_ble_eq_true rfl⟩ ⟨Nat.le_of_ble_eq_true rfl, Nat.le_of_ble_eq_true rfl⟩ hl.1 (Nat.le_of_ble_eq_true rfl) rfl dL_law_12 (fun ma H locs hP hD hS => ?_)
  refine lv_astore_n (lv' := [(2, .ref r), (1, .ref x), (0, .ref b)]) hx hb dL_law_15 rfl hl (by decide) rfl (fun ls hl => ?_)
  refine lv_iconst (v := 1) hx hb dL_law_16 (by decide) ?_
  refine mw_newJ (N := 1) G hgf hP hD hS hA (by decide) (by decide) (Nat.le_of_ble_eq_true rfl) (Nat.le_of_ble_eq_true rfl) dL_law_17 (fun oa H hP hD hS => ?_)
  refine lv_astore_n (lv' := [(3, .ref oa), (2, .ref r), (1, .ref x), (0, .ref b)]) hx hb dL_law_19 rfl hl (by decide) rfl (fun ls hl => ?_)
  refine lv_iconst (v := 0) hx hb dL_law_20 (by decide) ?_
  refine lv_istore (lv' := [(4, .int 0), (3, .ref oa), (2, .ref r), (1, .ref x), (0, .ref b)]) hx hb dL_law_21 hl (by decide) rfl (fun ls hl => ?_)
  have hP2 : va_P D.1 vwCl (wM D r ma 0 mE0 ++ WS D x xa oa (fun _ => 0) (fun _ _ => 0) 0 mE0) H := by
    rw [ws_start]
    exact hP.sub [2, 3, 4, 5, 6, 7, 8, 9, 10, 11, 12, 13, 14, 15, 16, 0, 1, 17] rfl
  have hD2 : va_D (LA s) (wM D r ma 0 mE0 ++ WS D x xa oa (fun _ => 0) (fun _ _ => 0) 0 mE0) := by
    rw [ws_start]
    exact hD.sub [2, 3, 4, 5, 6, 7, 8, 9, 10, 11, 12, 13, 14, 15, 16, 0, 1, 17] (by decide) rfl
  exact law_loop C hlt hL hr hlocks 512 0 _ _ (fun _ => 0) (fun _ _ => 0) 0 mE0 0 H _ ls (Nat.le_refl _) (Nat.le_of_ble_eq_true rfl) (Nat.le_of_ble_eq_true rfl) (Nat.zero_le _) inv_start hP2 hD2 hS (lv_sub hl [0, 4, 3, 2, 1] rfl)
