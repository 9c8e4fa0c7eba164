set_option maxHeartbeats 4000000 in
set_option maxRecDepth 100000 in
theorem kX7_length_0 (l : Launch) (dC : Nat → ClassId) (dI : Nat → Nat → Nat) (h0 u0 u1 u2 u3 u4 u5 u6 : Nat) (sz : Nat) : Met l yX7_length (zw yX7_length cX7_length 1 (some .int)) { frames := 0, cells := 0, slots := 0, locals := 0 } (zPc dC dI [.ref h0] sz [(h0, .inr (7, [.ref u0, .ref u1, .ref u2, .ref u3, .ref u4, .ref u5, .ref u6, .int 0, .int 0, .int 0, .int 0, .int 0]))] []) (va_Qi (fun (r : Int32) (_ : Unit) => r = 0) (fun (_ : Unit) (t : State) => va_P (dC, dI) vwCl [(h0, .inr (7, [.ref u0, .ref u1, .ref u2, .ref u3, .ref u4, .ref u5, .ref u6, .int 0, .int 0, .int 0, .int 0, .int 0]))] t.heap ∧ va_K (dC, dI) vwCl [] t ∧ va_D (va_A [(h0, .inr (7, [.ref u0, .ref u1, .ref u2, .ref u3, .ref u4, .ref u5, .ref u6, .int 0, .int 0, .int 0, .int 0, .int 0]))] sz) [(h0, .inr (7, [.ref u0, .ref u1, .ref u2, .ref u3, .ref u4, .ref u5, .ref u6, .int 0, .int 0, .int 0, .int 0, .int 0]))]) (va_A [(h0, .inr (7, [.ref u0, .ref u1, .ref u2, .ref u3, .ref u4, .ref u5, .ref u6, .int 0, .int 0, .int 0, .int 0, .int 0]))] sz)) 0 0 (va_A [(h0, .inr (7, [.ref u0, .ref u1, .ref u2, .ref u3, .ref u4, .ref u5, .ref u6, .int 0, .int 0, .int 0, .int 0, .int 0]))] sz) := by
  refine Met.ofW (cc := cX7_length) (maxL := 1) (ret := (some .int)) (by decide) rfl ?_
  intro p e s m args below meth c s₁ B hml hv
  obtain ⟨rfl, hsz, hP, hK, hD0, hE, hZ⟩ := hv
  have hx := B.exec
  have hb := B.bytes
  have hr := B.returns
  have hG : ∀ w ∈ zG, w.before _ s = true := fun w h => atoms_spec (ws := (zw yX7_length cX7_length 1 (some .int))) B.pre w (List.mem_cons_of_mem _ h)
  have hown : s.vm.findClass RX7 = some m.cls := findClass_of_methodNamed B.named
  have hlocks := B.notSynchronized
  subst hsz
  have hD := hD0.self (sz := s.heap.size)
  generalize hAe : va_A [(h0, .inr (7, [.ref u0, .ref u1, .ref u2, .ref u3, .ref u4, .ref u5, .ref u6, .int 0, .int 0, .int 0, .int 0, .int 0]))] s.heap.size = A at hD hZ ⊢
  have hA : ∀ q : Nat, s.heap.size ≤ q → A q := fun q h => by rw [← hAe]; exact Or.inr h
  have hS : va_S A s.heap s.heap [] := va_S.rf
  have hl := lv_entry ([.ref h0]) (n := 1) (Nat.le_of_ble_eq_true rfl)
  rw [lg_entry_eq]
  generalize (lg_sl ([.ref h0]) ++ List.replicate (1 - (lg_sl ([.ref h0])).length) Slot.unset).toArray = ls at hl ⊢
  have hl : lv_has ls 1 [(0, .ref h0)] := hl
  refine lv_aload_n hx hb dX7_length_0 rfl (lv_at hl 0 rfl) ?_
  refine va_get (D := (dC, dI)) (ci := 7) (v := .int 0) (C := RX7) (T := TX7) (N := 12) hx hb hG zuX7 hown hK hP 0 rfl rfl 9 (by decide) (hG _ zw119) (fun _ h9 => h9) rfl dX7_length_1 ?_
  have hP9 := hP.sub (ws' := [(h0, .inr (7, [.ref u0, .ref u1, .ref u2, .ref u3, .ref u4, .ref u5, .ref u6, .int 0, .int 0, .int 0, .int 0, .int 0]))]) [0] rfl
  have hD9 := hD.sub (ws' := [(h0, .inr (7, [.ref u0, .ref u1, .ref u2, .ref u3, .ref u4, .ref u5, .ref u6, .int 0, .int 0, .int 0, .int 0, .int 0]))]) [0] (by decide) rfl
  have hK9 := hK.sub (tys' := []) [] rfl
  refine W.widen (k := 0) (n := 0) (by decide) (by decide) ?_
  exact W.iret (v := 0) hx hb hr (fun t ht hW => ⟨⟨0, (), rfl, rfl, by rw [ht]; exact hP9, va_K.moved hW.alike hK9, hD9⟩, hS.F ht⟩) hS.2.2 dX7_length_4
set_option maxHeartbeats 4000000 in
set_option maxRecDepth 100000 in
theorem kX1_find_0 (l : Launch) (dC : Nat → ClassId) (dI : Nat → Nat → Nat) (h0 h1 h2 h3 u0 u1 u2 u3 u4 u5 u6 u7 u8 u9 u10 u11 u12 u13 u14 u15 u16 u17 u18 u19 u20 u21 u22 u23 u24 u25 : Nat) (k3 : ClassId) (sz : Nat) : Met l yX1_find (zw yX1_find cX1_find 2 none) { frames := 3, cells := 0, slots := 0, locals := 64 } (zPc dC dI [.ref h0] sz [(h0, .inr (1, [.ref u0, .ref u1, .ref h2, .ref h1, .ref u2, .ref u3, .ref u4, .ref u5, .ref u6, .ref u7, .ref u8, .ref u9, .ref u10, .ref u11, .ref u12, .ref h3, .int 0])), (h1, .inr (3, [.ref u1, .ref u13, .ref h2, .ref u14, .ref u15, .ref u16, .ref u17, .ref u18, .int 0, .int 0])), (h2, .inr (7, [.ref u19, .ref u20, .ref u21, .ref u22, .ref u23, .ref u24, .ref u25, .int 0, .int 0, .int 0, .int 0, .int 0])), (h3, .inl (k3, 0, .inl (fun _ => 0)))] [(k3, .int)]) (va_Qv (fun _ : Unit => True) (fun (_ : Unit) (t : State) => va_P (dC, dI) vwCl [(h0, .inr (1, [.ref u0, .ref u1, .ref h2, .ref h1, .ref u2, .ref u3, .ref u4, .ref u5, .ref u6, .ref u7, .ref u8, .ref u9, .ref u10, .ref u11, .ref u12, .ref h3, .int 0])), (h1, .inr (3, [.ref u1, .ref u13, .ref h2, .ref u14, .ref u15, .ref u16, .ref u17, .ref u18, .int 0, .int 0])), (h2, .inr (7, [.ref u19, .ref u20, .ref u21, .ref u22, .ref u23, .ref u24, .ref u25, .int 0, .int 0, .int 0, .int 0, .int 0])), (h3, .inl (k3, 0, .inl (fun _ => 0)))] t.heap ∧ va_K (dC, dI) vwCl [(k3, .int)] t ∧ va_D (va_A [(h0, .inr (1, [.ref u0, .ref u1, .ref h2, .ref h1, .ref u2, .ref u3, .ref u4, .ref u5, .ref u6, .ref u7, .ref u8, .ref u9, .ref u10, .ref u11, .ref u12, .ref h3, .int 0])), (h1, .inr (3, [.ref u1, .ref u13, .ref h2, .ref u14, .ref u15, .ref u16, .ref u17, .ref u18, .int 0, .int 0])), (h2, .inr (7, [.ref u19, .ref u20, .ref u21, .ref u22, .ref u23, .ref u24, .ref u25, .int 0, .int 0, .int 0, .int 0, .int 0])), (h3, .inl (k3, 0, .inl (fun _ => 0)))] sz) [(h0, .inr (1, [.ref u0, .ref u1, .ref h2, .ref h1, .ref u2, .ref u3, .ref u4, .ref u5, .ref u6, .ref u7, .ref u8, .ref u9, .ref u10, .ref u11, .ref u12, .ref h3, .int 0])), (h1, .inr (3, [.ref u1, .ref u13, .ref h2, .ref u14, .ref u15, .ref u16, .ref u17, .ref u18, .int 0, .int 0])), (h2, .inr (7, [.ref u19, .ref u20, .ref u21, .ref u22, .ref u23, .ref u24, .ref u25, .int 0, .int 0, .int 0, .int 0, .int 0])), (h3, .inl (k3, 0, .inl (fun _ => 0)))]) (va_A [(h0, .inr (1, [.ref u0, .ref u1, .ref h2, .ref h1, .ref u2, .ref u3, .ref u4, .ref u5, .ref u6, .ref u7, .ref u8, .ref u9, .ref u10, .ref u11, .ref u12, .ref h3, .int 0])), (h1, .inr (3, [.ref u1, .ref u13, .ref h2, .ref u14, .ref u15, .ref u16, .ref u17, .ref u18, .int 0, .int 0])), (h2, .inr (7, [.ref u19, .ref u20, .ref u21, .ref u22, .ref u23, .ref u24, .ref u25, .int 0, .int 0, .int 0, .int 0, .int 0])), (h3, .inl (k3, 0, .inl (fun _ => 0)))] sz)) 0 0 (va_A [(h0, .inr (1, [.ref u0, .ref u1, .ref h2, .ref h1, .ref u2, .ref u3, .ref u4, .ref u5, .ref u6, .ref u7, .ref u8, .ref u9, .ref u10, .ref u11, .ref u12, .ref h3, .int 0])), (h1, .inr (3, [.ref u1, .ref u13, .ref h2, .ref u14, .ref u15, .ref u16, .ref u17, .ref u18, .int 0, .int 0])), (h2, .inr (7, [.ref u19, .ref u20, .ref u21, .ref u22, .ref u23, .ref u24, .ref u25, .int 0, .int 0, .int 0, .int 0, .int 0])), (h3, .inl (k3, 0, .inl (fun _ => 0)))] sz) := by
  refine Met.ofW (cc := cX1_find) (maxL := 2) (ret := none) (by decide) rfl ?_
  intro p e s m args below meth c s₁ B hml hv
  obtain ⟨rfl, hsz, hP, hK, hD0, hE, hZ⟩ := hv
  have hx := B.exec
  have hb := B.bytes
  have hr := B.returns
  have hG : ∀ w ∈ zG, w.before _ s = true := fun w h => atoms_spec (ws := (zw yX1_find cX1_find 2 none)) B.pre w (List.mem_cons_of_mem _ h)
  have hown : s.vm.findClass RX1 = some m.cls := findClass_of_methodNamed B.named
  have hlocks := B.notSynchronized
  subst hsz
  have hD := hD0.self (sz := s.heap.size)
  generalize hAe : va_A [(h0, .inr (1, [.ref u0, .ref u1, .ref h2, .ref h1, .ref u2, .ref u3, .ref u4, .ref u5, .ref u6, .ref u7, .ref u8, .ref u9, .ref u10, .ref u11, .ref u12, .ref h3, .int 0])), (h1, .inr (3, [.ref u1, .ref u13, .ref h2, .ref u14, .ref u15, .ref u16, .ref u17, .ref u18, .int 0, .int 0])), (h2, .inr (7, [.ref u19, .ref u20, .ref u21, .ref u22, .ref u23, .ref u24, .ref u25, .int 0, .int 0, .int 0, .int 0, .int 0])), (h3, .inl (k3, 0, .inl (fun _ => 0)))] s.heap.size = A at hD hZ ⊢
  have hA : ∀ q : Nat, s.heap.size ≤ q → A q := fun q h => by rw [← hAe]; exact Or.inr h
  have hS : va_S A s.heap s.heap [] := va_S.rf
  have hl := lv_entry ([.ref h0]) (n := 2) (Nat.le_of_ble_eq_true rfl)
  rw [lg_entry_eq]
  generalize (lg_sl ([.ref h0]) ++ List.replicate (2 - (lg_sl ([.ref h0])).length) Slot.unset).toArray = ls at hl ⊢
  have hl : lv_has ls 2 [(0, .ref h0)] := hl
  refine lv_aload_n hx hb dX1_find_0 rfl (lv_at hl 0 rfl) ?_
  refine lv_iconst (v := 0) hx hb dX1_find_1 (by decide) ?_
  refine va_put (D := (dC, dI)) (ci := 1) (v := .int 0) (ty := .int) (C := RX1) (T := TX1) (N := 17) hx hb hG zuX1 tyX1 tyX1_ok nmX1 hown hK hP hD hS 0 rfl rfl 16 (by decide) (hG _ zw168) (fun _ h9 => h9) rfl (by decide +kernel) rfl rfl (Nat.le_of_ble_eq_true rfl) dX1_find_2 (fun H locs hP hD hS => ?_)
  have hP : va_P (dC, dI) vwCl [(h0, .inr (1, [.ref u0, .ref u1, .ref h2, .ref h1, .ref u2, .ref u3, .ref u4, .ref u5, .ref u6, .ref u7, .ref u8, .ref u9, .ref u10, .ref u11, .ref u12, .ref h3, .int 0])), (h1, .inr (3, [.ref u1, .ref u13, .ref h2, .ref u14, .ref u15, .ref u16, .ref u17, .ref u18, .int 0, .int 0])), (h2, .inr (7, [.ref u19, .ref u20, .ref u21, .ref u22, .ref u23, .ref u24, .ref u25, .int 0, .int 0, .int 0, .int 0, .int 0])), (h3, .inl (k3, 0, .inl (fun _ => 0)))] H := hP
  have hD : va_D A [(h0, .inr (1, [.ref u0, .ref u1, .ref h2, .ref h1, .ref u2, .ref u3, .ref u4, .ref u5, .ref u6, .ref u7, .ref u8, .ref u9, .ref u10, .ref u11, .ref u12, .ref h3, .int 0])), (h1, .inr (3, [.ref u1, .ref u13, .ref h2, .ref u14, .ref u15, .ref u16, .ref u17, .ref u18, .int 0, .int 0])), (h2, .inr (7, [.ref u19, .ref u20, .ref u21, .ref u22, .ref u23, .ref u24, .ref u25, .int 0, .int 0, .int 0, .int 0, .int 0])), (h3, .inl (k3, 0, .inl (fun _ => 0)))] := hD
  refine lv_aload_n hx hb dX1_find_5 rfl (lv_at hl 0 rfl) ?_
  have hPc := hP.sub (ws' := [(h0, .inr (1, [.ref u0, .ref u1, .ref h2, .ref h1, .ref u2, .ref u3, .ref u4, .ref u5, .ref u6, .ref u7, .ref u8, .ref u9, .ref u10, .ref u11, .ref u12, .ref h3, .int 0])), (h1, .inr (3, [.ref u1, .ref u13, .ref h2, .ref u14, .ref u15, .ref u16, .ref u17, .ref u18, .int 0, .int 0])), (h2, .inr (7, [.ref u19, .ref u20, .ref u21, .ref u22, .ref u23, .ref u24, .ref u25, .int 0, .int 0, .int 0, .int 0, .int 0])), (h3, .inl (k3, 0, .inl (fun _ => 0)))]) [0, 1, 2, 3] rfl
  have hDc := hD.sub (ws' := [(h0, .inr (1, [.ref u0, .ref u1, .ref h2, .ref h1, .ref u2, .ref u3, .ref u4, .ref u5, .ref u6, .ref u7, .ref u8, .ref u9, .ref u10, .ref u11, .ref u12, .ref h3, .int 0])), (h1, .inr (3, [.ref u1, .ref u13, .ref h2, .ref u14, .ref u15, .ref u16, .ref u17, .ref u18, .int 0, .int 0])), (h2, .inr (7, [.ref u19, .ref u20, .ref u21, .ref u22, .ref u23, .ref u24, .ref u25, .int 0, .int 0, .int 0, .int 0, .int 0])), (h3, .inl (k3, 0, .inl (fun _ => 0)))]) [0, 1, 2, 3] (by decide) rfl
  have hKc := hK.sub (tys' := [(k3, .int)]) [0] rfl
  have hFc := va_free (wc := [(h0, .inr (1, [.ref u0, .ref u1, .ref h2, .ref h1, .ref u2, .ref u3, .ref u4, .ref u5, .ref u6, .ref u7, .ref u8, .ref u9, .ref u10, .ref u11, .ref u12, .ref h3, .int 0])), (h1, .inr (3, [.ref u1, .ref u13, .ref h2, .ref u14, .ref u15, .ref u16, .ref u17, .ref u18, .int 0, .int 0])), (h2, .inr (7, [.ref u19, .ref u20, .ref u21, .ref u22, .ref u23, .ref u24, .ref u25, .int 0, .int 0, .int 0, .int 0, .int 0])), (h3, .inl (k3, 0, .inl (fun _ => 0)))]) hD hS hA [0, 1, 2, 3] rfl
  refine va_callv (va_runV (As := []) (rest := []) ⟨hx, hb, hml, hown, hG⟩ (kX1_prepare_0 l dC dI h0 h1 h2 h3 u0 u1 u2 u3 u4 u5 u6 u7 u8 u9 u10 u11 u12 u13 u14 u15 u16 u17 u18 u19 u20 u21 u22 u23 u24 u25 k3 H.size) (cwV 0 hG (zgV zw675 zw676 zw677 zw147 zw678) rfl rfl rfl (by decide +kernel) ⟨Nat.le_of_ble_eq_true rfl, Nat.le_of_ble_eq_true rfl⟩) ⟨zPc_blind, va_recv hKc hPc (ci := 1) (q0 := 0) rfl rfl, zPc_pre hPc hKc hDc hE hS hFc hZ⟩ rfl rfl hl.1 rfl (lv_room (Nat.le_of_ble_eq_true rfl)) dX1_find_6 ⟨Nat.le_of_ble_eq_true rfl, Nat.le_of_ble_eq_true rfl⟩) hS (fun q _ h => hFc q h) hFc (fun u t H1 locs ht hvm hw hB hz1 hk1 hS => ?_)
  obtain ⟨hP1, hK1, hD1⟩ := hB
  rw [ht] at hP1
  obtain ⟨hP, hD⟩ := va_join (wr := []) (w1 := [(h0, .inr (1, [.ref u0, .ref u1, .ref h2, .ref h1, .ref u2, .ref u3, .ref u4, .ref u5, .ref u6, .ref u7, .ref u8, .ref u9, .ref u10, .ref u11, .ref u12, .ref h3, .int 0])), (h1, .inr (3, [.ref u1, .ref u13, .ref h2, .ref u14, .ref u15, .ref u16, .ref u17, .ref u18, .int 0, .int 0])), (h2, .inr (7, [.ref u19, .ref u20, .ref u21, .ref u22, .ref u23, .ref u24, .ref u25, .int 0, .int 0, .int 0, .int 0, .int 0])), (h3, .inl (k3, 0, .inl (fun _ => 0)))]) hP hD [0, 1, 2, 3] [] rfl rfl (by decide) (by decide) hk1 hFc hP1 hD1
  generalize H1 = H at hP hS ⊢
  have hP : va_P (dC, dI) vwCl [(h0, .inr (1, [.ref u0, .ref u1, .ref h2, .ref h1, .ref u2, .ref u3, .ref u4, .ref u5, .ref u6, .ref u7, .ref u8, .ref u9, .ref u10, .ref u11, .ref u12, .ref h3, .int 0])), (h1, .inr (3, [.ref u1, .ref u13, .ref h2, .ref u14, .ref u15, .ref u16, .ref u17, .ref u18, .int 0, .int 0])), (h2, .inr (7, [.ref u19, .ref u20, .ref u21, .ref u22, .ref u23, .ref u24, .ref u25, .int 0, .int 0, .int 0, .int 0, .int 0])), (h3, .inl (k3, 0, .inl (fun _ => 0)))] H := hP
  have hD : va_D A [(h0, .inr (1, [.ref u0, .ref u1, .ref h2, .ref h1, .ref u2, .ref u3, .ref u4, .ref u5, .ref u6, .ref u7, .ref u8, .ref u9, .ref u10, .ref u11, .ref u12, .ref h3, .int 0])), (h1, .inr (3, [.ref u1, .ref u13, .ref h2, .ref u14, .ref u15, .ref u16, .ref u17, .ref u18, .int 0, .int 0])), (h2, .inr (7, [.ref u19, .ref u20, .ref u21, .ref u22, .ref u23, .ref u24, .ref u25, .int 0, .int 0, .int 0, .int 0, .int 0])), (h3, .inl (k3, 0, .inl (fun _ => 0)))] := hD
  refine lv_iconst (v := 0) hx hb dX1_find_9 (by decide) ?_
  refine lv_istore_n (lv' := [(1, .int 0), (0, .ref h0)]) hx hb dX1_find_10 rfl hl (by decide) rfl (fun ls hl => ?_)
  refine lv_aload_n hx hb dX1_find_11 rfl (lv_at hl 1 rfl) ?_
  refine va_get (D := (dC, dI)) (ci := 1) (v := .ref h2) (C := RX1) (T := TX1) (N := 17) hx hb hG zuX1 hown hK hP 0 rfl rfl 2 (by decide) (hG _ zw171) (fun _ h9 => h9) rfl dX1_find_12 ?_
  have hPc := hP.sub (ws' := [(h2, .inr (7, [.ref u19, .ref u20, .ref u21, .ref u22, .ref u23, .ref u24, .ref u25, .int 0, .int 0, .int 0, .int 0, .int 0]))]) [2] rfl
  have hDc := hD.sub (ws' := [(h2, .inr (7, [.ref u19, .ref u20, .ref u21, .ref u22, .ref u23, .ref u24, .ref u25, .int 0, .int 0, .int 0, .int 0, .int 0]))]) [2] (by decide) rfl
  have hKc := hK.sub (tys' := []) [] rfl
  have hFc := va_free (wc := [(h2, .inr (7, [.ref u19, .ref u20, .ref u21, .ref u22, .ref u23, .ref u24, .ref u25, .int 0, .int 0, .int 0, .int 0, .int 0]))]) hD hS hA [2] rfl
  refine va_calli (va_runV (As := []) (rest := []) ⟨hx, hb, hml, hown, hG⟩ (kX7_length_0 l dC dI h2 u19 u20 u21 u22 u23 u24 u25 H.size) (cwV 0 hG (zgV zw679 zw680 zw681 zw108 zw682) rfl rfl rfl (by decide +kernel) ⟨Nat.le_of_ble_eq_true rfl, Nat.le_of_ble_eq_true rfl⟩) ⟨zPc_blind, va_recv hKc hPc (ci := 7) (q0 := 0) rfl rfl, zPc_pre hPc hKc hDc hE hS hFc hZ⟩ rfl rfl hl.1 rfl (lv_room (Nat.le_of_ble_eq_true rfl)) dX1_find_15 ⟨Nat.le_of_ble_eq_true rfl, Nat.le_of_ble_eq_true rfl⟩) hS (fun q _ h => hFc q h) hFc (fun r_6041 u t H1 locs ht hvm hw hB hz1 hk1 hS => ?_)
  have hw : r_6041 = 0 := hw
  subst hw
  obtain ⟨hP1, hK1, hD1⟩ := hB
  rw [ht] at hP1
  obtain ⟨hP, hD⟩ := va_join (wr := [(h0, .inr (1, [.ref u0, .ref u1, .ref h2, .ref h1, .ref u2, .ref u3, .ref u4, .ref u5, .ref u6, .ref u7, .ref u8, .ref u9, .ref u10, .ref u11, .ref u12, .ref h3, .int 0])), (h1, .inr (3, [.ref u1, .ref u13, .ref h2, .ref u14, .ref u15, .ref u16, .ref u17, .ref u18, .int 0, .int 0])), (h3, .inl (k3, 0, .inl (fun _ => 0)))]) (w1 := [(h2, .inr (7, [.ref u19, .ref u20, .ref u21, .ref u22, .ref u23, .ref u24, .ref u25, .int 0, .int 0, .int 0, .int 0, .int 0]))]) hP hD [2] [0, 1, 3] rfl rfl (by decide) (by decide) hk1 hFc hP1 hD1
  generalize H1 = H at hP hS ⊢
  have hP : va_P (dC, dI) vwCl [(h0, .inr (1, [.ref u0, .ref u1, .ref h2, .ref h1, .ref u2, .ref u3, .ref u4, .ref u5, .ref u6, .ref u7, .ref u8, .ref u9, .ref u10, .ref u11, .ref u12, .ref h3, .int 0])), (h1, .inr (3, [.ref u1, .ref u13, .ref h2, .ref u14, .ref u15, .ref u16, .ref u17, .ref u18, .int 0, .int 0])), (h3, .inl (k3, 0, .inl (fun _ => 0))), (h2, .inr (7, [.ref u19, .ref u20, .ref u21, .ref u22, .ref u23, .ref u24, .ref u25, .int 0, .int 0, .int 0, .int 0, .int 0]))] H := hP
  have hD : va_D A [(h0, .inr (1, [.ref u0, .ref u1, .ref h2, .ref h1, .ref u2, .ref u3, .ref u4, .ref u5, .ref u6, .ref u7, .ref u8, .ref u9, .ref u10, .ref u11, .ref u12, .ref h3, .int 0])), (h1, .inr (3, [.ref u1, .ref u13, .ref h2, .ref u14, .ref u15, .ref u16, .ref u17, .ref u18, .int 0, .int 0])), (h3, .inl (k3, 0, .inl (fun _ => 0))), (h2, .inr (7, [.ref u19, .ref u20, .ref u21, .ref u22, .ref u23, .ref u24, .ref u25, .int 0, .int 0, .int 0, .int 0, .int 0]))] := hD
  refine lv_if_le (tgt := 74) hx hb dX1_find_18 (by decide) (fun c_6043 => ?_) (fun c_6043 => absurd c_6043 (by decide))
  refine lv_iconst (v := 0) hx hb dX1_find_74 (by decide) ?_
  refine lv_istore_n (lv' := [(1, .int 0), (0, .ref h0)]) hx hb dX1_find_75 rfl hl (by decide) rfl (fun ls hl => ?_)
  refine lv_iload_n hx hb dX1_find_76 rfl (lv_at hl 0 rfl) ?_
  refine lv_aload_n hx hb dX1_find_77 rfl (lv_at hl 1 rfl) ?_
  refine va_get (D := (dC, dI)) (ci := 1) (v := .int 0) (C := RX1) (T := TX1) (N := 17) hx hb hG zuX1 hown hK hP 0 rfl rfl 16 (by decide) (hG _ zw168) (fun _ h9 => h9) rfl dX1_find_78 ?_
  refine lv_icmp_ge (tgt := 111) hx hb dX1_find_81 (by decide) (fun c_6044 => ?_) (fun c_6044 => absurd c_6044 (by decide))
  have hP9 := hP.sub (ws' := [(h0, .inr (1, [.ref u0, .ref u1, .ref h2, .ref h1, .ref u2, .ref u3, .ref u4, .ref u5, .ref u6, .ref u7, .ref u8, .ref u9, .ref u10, .ref u11, .ref u12, .ref h3, .int 0])), (h1, .inr (3, [.ref u1, .ref u13, .ref h2, .ref u14, .ref u15, .ref u16, .ref u17, .ref u18, .int 0, .int 0])), (h2, .inr (7, [.ref u19, .ref u20, .ref u21, .ref u22, .ref u23, .ref u24, .ref u25, .int 0, .int 0, .int 0, .int 0, .int 0])), (h3, .inl (k3, 0, .inl (fun _ => 0)))]) [0, 1, 3, 2] rfl
  have hD9 := hD.sub (ws' := [(h0, .inr (1, [.ref u0, .ref u1, .ref h2, .ref h1, .ref u2, .ref u3, .ref u4, .ref u5, .ref u6, .ref u7, .ref u8, .ref u9, .ref u10, .ref u11, .ref u12, .ref h3, .int 0])), (h1, .inr (3, [.ref u1, .ref u13, .ref h2, .ref u14, .ref u15, .ref u16, .ref u17, .ref u18, .int 0, .int 0])), (h2, .inr (7, [.ref u19, .ref u20, .ref u21, .ref u22, .ref u23, .ref u24, .ref u25, .int 0, .int 0, .int 0, .int 0, .int 0])), (h3, .inl (k3, 0, .inl (fun _ => 0)))]) [0, 1, 3, 2] (by decide) rfl
  have hK9 := hK.sub (tys' := [(k3, .int)]) [0] rfl
  refine W.widen (k := 0) (n := 0) (by decide) (by decide) ?_
  exact W.vret hx hb hr (fun t ht hW => ⟨⟨(), rfl, trivial, by rw [ht]; exact hP9, va_K.moved hW.alike hK9, hD9⟩, hS.F ht⟩) hS.2.2 dX1_find_111
