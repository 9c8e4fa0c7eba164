set_option maxHeartbeats 4000000 in
set_option maxRecDepth 100000 in
theorem kX7_leaves_0 (l : Launch) (dC : Nat → ClassId) (dI : Nat → Nat → Nat) (h0 u0 u1 u2 u3 u4 u5 u6 : Nat) (sz : Nat) : Met l yX7_leaves (zw yX7_leaves cX7_leaves 1 (some .int)) { frames := 0, cells := 0, slots := 0, locals := 0 } (zPc dC dI [.ref h0] sz [(h0, .inr (7, [.ref u0, .ref u1, .ref u2, .ref u3, .ref u4, .ref u5, .ref u6, .int 0, .int 0, .int 0, .int 0, .int 0]))] []) (va_Qi (fun (r : Int32) (_ : Unit) => r = 0) (fun (_ : Unit) (t : State) => va_P (dC, dI) vwCl [(h0, .inr (7, [.ref u0, .ref u1, .ref u2, .ref u3, .ref u4, .ref u5, .ref u6, .int 0, .int 0, .int 0, .int 0, .int 0]))] t.heap ∧ va_K (dC, dI) vwCl [] t ∧ va_D (va_A [(h0, .inr (7, [.ref u0, .ref u1, .ref u2, .ref u3, .ref u4, .ref u5, .ref u6, .int 0, .int 0, .int 0, .int 0, .int 0]))] sz) [(h0, .inr (7, [.ref u0, .ref u1, .ref u2, .ref u3, .ref u4, .ref u5, .ref u6, .int 0, .int 0, .int 0, .int 0, .int 0]))]) (va_A [(h0, .inr (7, [.ref u0, .ref u1, .ref u2, .ref u3, .ref u4, .ref u5, .ref u6, .int 0, .int 0, .int 0, .int 0, .int 0]))] sz)) 0 0 (va_A [(h0, .inr (7, [.ref u0, .ref u1, .ref u2, .ref u3, .ref u4, .ref u5, .ref u6, .int 0, .int 0, .int 0, .int 0, .int 0]))] sz) := by
  refine Met.ofW (cc := cX7_leaves) (maxL := 1) (ret := (some .int)) (by decide) rfl ?_
  intro p e s m args below meth c s₁ B hml hv
  obtain ⟨rfl, hsz, hP, hK, hD0, hE, hZ⟩ := hv
  have hx := B.exec
  have hb := B.bytes
  have hr := B.returns
  have hG : ∀ w ∈ zG, w.before _ s = true := fun w h => atoms_spec (ws := (zw yX7_leaves cX7_leaves 1 (some .int))) B.pre w (List.mem_cons_of_mem _ h)
  have hown : s.vm.findClass RX7 = some m.cls := findClass_of_methodNamed B.named
  have hlocks := B.notSynchronized
  subst hsz
  have hD := hD0.self (sz := s.heap.size)
  generalize hAe : va_A [(h0, .inr (7, [.ref u0, .ref u1, .ref u2, .ref u3, .ref u4, .ref u5, .ref u6, .int 0, .int 0, .int 0, .int 0, .int 0]))] s.heap.size = A at hD hZ ⊢
  have hA : ∀ q : Nat, s.heap.size ≤ q → A q := fun q h => by rw [← hAe]; exact Or.inr h
  have hS : va_S A s.heap s.heap [] := va_S.rf
  have hl := lv_entry ([.ref h0]) (n := 1) (Nat.le_of_ble_eq_true rfl)
  rw [lg_entry_eq]
  generalize (lg_sl ([.ref h0]) ++ List.replicate (1 - (lg_sl ([.ref h0])).length) Slot.unset).toArray = ls at hl ⊢
  have hl : lv_has ls 1 [(0, .ref h0)] := hl
  refine lv_aload_n hx hb dX7_leaves_0 rfl (lv_at hl 0 rfl) ?_
  refine va_get (D := (dC, dI)) (ci := 7) (v := .int 0) (C := RX7) (T := TX7) (N := 12) hx hb hG zuX7 hown hK hP 0 rfl rfl 7 (by decide) (hG _ zw117) (fun _ h9 => h9) rfl dX7_leaves_1 ?_
  have hP9 := hP.sub (ws' := [(h0, .inr (7, [.ref u0, .ref u1, .ref u2, .ref u3, .ref u4, .ref u5, .ref u6, .int 0, .int 0, .int 0, .int 0, .int 0]))]) [0] rfl
  have hD9 := hD.sub (ws' := [(h0, .inr (7, [.ref u0, .ref u1, .ref u2, .ref u3, .ref u4, .ref u5, .ref u6, .int 0, .int 0, .int 0, .int 0, .int 0]))]) [0] (by decide) rfl
  have hK9 := hK.sub (tys' := []) [] rfl
  refine W.widen (k := 0) (n := 0) (by decide) (by decide) ?_
  exact W.iret (v := 0) hx hb hr (fun t ht hW => ⟨⟨0, (), rfl, rfl, by rw [ht]; exact hP9, va_K.moved hW.alike hK9, hD9⟩, hS.F ht⟩) hS.2.2 dX7_leaves_4
set_option maxHeartbeats 4000000 in
set_option maxRecDepth 100000 in
theorem kX3_open_0 (l : Launch) (dC : Nat → ClassId) (dI : Nat → Nat → Nat) (h0 h1 u0 u1 u2 u3 u4 u5 u6 u7 u8 u9 u10 u11 u12 u13 : Nat) (sz : Nat) : Met l yX3_open (zw yX3_open cX3_open 4 none) { frames := 1, cells := 0, slots := 0, locals := 20 } (zPc dC dI [.ref h0] sz [(h0, .inr (3, [.ref u0, .ref u1, .ref h1, .ref u2, .ref u3, .ref u4, .ref u5, .ref u6, .int 0, .int 0])), (h1, .inr (7, [.ref u7, .ref u8, .ref u9, .ref u10, .ref u11, .ref u12, .ref u13, .int 0, .int 0, .int 0, .int 0, .int 0]))] []) (va_Qv (fun _ : Unit => True) (fun (_ : Unit) (t : State) => va_P (dC, dI) vwCl [(h0, .inr (3, [.ref u0, .ref u1, .ref h1, .ref u2, .ref u3, .ref u4, .ref u5, .ref u6, .int 0, .int 0])), (h1, .inr (7, [.ref u7, .ref u8, .ref u9, .ref u10, .ref u11, .ref u12, .ref u13, .int 0, .int 0, .int 0, .int 0, .int 0]))] t.heap ∧ va_K (dC, dI) vwCl [] t ∧ va_D (va_A [(h0, .inr (3, [.ref u0, .ref u1, .ref h1, .ref u2, .ref u3, .ref u4, .ref u5, .ref u6, .int 0, .int 0])), (h1, .inr (7, [.ref u7, .ref u8, .ref u9, .ref u10, .ref u11, .ref u12, .ref u13, .int 0, .int 0, .int 0, .int 0, .int 0]))] sz) [(h0, .inr (3, [.ref u0, .ref u1, .ref h1, .ref u2, .ref u3, .ref u4, .ref u5, .ref u6, .int 0, .int 0])), (h1, .inr (7, [.ref u7, .ref u8, .ref u9, .ref u10, .ref u11, .ref u12, .ref u13, .int 0, .int 0, .int 0, .int 0, .int 0]))]) (va_A [(h0, .inr (3, [.ref u0, .ref u1, .ref h1, .ref u2, .ref u3, .ref u4, .ref u5, .ref u6, .int 0, .int 0])), (h1, .inr (7, [.ref u7, .ref u8, .ref u9, .ref u10, .ref u11, .ref u12, .ref u13, .int 0, .int 0, .int 0, .int 0, .int 0]))] sz)) 0 0 (va_A [(h0, .inr (3, [.ref u0, .ref u1, .ref h1, .ref u2, .ref u3, .ref u4, .ref u5, .ref u6, .int 0, .int 0])), (h1, .inr (7, [.ref u7, .ref u8, .ref u9, .ref u10, .ref u11, .ref u12, .ref u13, .int 0, .int 0, .int 0, .int 0, .int 0]))] sz) := by
  refine Met.ofW (cc := cX3_open) (maxL := 4) (ret := none) (by decide) rfl ?_
  intro p e s m args below meth c s₁ B hml hv
  obtain ⟨rfl, hsz, hP, hK, hD0, hE, hZ⟩ := hv
  have hx := B.exec
  have hb := B.bytes
  have hr := B.returns
  have hG : ∀ w ∈ zG, w.before _ s = true := fun w h => atoms_spec (ws := (zw yX3_open cX3_open 4 none)) B.pre w (List.mem_cons_of_mem _ h)
  have hown : s.vm.findClass RX3 = some m.cls := findClass_of_methodNamed B.named
  have hlocks := B.notSynchronized
  subst hsz
  have hD := hD0.self (sz := s.heap.size)
  generalize hAe : va_A [(h0, .inr (3, [.ref u0, .ref u1, .ref h1, .ref u2, .ref u3, .ref u4, .ref u5, .ref u6, .int 0, .int 0])), (h1, .inr (7, [.ref u7, .ref u8, .ref u9, .ref u10, .ref u11, .ref u12, .ref u13, .int 0, .int 0, .int 0, .int 0, .int 0]))] s.heap.size = A at hD hZ ⊢
  have hA : ∀ q : Nat, s.heap.size ≤ q → A q := fun q h => by rw [← hAe]; exact Or.inr h
  have hS : va_S A s.heap s.heap [] := va_S.rf
  have hl := lv_entry ([.ref h0]) (n := 4) (Nat.le_of_ble_eq_true rfl)
  rw [lg_entry_eq]
  generalize (lg_sl ([.ref h0]) ++ List.replicate (4 - (lg_sl ([.ref h0])).length) Slot.unset).toArray = ls at hl ⊢
  have hl : lv_has ls 4 [(0, .ref h0)] := hl
  refine lv_iconst (v := 0) hx hb dX3_open_0 (by decide) ?_
  refine lv_istore_n (lv' := [(1, .int 0), (0, .ref h0)]) hx hb dX3_open_1 rfl hl (by decide) rfl (fun ls hl => ?_)
  refine lv_iload_n hx hb dX3_open_2 rfl (lv_at hl 0 rfl) ?_
  refine lv_aload_n hx hb dX3_open_3 rfl (lv_at hl 1 rfl) ?_
  refine va_get (D := (dC, dI)) (ci := 3) (v := .int 0) (C := RX3) (T := TX3) (N := 10) hx hb hG zuX3 hown hK hP 0 rfl rfl 8 (by decide) (hG _ zw182) (fun _ h9 => h9) rfl dX3_open_4 ?_
  refine lv_icmp_ge (tgt := 28) hx hb dX3_open_7 (by decide) (fun c_5962 => ?_) (fun c_5962 => absurd c_5962 (by decide))
  refine lv_aload_n hx hb dX3_open_28 rfl (lv_at hl 1 rfl) ?_
  refine lv_iconst (v := 0) hx hb dX3_open_29 (by decide) ?_
  refine va_put (D := (dC, dI)) (ci := 3) (v := .int 0) (ty := .int) (C := RX3) (T := TX3) (N := 10) hx hb hG zuX3 tyX3 tyX3_ok nmX3 hown hK hP hD hS 0 rfl rfl 8 (by decide) (hG _ zw182) (fun _ h9 => h9) rfl (by decide +kernel) rfl rfl (Nat.le_of_ble_eq_true rfl) dX3_open_30 (fun H locs hP hD hS => ?_)
  have hP : va_P (dC, dI) vwCl [(h0, .inr (3, [.ref u0, .ref u1, .ref h1, .ref u2, .ref u3, .ref u4, .ref u5, .ref u6, .int 0, .int 0])), (h1, .inr (7, [.ref u7, .ref u8, .ref u9, .ref u10, .ref u11, .ref u12, .ref u13, .int 0, .int 0, .int 0, .int 0, .int 0]))] H := hP
  have hD : va_D A [(h0, .inr (3, [.ref u0, .ref u1, .ref h1, .ref u2, .ref u3, .ref u4, .ref u5, .ref u6, .int 0, .int 0])), (h1, .inr (7, [.ref u7, .ref u8, .ref u9, .ref u10, .ref u11, .ref u12, .ref u13, .int 0, .int 0, .int 0, .int 0, .int 0]))] := hD
  refine lv_iconst (v := 0) hx hb dX3_open_33 (by decide) ?_
  refine lv_istore_n (lv' := [(1, .int 0), (0, .ref h0)]) hx hb dX3_open_34 rfl hl (by decide) rfl (fun ls hl => ?_)
  refine lv_iload_n hx hb dX3_open_35 rfl (lv_at hl 0 rfl) ?_
  refine lv_aload_n hx hb dX3_open_36 rfl (lv_at hl 1 rfl) ?_
  refine va_get (D := (dC, dI)) (ci := 3) (v := .ref h1) (C := RX3) (T := TX3) (N := 10) hx hb hG zuX3 hown hK hP 0 rfl rfl 2 (by decide) (hG _ zw186) (fun _ h9 => h9) rfl dX3_open_37 ?_
  have hPc := hP.sub (ws' := [(h1, .inr (7, [.ref u7, .ref u8, .ref u9, .ref u10, .ref u11, .ref u12, .ref u13, .int 0, .int 0, .int 0, .int 0, .int 0]))]) [1] rfl
  have hDc := hD.sub (ws' := [(h1, .inr (7, [.ref u7, .ref u8, .ref u9, .ref u10, .ref u11, .ref u12, .ref u13, .int 0, .int 0, .int 0, .int 0, .int 0]))]) [1] (by decide) rfl
  have hKc := hK.sub (tys' := []) [] rfl
  have hFc := va_free (wc := [(h1, .inr (7, [.ref u7, .ref u8, .ref u9, .ref u10, .ref u11, .ref u12, .ref u13, .int 0, .int 0, .int 0, .int 0, .int 0]))]) hD hS hA [1] rfl
  refine va_calli (va_runV (As := []) (rest := [.int 0]) ⟨hx, hb, hml, hown, hG⟩ (kX7_leaves_0 l dC dI h1 u7 u8 u9 u10 u11 u12 u13 H.size) (cwV 0 hG (zgV zw666 zw667 zw668 zw108 zw669) rfl rfl rfl (by decide +kernel) ⟨Nat.le_of_ble_eq_true rfl, Nat.le_of_ble_eq_true rfl⟩) ⟨zPc_blind, va_recv hKc hPc (ci := 7) (q0 := 0) rfl rfl, zPc_pre hPc hKc hDc hE hS hFc hZ⟩ rfl rfl hl.1 rfl (lv_room (Nat.le_of_ble_eq_true rfl)) dX3_open_40 ⟨Nat.le_of_ble_eq_true rfl, Nat.le_of_ble_eq_true rfl⟩) hS (fun q _ h => hFc q h) hFc (fun r_5963 u t H1 locs ht hvm hw hB hz1 hk1 hS => ?_)
  have hw : r_5963 = 0 := hw
  subst hw
  obtain ⟨hP1, hK1, hD1⟩ := hB
  rw [ht] at hP1
  obtain ⟨hP, hD⟩ := va_join (wr := [(h0, .inr (3, [.ref u0, .ref u1, .ref h1, .ref u2, .ref u3, .ref u4, .ref u5, .ref u6, .int 0, .int 0]))]) (w1 := [(h1, .inr (7, [.ref u7, .ref u8, .ref u9, .ref u10, .ref u11, .ref u12, .ref u13, .int 0, .int 0, .int 0, .int 0, .int 0]))]) hP hD [1] [0] rfl rfl (by decide) (by decide) hk1 hFc hP1 hD1
  generalize H1 = H at hP hS ⊢
  have hP : va_P (dC, dI) vwCl [(h0, .inr (3, [.ref u0, .ref u1, .ref h1, .ref u2, .ref u3, .ref u4, .ref u5, .ref u6, .int 0, .int 0])), (h1, .inr (7, [.ref u7, .ref u8, .ref u9, .ref u10, .ref u11, .ref u12, .ref u13, .int 0, .int 0, .int 0, .int 0, .int 0]))] H := hP
  have hD : va_D A [(h0, .inr (3, [.ref u0, .ref u1, .ref h1, .ref u2, .ref u3, .ref u4, .ref u5, .ref u6, .int 0, .int 0])), (h1, .inr (7, [.ref u7, .ref u8, .ref u9, .ref u10, .ref u11, .ref u12, .ref u13, .int 0, .int 0, .int 0, .int 0, .int 0]))] := hD
  refine lv_icmp_ge (tgt := 114) hx hb dX3_open_43 (by decide) (fun c_5965 => ?_) (fun c_5965 => absurd c_5965 (by decide))
  have hP9 := hP.sub (ws' := [(h0, .inr (3, [.ref u0, .ref u1, .ref h1, .ref u2, .ref u3, .ref u4, .ref u5, .ref u6, .int 0, .int 0])), (h1, .inr (7, [.ref u7, .ref u8, .ref u9, .ref u10, .ref u11, .ref u12, .ref u13, .int 0, .int 0, .int 0, .int 0, .int 0]))]) [0, 1] rfl
  have hD9 := hD.sub (ws' := [(h0, .inr (3, [.ref u0, .ref u1, .ref h1, .ref u2, .ref u3, .ref u4, .ref u5, .ref u6, .int 0, .int 0])), (h1, .inr (7, [.ref u7, .ref u8, .ref u9, .ref u10, .ref u11, .ref u12, .ref u13, .int 0, .int 0, .int 0, .int 0, .int 0]))]) [0, 1] (by decide) rfl
  have hK9 := hK.sub (tys' := []) [] rfl
  refine W.widen (k := 0) (n := 0) (by decide) (by decide) ?_
  exact W.vret hx hb hr (fun t ht hW => ⟨⟨(), rfl, trivial, by rw [ht]; exact hP9, va_K.moved hW.alike hK9, hD9⟩, hS.F ht⟩) hS.2.2 dX3_open_114
set_option maxHeartbeats 4000000 in
set_option maxRecDepth 100000 in
theorem kX1_prepare_0 (l : Launch) (dC : Nat → ClassId) (dI : Nat → Nat → Nat) (h0 h1 h2 h3 u0 u1 u2 u3 u4 u5 u6 u7 u8 u9 u10 u11 u12 u13 u14 u15 u16 u17 u18 u19 u20 u21 u22 u23 u24 u25 : Nat) (k3 : ClassId) (sz : Nat) : Met l yX1_prepare (zw yX1_prepare cX1_prepare 2 none) { frames := 2, cells := 0, slots := 0, locals := 43 } (zPc dC dI [.ref h0] sz [(h0, .inr (1, [.ref u0, .ref u1, .ref h2, .ref h1, .ref u2, .ref u3, .ref u4, .ref u5, .ref u6, .ref u7, .ref u8, .ref u9, .ref u10, .ref u11, .ref u12, .ref h3, .int 0])), (h1, .inr (3, [.ref u1, .ref u13, .ref h2, .ref u14, .ref u15, .ref u16, .ref u17, .ref u18, .int 0, .int 0])), (h2, .inr (7, [.ref u19, .ref u20, .ref u21, .ref u22, .ref u23, .ref u24, .ref u25, .int 0, .int 0, .int 0, .int 0, .int 0])), (h3, .inl (k3, 0, .inl (fun _ => 0)))] [(k3, .int)]) (va_Qv (fun _ : Unit => True) (fun (_ : Unit) (t : State) => va_P (dC, dI) vwCl [(h0, .inr (1, [.ref u0, .ref u1, .ref h2, .ref h1, .ref u2, .ref u3, .ref u4, .ref u5, .ref u6, .ref u7, .ref u8, .ref u9, .ref u10, .ref u11, .ref u12, .ref h3, .int 0])), (h1, .inr (3, [.ref u1, .ref u13, .ref h2, .ref u14, .ref u15, .ref u16, .ref u17, .ref u18, .int 0, .int 0])), (h2, .inr (7, [.ref u19, .ref u20, .ref u21, .ref u22, .ref u23, .ref u24, .ref u25, .int 0, .int 0, .int 0, .int 0, .int 0])), (h3, .inl (k3, 0, .inl (fun _ => 0)))] t.heap ∧ va_K (dC, dI) vwCl [(k3, .int)] t ∧ va_D (va_A [(h0, .inr (1, [.ref u0, .ref u1, .ref h2, .ref h1, .ref u2, .ref u3, .ref u4, .ref u5, .ref u6, .ref u7, .ref u8, .ref u9, .ref u10, .ref u11, .ref u12, .ref h3, .int 0])), (h1, .inr (3, [.ref u1, .ref u13, .ref h2, .ref u14, .ref u15, .ref u16, .ref u17, .ref u18, .int 0, .int 0])), (h2, .inr (7, [.ref u19, .ref u20, .ref u21, .ref u22, .ref u23, .ref u24, .ref u25, .int 0, .int 0, .int 0, .int 0, .int 0])), (h3, .inl (k3, 0, .inl (fun _ => 0)))] sz) [(h0, .inr (1, [.ref u0, .ref u1, .ref h2, .ref h1, .ref u2, .ref u3, .ref u4, .ref u5, .ref u6, .ref u7, .ref u8, .ref u9, .ref u10, .ref u11, .ref u12, .ref h3, .int 0])), (h1, .inr (3, [.ref u1, .ref u13, .ref h2, .ref u14, .ref u15, .ref u16, .ref u17, .ref u18, .int 0, .int 0])), (h2, .inr (7, [.ref u19, .ref u20, .ref u21, .ref u22, .ref u23, .ref u24, .ref u25, .int 0, .int 0, .int 0, .int 0, .int 0])), (h3, .inl (k3, 0, .inl (fun _ => 0)))]) (va_A [(h0, .inr (1, [.ref u0, .ref u1, .ref h2, .ref h1, .ref u2, .ref u3, .ref u4, .ref u5, .ref u6, .ref u7, .ref u8, .ref u9, .ref u10, .ref u11, .ref u12, .ref h3, .int 0])), (h1, .inr (3, [.ref u1, .ref u13, .ref h2, .ref u14, .ref u15, .ref u16, .ref u17, .ref u18, .int 0, .int 0])), (h2, .inr (7, [.ref u19, .ref u20, .ref u21, .ref u22, .ref u23, .ref u24, .ref u25, .int 0, .int 0, .int 0, .int 0, .int 0])), (h3, .inl (k3, 0, .inl (fun _ => 0)))] sz)) 0 0 (va_A [(h0, .inr (1, [.ref u0, .ref u1, .ref h2, .ref h1, .ref u2, .ref u3, .ref u4, .ref u5, .ref u6, .ref u7, .ref u8, .ref u9, .ref u10, .ref u11, .ref u12, .ref h3, .int 0])), (h1, .inr (3, [.ref u1, .ref u13, .ref h2, .ref u14, .ref u15, .ref u16, .ref u17, .ref u18, .int 0, .int 0])), (h2, .inr (7, [.ref u19, .ref u20, .ref u21, .ref u22, .ref u23, .ref u24, .ref u25, .int 0, .int 0, .int 0, .int 0, .int 0])), (h3, .inl (k3, 0, .inl (fun _ => 0)))] sz) := by
  refine Met.ofW (cc := cX1_prepare) (maxL := 2) (ret := none) (by decide) rfl ?_
  intro p e s m args below meth c s₁ B hml hv
  obtain ⟨rfl, hsz, hP, hK, hD0, hE, hZ⟩ := hv
  have hx := B.exec
  have hb := B.bytes
  have hr := B.returns
  have hG : ∀ w ∈ zG, w.before _ s = true := fun w h => atoms_spec (ws := (zw yX1_prepare cX1_prepare 2 none)) B.pre w (List.mem_cons_of_mem _ h)
  have hown : s.vm.findClass RX1 = some m.cls := findClass_of_methodNamed B.named
  have hlocks := B.notSynchronized
  subst hsz
  have hD := hD0.self (sz := s.heap.size)
  generalize hAe : va_A [(h0, .inr (1, [.ref u0, .ref u1, .ref h2, .ref h1, .ref u2, .ref u3, .ref u4, .ref u5, .ref u6, .ref u7, .ref u8, .ref u9, .ref u10, .ref u11, .ref u12, .ref h3, .int 0])), (h1, .inr (3, [.ref u1, .ref u13, .ref h2, .ref u14, .ref u15, .ref u16, .ref u17, .ref u18, .int 0, .int 0])), (h2, .inr (7, [.ref u19, .ref u20, .ref u21, .ref u22, .ref u23, .ref u24, .ref u25, .int 0, .int 0, .int 0, .int 0, .int 0])), (h3, .inl (k3, 0, .inl (fun _ => 0)))] s.heap.size = A at hD hZ ⊢
  have hA : ∀ q : Nat, s.heap.size ≤ q → A q := fun q h => by rw [← hAe]; exact Or.inr h
  have hS : va_S A s.heap s.heap [] := va_S.rf
  have hl := lv_entry ([.ref h0]) (n := 2) (Nat.le_of_ble_eq_true rfl)
  rw [lg_entry_eq]
  generalize (lg_sl ([.ref h0]) ++ List.replicate (2 - (lg_sl ([.ref h0])).length) Slot.unset).toArray = ls at hl ⊢
  have hl : lv_has ls 2 [(0, .ref h0)] := hl
  refine lv_aload_n hx hb dX1_prepare_0 rfl (lv_at hl 0 rfl) ?_
  refine va_get (D := (dC, dI)) (ci := 1) (v := .ref h1) (C := RX1) (T := TX1) (N := 17) hx hb hG zuX1 hown hK hP 0 rfl rfl 3 (by decide) (hG _ zw194) (fun _ h9 => h9) rfl dX1_prepare_1 ?_
  have hPc := hP.sub (ws' := [(h1, .inr (3, [.ref u1, .ref u13, .ref h2, .ref u14, .ref u15, .ref u16, .ref u17, .ref u18, .int 0, .int 0])), (h2, .inr (7, [.ref u19, .ref u20, .ref u21, .ref u22, .ref u23, .ref u24, .ref u25, .int 0, .int 0, .int 0, .int 0, .int 0]))]) [1, 2] rfl
  have hDc := hD.sub (ws' := [(h1, .inr (3, [.ref u1, .ref u13, .ref h2, .ref u14, .ref u15, .ref u16, .ref u17, .ref u18, .int 0, .int 0])), (h2, .inr (7, [.ref u19, .ref u20, .ref u21, .ref u22, .ref u23, .ref u24, .ref u25, .int 0, .int 0, .int 0, .int 0, .int 0]))]) [1, 2] (by decide) rfl
  have hKc := hK.sub (tys' := []) [] rfl
  have hFc := va_free (wc := [(h1, .inr (3, [.ref u1, .ref u13, .ref h2, .ref u14, .ref u15, .ref u16, .ref u17, .ref u18, .int 0, .int 0])), (h2, .inr (7, [.ref u19, .ref u20, .ref u21, .ref u22, .ref u23, .ref u24, .ref u25, .int 0, .int 0, .int 0, .int 0, .int 0]))]) hD hS hA [1, 2] rfl
  refine va_callv (va_runV (As := []) (rest := []) ⟨hx, hb, hml, hown, hG⟩ (kX3_open_0 l dC dI h1 h2 u1 u13 u14 u15 u16 u17 u18 u19 u20 u21 u22 u23 u24 u25 s.heap.size) (cwV 0 hG (zgV zw670 zw671 zw672 zw174 zw673) rfl rfl rfl (by decide +kernel) ⟨Nat.le_of_ble_eq_true rfl, Nat.le_of_ble_eq_true rfl⟩) ⟨zPc_blind, va_recv hKc hPc (ci := 3) (q0 := 0) rfl rfl, zPc_pre hPc hKc hDc hE hS hFc hZ⟩ rfl rfl hl.1 rfl (lv_room (Nat.le_of_ble_eq_true rfl)) dX1_prepare_4 ⟨Nat.le_of_ble_eq_true rfl, Nat.le_of_ble_eq_true rfl⟩) hS (fun q _ h => hFc q h) hFc (fun u t H1 locs ht hvm hw hB hz1 hk1 hS => ?_)
  obtain ⟨hP1, hK1, hD1⟩ := hB
  rw [ht] at hP1
  obtain ⟨hP, hD⟩ := va_join (wr := [(h0, .inr (1, [.ref u0, .ref u1, .ref h2, .ref h1, .ref u2, .ref u3, .ref u4, .ref u5, .ref u6, .ref u7, .ref u8, .ref u9, .ref u10, .ref u11, .ref u12, .ref h3, .int 0])), (h3, .inl (k3, 0, .inl (fun _ => 0)))]) (w1 := [(h1, .inr (3, [.ref u1, .ref u13, .ref h2, .ref u14, .ref u15, .ref u16, .ref u17, .ref u18, .int 0, .int 0])), (h2, .inr (7, [.ref u19, .ref u20, .ref u21, .ref u22, .ref u23, .ref u24, .ref u25, .int 0, .int 0, .int 0, .int 0, .int 0]))]) hP hD [1, 2] [0, 3] rfl rfl (by decide) (by decide) hk1 hFc hP1 hD1
  generalize H1 = H at hP hS ⊢
  have hP : va_P (dC, dI) vwCl [(h0, .inr (1, [.ref u0, .ref u1, .ref h2, .ref h1, .ref u2, .ref u3, .ref u4, .ref u5, .ref u6, .ref u7, .ref u8, .ref u9, .ref u10, .ref u11, .ref u12, .ref h3, .int 0])), (h3, .inl (k3, 0, .inl (fun _ => 0))), (h1, .inr (3, [.ref u1, .ref u13, .ref h2, .ref u14, .ref u15, .ref u16, .ref u17, .ref u18, .int 0, .int 0])), (h2, .inr (7, [.ref u19, .ref u20, .ref u21, .ref u22, .ref u23, .ref u24, .ref u25, .int 0, .int 0, .int 0, .int 0, .int 0]))] H := hP
  have hD : va_D A [(h0, .inr (1, [.ref u0, .ref u1, .ref h2, .ref h1, .ref u2, .ref u3, .ref u4, .ref u5, .ref u6, .ref u7, .ref u8, .ref u9, .ref u10, .ref u11, .ref u12, .ref h3, .int 0])), (h3, .inl (k3, 0, .inl (fun _ => 0))), (h1, .inr (3, [.ref u1, .ref u13, .ref h2, .ref u14, .ref u15, .ref u16, .ref u17, .ref u18, .int 0, .int 0])), (h2, .inr (7, [.ref u19, .ref u20, .ref u21, .ref u22, .ref u23, .ref u24, .ref u25, .int 0, .int 0, .int 0, .int 0, .int 0]))] := hD
  refine lv_aload_n hx hb dX1_prepare_7 rfl (lv_at hl 0 rfl) ?_
  refine va_get (D := (dC, dI)) (ci := 1) (v := .ref h3) (C := RX1) (T := TX1) (N := 17) hx hb hG zuX1 hown hK hP 0 rfl rfl 15 (by decide) (hG _ zw167) (fun _ h9 => h9) rfl dX1_prepare_8 ?_
  refine va_alen (v := 0) hx hb hK hP 1 0 rfl rfl (show Int32.ofNat 0 = 0 from by decide +kernel) dX1_prepare_11 ?_
  refine lv_aload_n hx hb dX1_prepare_12 rfl (lv_at hl 0 rfl) ?_
  refine va_get (D := (dC, dI)) (ci := 1) (v := .ref h2) (C := RX1) (T := TX1) (N := 17) hx hb hG zuX1 hown hK hP 0 rfl rfl 2 (by decide) (hG _ zw171) (fun _ h9 => h9) rfl dX1_prepare_13 ?_
  have hPc := hP.sub (ws' := [(h2, .inr (7, [.ref u19, .ref u20, .ref u21, .ref u22, .ref u23, .ref u24, .ref u25, .int 0, .int 0, .int 0, .int 0, .int 0]))]) [3] rfl
  have hDc := hD.sub (ws' := [(h2, .inr (7, [.ref u19, .ref u20, .ref u21, .ref u22, .ref u23, .ref u24, .ref u25, .int 0, .int 0, .int 0, .int 0, .int 0]))]) [3] (by decide) rfl
  have hKc := hK.sub (tys' := []) [] rfl
  have hFc := va_free (wc := [(h2, .inr (7, [.ref u19, .ref u20, .ref u21, .ref u22, .ref u23, .ref u24, .ref u25, .int 0, .int 0, .int 0, .int 0, .int 0]))]) hD hS hA [3] rfl
  refine va_calli (va_runV (As := []) (rest := [.int 0]) ⟨hx, hb, hml, hown, hG⟩ (kX7_leaves_0 l dC dI h2 u19 u20 u21 u22 u23 u24 u25 H.size) (cwV 0 hG (zgV zw674 zw667 zw668 zw108 zw669) rfl rfl rfl (by decide +kernel) ⟨Nat.le_of_ble_eq_true rfl, Nat.le_of_ble_eq_true rfl⟩) ⟨zPc_blind, va_recv hKc hPc (ci := 7) (q0 := 0) rfl rfl, zPc_pre hPc hKc hDc hE hS hFc hZ⟩ rfl rfl hl.1 rfl (lv_room (Nat.le_of_ble_eq_true rfl)) dX1_prepare_16 ⟨Nat.le_of_ble_eq_true rfl, Nat.le_of_ble_eq_true rfl⟩) hS (fun q _ h => hFc q h) hFc (fun r_5994 u t H1 locs ht hvm hw hB hz1 hk1 hS => ?_)
  have hw : r_5994 = 0 := hw
  subst hw
  obtain ⟨hP1, hK1, hD1⟩ := hB
  rw [ht] at hP1
  obtain ⟨hP, hD⟩ := va_join (wr := [(h0, .inr (1, [.ref u0, .ref u1, .ref h2, .ref h1, .ref u2, .ref u3, .ref u4, .ref u5, .ref u6, .ref u7, .ref u8, .ref u9, .ref u10, .ref u11, .ref u12, .ref h3, .int 0])), (h3, .inl (k3, 0, .inl (fun _ => 0))), (h1, .inr (3, [.ref u1, .ref u13, .ref h2, .ref u14, .ref u15, .ref u16, .ref u17, .ref u18, .int 0, .int 0]))]) (w1 := [(h2, .inr (7, [.ref u19, .ref u20, .ref u21, .ref u22, .ref u23, .ref u24, .ref u25, .int 0, .int 0, .int 0, .int 0, .int 0]))]) hP hD [3] [0, 1, 2] rfl rfl (by decide) (by decide) hk1 hFc hP1 hD1
  generalize H1 = H at hP hS ⊢
  have hP : va_P (dC, dI) vwCl [(h0, .inr (1, [.ref u0, .ref u1, .ref h2, .ref h1, .ref u2, .ref u3, .ref u4, .ref u5, .ref u6, .ref u7, .ref u8, .ref u9, .ref u10, .ref u11, .ref u12, .ref h3, .int 0])), (h3, .inl (k3, 0, .inl (fun _ => 0))), (h1, .inr (3, [.ref u1, .ref u13, .ref h2, .ref u14, .ref u15, .ref u16, .ref u17, .ref u18, .int 0, .int 0])), (h2, .inr (7, [.ref u19, .ref u20, .ref u21, .ref u22, .ref u23, .ref u24, .ref u25, .int 0, .int 0, .int 0, .int 0, .int 0]))] H := hP
  have hD : va_D A [(h0, .inr (1, [.ref u0, .ref u1, .ref h2, .ref h1, .ref u2, .ref u3, .ref u4, .ref u5, .ref u6, .ref u7, .ref u8, .ref u9, .ref u10, .ref u11, .ref u12, .ref h3, .int 0])), (h3, .inl (k3, 0, .inl (fun _ => 0))), (h1, .inr (3, [.ref u1, .ref u13, .ref h2, .ref u14, .ref u15, .ref u16, .ref u17, .ref u18, .int 0, .int 0])), (h2, .inr (7, [.ref u19, .ref u20, .ref u21, .ref u22, .ref u23, .ref u24, .ref u25, .int 0, .int 0, .int 0, .int 0, .int 0]))] := hD
  refine lv_bipush (v := 120) hx hb dX1_prepare_19 (by decide) ?_
  refine lv_imul hx hb dX1_prepare_21 ?_
  refine lv_topi (fun z_5996 e_z_5996 => ?_)
  obtain rfl : z_5996 = (0 : Int32) := e_z_5996.trans (by decide)
  refine lv_icmp_ge (tgt := 50) hx hb dX1_prepare_22 (by decide) (fun c_5997 => ?_) (fun c_5997 => absurd c_5997 (by decide))
  refine lv_iconst (v := 0) hx hb dX1_prepare_50 (by decide) ?_
  refine lv_istore_n (lv' := [(1, .int 0), (0, .ref h0)]) hx hb dX1_prepare_51 rfl hl (by decide) rfl (fun ls hl => ?_)
  refine lv_iload_n hx hb dX1_prepare_52 rfl (lv_at hl 0 rfl) ?_
  refine lv_aload_n hx hb dX1_prepare_53 rfl (lv_at hl 1 rfl) ?_
  refine va_get (D := (dC, dI)) (ci := 1) (v := .ref h2) (C := RX1) (T := TX1) (N := 17) hx hb hG zuX1 hown hK hP 0 rfl rfl 2 (by decide) (hG _ zw171) (fun _ h9 => h9) rfl dX1_prepare_54 ?_
  have hPc := hP.sub (ws' := [(h2, .inr (7, [.ref u19, .ref u20, .ref u21, .ref u22, .ref u23, .ref u24, .ref u25, .int 0, .int 0, .int 0, .int 0, .int 0]))]) [3] rfl
  have hDc := hD.sub (ws' := [(h2, .inr (7, [.ref u19, .ref u20, .ref u21, .ref u22, .ref u23, .ref u24, .ref u25, .int 0, .int 0, .int 0, .int 0, .int 0]))]) [3] (by decide) rfl
  have hKc := hK.sub (tys' := []) [] rfl
  have hFc := va_free (wc := [(h2, .inr (7, [.ref u19, .ref u20, .ref u21, .ref u22, .ref u23, .ref u24, .ref u25, .int 0, .int 0, .int 0, .int 0, .int 0]))]) hD hS hA [3] rfl
  refine va_calli (va_runV (As := []) (rest := [.int 0]) ⟨hx, hb, hml, hown, hG⟩ (kX7_leaves_0 l dC dI h2 u19 u20 u21 u22 u23 u24 u25 H.size) (cwV 0 hG (zgV zw674 zw667 zw668 zw108 zw669) rfl rfl rfl (by decide +kernel) ⟨Nat.le_of_ble_eq_true rfl, Nat.le_of_ble_eq_true rfl⟩) ⟨zPc_blind, va_recv hKc hPc (ci := 7) (q0 := 0) rfl rfl, zPc_pre hPc hKc hDc hE hS hFc hZ⟩ rfl rfl hl.1 rfl (lv_room (Nat.le_of_ble_eq_true rfl)) dX1_prepare_57 ⟨Nat.le_of_ble_eq_true rfl, Nat.le_of_ble_eq_true rfl⟩) hS (fun q _ h => hFc q h) hFc (fun r_5998 u t H1 locs ht hvm hw hB hz1 hk1 hS => ?_)
  have hw : r_5998 = 0 := hw
  subst hw
  obtain ⟨hP1, hK1, hD1⟩ := hB
  rw [ht] at hP1
  obtain ⟨hP, hD⟩ := va_join (wr := [(h0, .inr (1, [.ref u0, .ref u1, .ref h2, .ref h1, .ref u2, .ref u3, .ref u4, .ref u5, .ref u6, .ref u7, .ref u8, .ref u9, .ref u10, .ref u11, .ref u12, .ref h3, .int 0])), (h3, .inl (k3, 0, .inl (fun _ => 0))), (h1, .inr (3, [.ref u1, .ref u13, .ref h2, .ref u14, .ref u15, .ref u16, .ref u17, .ref u18, .int 0, .int 0]))]) (w1 := [(h2, .inr (7, [.ref u19, .ref u20, .ref u21, .ref u22, .ref u23, .ref u24, .ref u25, .int 0, .int 0, .int 0, .int 0, .int 0]))]) hP hD [3] [0, 1, 2] rfl rfl (by decide) (by decide) hk1 hFc hP1 hD1
  generalize H1 = H at hP hS ⊢
  have hP : va_P (dC, dI) vwCl [(h0, .inr (1, [.ref u0, .ref u1, .ref h2, .ref h1, .ref u2, .ref u3, .ref u4, .ref u5, .ref u6, .ref u7, .ref u8, .ref u9, .ref u10, .ref u11, .ref u12, .ref h3, .int 0])), (h3, .inl (k3, 0, .inl (fun _ => 0))), (h1, .inr (3, [.ref u1, .ref u13, .ref h2, .ref u14, .ref u15, .ref u16, .ref u17, .ref u18, .int 0, .int 0])), (h2, .inr (7, [.ref u19, .ref u20, .ref u21, .ref u22, .ref u23, .ref u24, .ref u25, .int 0, .int 0, .int 0, .int 0, .int 0]))] H := hP
  have hD : va_D A [(h0, .inr (1, [.ref u0, .ref u1, .ref h2, .ref h1, .ref u2, .ref u3, .ref u4, .ref u5, .ref u6, .ref u7, .ref u8, .ref u9, .ref u10, .ref u11, .ref u12, .ref h3, .int 0])), (h3, .inl (k3, 0, .inl (fun _ => 0))), (h1, .inr (3, [.ref u1, .ref u13, .ref h2, .ref u14, .ref u15, .ref u16, .ref u17, .ref u18, .int 0, .int 0])), (h2, .inr (7, [.ref u19, .ref u20, .ref u21, .ref u22, .ref u23, .ref u24, .ref u25, .int 0, .int 0, .int 0, .int 0, .int 0]))] := hD
  refine lv_icmp_ge (tgt := 98) hx hb dX1_prepare_60 (by decide) (fun c_6000 => ?_) (fun c_6000 => absurd c_6000 (by decide))
  have hP9 := hP.sub (ws' := [(h0, .inr (1, [.ref u0, .ref u1, .ref h2, .ref h1, .ref u2, .ref u3, .ref u4, .ref u5, .ref u6, .ref u7, .ref u8, .ref u9, .ref u10, .ref u11, .ref u12, .ref h3, .int 0])), (h1, .inr (3, [.ref u1, .ref u13, .ref h2, .ref u14, .ref u15, .ref u16, .ref u17, .ref u18, .int 0, .int 0])), (h2, .inr (7, [.ref u19, .ref u20, .ref u21, .ref u22, .ref u23, .ref u24, .ref u25, .int 0, .int 0, .int 0, .int 0, .int 0])), (h3, .inl (k3, 0, .inl (fun _ => 0)))]) [0, 2, 3, 1] rfl
  have hD9 := hD.sub (ws' := [(h0, .inr (1, [.ref u0, .ref u1, .ref h2, .ref h1, .ref u2, .ref u3, .ref u4, .ref u5, .ref u6, .ref u7, .ref u8, .ref u9, .ref u10, .ref u11, .ref u12, .ref h3, .int 0])), (h1, .inr (3, [.ref u1, .ref u13, .ref h2, .ref u14, .ref u15, .ref u16, .ref u17, .ref u18, .int 0, .int 0])), (h2, .inr (7, [.ref u19, .ref u20, .ref u21, .ref u22, .ref u23, .ref u24, .ref u25, .int 0, .int 0, .int 0, .int 0, .int 0])), (h3, .inl (k3, 0, .inl (fun _ => 0)))]) [0, 2, 3, 1] (by decide) rfl
  have hK9 := hK.sub (tys' := [(k3, .int)]) [0] rfl
  refine W.widen (k := 0) (n := 0) (by decide) (by decide) ?_
  exact W.vret hx hb hr (fun t ht hW => ⟨⟨(), rfl, trivial, by rw [ht]; exact hP9, va_K.moved hW.alike hK9, hD9⟩, hS.F ht⟩) hS.2.2 dX1_prepare_98
