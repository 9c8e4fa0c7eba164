set_option maxHeartbeats 4000000 in
set_option maxRecDepth 100000 in
theorem kX4_readAll_0 (l : Launch) (dC : Nat → ClassId) (dI : Nat → Nat → Nat) (h0 u0 u1 u2 u3 : Nat) (sz : Nat) : Met l yX4_readAll (zw yX4_readAll cX4_readAll 2 none) { frames := 5, cells := 0, slots := 0, locals := 114 } (zPc dC dI [.ref h0] sz [(h0, .inr (4, [.ref u0, .ref u1, .ref u2, .ref u3, .int 256, .int 0, .int 1, .int 0, .int (-1), .int 0, .int 0, .int 0]))] []) (va_Qv (fun _ : Unit => True) (fun (_ : Unit) (t : State) => va_P (dC, dI) vwCl [(h0, .inr (4, [.ref u0, .ref u1, .ref u2, .ref u3, .int 265, .int 0, .int 1, .int 1001, .int (-1), .int 0, .int 0, .int 0]))] t.heap ∧ va_K (dC, dI) vwCl [] t ∧ va_D (va_A [(h0, .inr (4, [.ref u0, .ref u1, .ref u2, .ref u3, .int 256, .int 0, .int 1, .int 0, .int (-1), .int 0, .int 0, .int 0]))] sz) [(h0, .inr (4, [.ref u0, .ref u1, .ref u2, .ref u3, .int 265, .int 0, .int 1, .int 1001, .int (-1), .int 0, .int 0, .int 0]))]) (va_A [(h0, .inr (4, [.ref u0, .ref u1, .ref u2, .ref u3, .int 256, .int 0, .int 1, .int 0, .int (-1), .int 0, .int 0, .int 0]))] sz)) 0 0 (va_A [(h0, .inr (4, [.ref u0, .ref u1, .ref u2, .ref u3, .int 256, .int 0, .int 1, .int 0, .int (-1), .int 0, .int 0, .int 0]))] sz) := by
  refine Met.ofW (cc := cX4_readAll) (maxL := 2) (ret := none) (by decide) rfl ?_
  intro p e s m args below meth c s₁ B hml hv
  obtain ⟨rfl, hsz, hP, hK, hD0, hE, hZ⟩ := hv
  have hx := B.exec
  have hb := B.bytes
  have hr := B.returns
  have hG : ∀ w ∈ zG, w.before _ s = true := fun w h => atoms_spec (ws := (zw yX4_readAll cX4_readAll 2 none)) B.pre w (List.mem_cons_of_mem _ h)
  have hown : s.vm.findClass RX4 = some m.cls := findClass_of_methodNamed B.named
  have hlocks := B.notSynchronized
  subst hsz
  have hD := hD0.self (sz := s.heap.size)
  generalize hAe : va_A [(h0, .inr (4, [.ref u0, .ref u1, .ref u2, .ref u3, .int 256, .int 0, .int 1, .int 0, .int (-1), .int 0, .int 0, .int 0]))] s.heap.size = A at hD hZ ⊢
  have hA : ∀ q : Nat, s.heap.size ≤ q → A q := fun q h => by rw [← hAe]; exact Or.inr h
  have hS : va_S A s.heap s.heap [] := va_S.rf
  have hl := lv_entry ([.ref h0]) (n := 2) (Nat.le_of_ble_eq_true rfl)
  rw [lg_entry_eq]
  generalize (lg_sl ([.ref h0]) ++ List.replicate (2 - (lg_sl ([.ref h0])).length) Slot.unset).toArray = ls at hl ⊢
  have hl : lv_has ls 2 [(0, .ref h0)] := hl
  refine lv_aload_n hx hb dX4_readAll_0 rfl (lv_at hl 0 rfl) ?_
  have hPc := hP.sub (ws' := [(h0, .inr (4, [.ref u0, .ref u1, .ref u2, .ref u3, .int 256, .int 0, .int 1, .int 0, .int (-1), .int 0, .int 0, .int 0]))]) [0] rfl
  have hDc := hD.sub (ws' := [(h0, .inr (4, [.ref u0, .ref u1, .ref u2, .ref u3, .int 256, .int 0, .int 1, .int 0, .int (-1), .int 0, .int 0, .int 0]))]) [0] (by decide) rfl
  have hKc := hK.sub (tys' := []) [] rfl
  have hFc := va_free (wc := [(h0, .inr (4, [.ref u0, .ref u1, .ref u2, .ref u3, .int 256, .int 0, .int 1, .int 0, .int (-1), .int 0, .int 0, .int 0]))]) hD hS hA [0] rfl
  refine va_calli (va_runV (As := []) (rest := []) ⟨hx, hb, hml, hown, hG⟩ (kX4_readNots_0 l dC dI h0 u0 u1 u2 u3 s.heap.size) (cwV 0 hG (zgV zw645 zw646 zw647 zw127 zw648) rfl rfl rfl (by decide +kernel) ⟨Nat.le_of_ble_eq_true rfl, Nat.le_of_ble_eq_true rfl⟩) ⟨zPc_blind, va_recv hKc hPc (ci := 4) (q0 := 0) rfl rfl, zPc_pre hPc hKc hDc hE hS hFc hZ⟩ rfl rfl hl.1 rfl (lv_room (Nat.le_of_ble_eq_true rfl)) dX4_readAll_1 ⟨Nat.le_of_ble_eq_true rfl, Nat.le_of_ble_eq_true rfl⟩) hS (fun q _ h => hFc q h) hFc (fun r_5740 u t H1 locs ht hvm hw hB hz1 hk1 hS => ?_)
  have hw : r_5740 = 0 := hw
  subst hw
  obtain ⟨hP1, hK1, hD1⟩ := hB
  rw [ht] at hP1
  obtain ⟨hP, hD⟩ := va_join (wr := []) (w1 := [(h0, .inr (4, [.ref u0, .ref u1, .ref u2, .ref u3, .int 265, .int 0, .int 1, .int 1001, .int (-1), .int 0, .int 0, .int 0]))]) hP hD [0] [] rfl rfl (by decide) (by decide) hk1 hFc hP1 hD1
  generalize H1 = H at hP hS ⊢
  have hP : va_P (dC, dI) vwCl [(h0, .inr (4, [.ref u0, .ref u1, .ref u2, .ref u3, .int 265, .int 0, .int 1, .int 1001, .int (-1), .int 0, .int 0, .int 0]))] H := hP
  have hD : va_D A [(h0, .inr (4, [.ref u0, .ref u1, .ref u2, .ref u3, .int 265, .int 0, .int 1, .int 1001, .int (-1), .int 0, .int 0, .int 0]))] := hD
  refine lv_if_eq (tgt := 17) hx hb dX4_readAll_4 (by decide) (fun c_5742 => ?_) (fun c_5742 => absurd c_5742 (by decide))
  refine lv_iconst (v := 0) hx hb dX4_readAll_17 (by decide) ?_
  refine lv_istore_n (lv' := [(1, .int 0), (0, .ref h0)]) hx hb dX4_readAll_18 rfl hl (by decide) rfl (fun ls hl => ?_)
  refine lv_iload_n hx hb dX4_readAll_19 rfl (lv_at hl 0 rfl) ?_
  refine lv_sipush (v := 600) hx hb dX4_readAll_20 (by decide) ?_
  refine lv_icmp_ge (tgt := 75) hx hb dX4_readAll_23 (by decide) (fun c_5743 => absurd c_5743 (by decide)) (fun c_5743 => ?_)
  refine lv_aload_n hx hb dX4_readAll_26 rfl (lv_at hl 1 rfl) ?_
  have hPc := hP.sub (ws' := [(h0, .inr (4, [.ref u0, .ref u1, .ref u2, .ref u3, .int 265, .int 0, .int 1, .int 1001, .int (-1), .int 0, .int 0, .int 0]))]) [0] rfl
  have hDc := hD.sub (ws' := [(h0, .inr (4, [.ref u0, .ref u1, .ref u2, .ref u3, .int 265, .int 0, .int 1, .int 1001, .int (-1), .int 0, .int 0, .int 0]))]) [0] (by decide) rfl
  have hKc := hK.sub (tys' := []) [] rfl
  have hFc := va_free (wc := [(h0, .inr (4, [.ref u0, .ref u1, .ref u2, .ref u3, .int 265, .int 0, .int 1, .int 1001, .int (-1), .int 0, .int 0, .int 0]))]) hD hS hA [0] rfl
  refine va_calli (va_runV (As := []) (rest := []) ⟨hx, hb, hml, hown, hG⟩ (kX4_goesOn_0 l dC dI h0 u0 u1 u2 u3 H.size) (cwV 0 hG (zgV zw649 zw650 zw651 zw127 zw652) rfl rfl rfl (by decide +kernel) ⟨Nat.le_of_ble_eq_true rfl, Nat.le_of_ble_eq_true rfl⟩) ⟨zPc_blind, va_recv hKc hPc (ci := 4) (q0 := 0) rfl rfl, zPc_pre hPc hKc hDc hE hS hFc hZ⟩ rfl rfl hl.1 rfl (lv_room (Nat.le_of_ble_eq_true rfl)) dX4_readAll_27 ⟨Nat.le_of_ble_eq_true rfl, Nat.le_of_ble_eq_true rfl⟩) hS (fun q _ h => hFc q h) hFc (fun r_5744 u t H1 locs ht hvm hw hB hz1 hk1 hS => ?_)
  have hw : r_5744 = 0 := hw
  subst hw
  obtain ⟨hP1, hK1, hD1⟩ := hB
  rw [ht] at hP1
  obtain ⟨hP, hD⟩ := va_join (wr := []) (w1 := [(h0, .inr (4, [.ref u0, .ref u1, .ref u2, .ref u3, .int 265, .int 0, .int 1, .int 1001, .int (-1), .int 0, .int 0, .int 0]))]) hP hD [0] [] rfl rfl (by decide) (by decide) hk1 hFc hP1 hD1
  generalize H1 = H at hP hS ⊢
  have hP : va_P (dC, dI) vwCl [(h0, .inr (4, [.ref u0, .ref u1, .ref u2, .ref u3, .int 265, .int 0, .int 1, .int 1001, .int (-1), .int 0, .int 0, .int 0]))] H := hP
  have hD : va_D A [(h0, .inr (4, [.ref u0, .ref u1, .ref u2, .ref u3, .int 265, .int 0, .int 1, .int 1001, .int (-1), .int 0, .int 0, .int 0]))] := hD
  refine lv_if_eq (tgt := 75) hx hb dX4_readAll_30 (by decide) (fun c_5746 => ?_) (fun c_5746 => absurd c_5746 (by decide))
  have hP9 := hP.sub (ws' := [(h0, .inr (4, [.ref u0, .ref u1, .ref u2, .ref u3, .int 265, .int 0, .int 1, .int 1001, .int (-1), .int 0, .int 0, .int 0]))]) [0] rfl
  have hD9 := hD.sub (ws' := [(h0, .inr (4, [.ref u0, .ref u1, .ref u2, .ref u3, .int 265, .int 0, .int 1, .int 1001, .int (-1), .int 0, .int 0, .int 0]))]) [0] (by decide) rfl
  have hK9 := hK.sub (tys' := []) [] rfl
  refine W.widen (k := 0) (n := 0) (by decide) (by decide) ?_
  exact W.vret hx hb hr (fun t ht hW => ⟨⟨(), rfl, trivial, by rw [ht]; exact hP9, va_K.moved hW.alike hK9, hD9⟩, hS.F ht⟩) hS.2.2 dX4_readAll_75
set_option maxHeartbeats 4000000 in
set_option maxRecDepth 100000 in
theorem kX4_readQuery_0 (l : Launch) (dC : Nat → ClassId) (dI : Nat → Nat → Nat) (h0 u0 u1 u2 u3 : Nat) (sz : Nat) : Met l yX4_readQuery (zw yX4_readQuery cX4_readQuery 2 none) { frames := 6, cells := 0, slots := 0, locals := 135 } (zPc dC dI [.ref h0] sz [(h0, .inr (4, [.ref u0, .ref u1, .ref u2, .ref u3, .int 256, .int 0, .int 1, .int 0, .int (-1), .int 0, .int 0, .int 0]))] []) (va_Qv (fun _ : Unit => True) (fun (_ : Unit) (t : State) => va_P (dC, dI) vwCl [(h0, .inr (4, [.ref u0, .ref u1, .ref u2, .ref u3, .int 265, .int 0, .int 1, .int 1001, .int (-1), .int 0, .int 0, .int 0]))] t.heap ∧ va_K (dC, dI) vwCl [] t ∧ va_D (va_A [(h0, .inr (4, [.ref u0, .ref u1, .ref u2, .ref u3, .int 256, .int 0, .int 1, .int 0, .int (-1), .int 0, .int 0, .int 0]))] sz) [(h0, .inr (4, [.ref u0, .ref u1, .ref u2, .ref u3, .int 265, .int 0, .int 1, .int 1001, .int (-1), .int 0, .int 0, .int 0]))]) (va_A [(h0, .inr (4, [.ref u0, .ref u1, .ref u2, .ref u3, .int 256, .int 0, .int 1, .int 0, .int (-1), .int 0, .int 0, .int 0]))] sz)) 0 0 (va_A [(h0, .inr (4, [.ref u0, .ref u1, .ref u2, .ref u3, .int 256, .int 0, .int 1, .int 0, .int (-1), .int 0, .int 0, .int 0]))] sz) := by
  refine Met.ofW (cc := cX4_readQuery) (maxL := 2) (ret := none) (by decide) rfl ?_
  intro p e s m args below meth c s₁ B hml hv
  obtain ⟨rfl, hsz, hP, hK, hD0, hE, hZ⟩ := hv
  have hx := B.exec
  have hb := B.bytes
  have hr := B.returns
  have hG : ∀ w ∈ zG, w.before _ s = true := fun w h => atoms_spec (ws := (zw yX4_readQuery cX4_readQuery 2 none)) B.pre w (List.mem_cons_of_mem _ h)
  have hown : s.vm.findClass RX4 = some m.cls := findClass_of_methodNamed B.named
  have hlocks := B.notSynchronized
  subst hsz
  have hD := hD0.self (sz := s.heap.size)
  generalize hAe : va_A [(h0, .inr (4, [.ref u0, .ref u1, .ref u2, .ref u3, .int 256, .int 0, .int 1, .int 0, .int (-1), .int 0, .int 0, .int 0]))] s.heap.size = A at hD hZ ⊢
  have hA : ∀ q : Nat, s.heap.size ≤ q → A q := fun q h => by rw [← hAe]; exact Or.inr h
  have hS : va_S A s.heap s.heap [] := va_S.rf
  have hl := lv_entry ([.ref h0]) (n := 2) (Nat.le_of_ble_eq_true rfl)
  rw [lg_entry_eq]
  generalize (lg_sl ([.ref h0]) ++ List.replicate (2 - (lg_sl ([.ref h0])).length) Slot.unset).toArray = ls at hl ⊢
  have hl : lv_has ls 2 [(0, .ref h0)] := hl
  refine lv_aload_n hx hb dX4_readQuery_0 rfl (lv_at hl 0 rfl) ?_
  have hPc := hP.sub (ws' := [(h0, .inr (4, [.ref u0, .ref u1, .ref u2, .ref u3, .int 256, .int 0, .int 1, .int 0, .int (-1), .int 0, .int 0, .int 0]))]) [0] rfl
  have hDc := hD.sub (ws' := [(h0, .inr (4, [.ref u0, .ref u1, .ref u2, .ref u3, .int 256, .int 0, .int 1, .int 0, .int (-1), .int 0, .int 0, .int 0]))]) [0] (by decide) rfl
  have hKc := hK.sub (tys' := []) [] rfl
  have hFc := va_free (wc := [(h0, .inr (4, [.ref u0, .ref u1, .ref u2, .ref u3, .int 256, .int 0, .int 1, .int 0, .int (-1), .int 0, .int 0, .int 0]))]) hD hS hA [0] rfl
  refine va_callv (va_runV (As := []) (rest := []) ⟨hx, hb, hml, hown, hG⟩ (kX4_readAll_0 l dC dI h0 u0 u1 u2 u3 s.heap.size) (cwV 0 hG (zgV zw653 zw654 zw655 zw127 zw656) rfl rfl rfl (by decide +kernel) ⟨Nat.le_of_ble_eq_true rfl, Nat.le_of_ble_eq_true rfl⟩) ⟨zPc_blind, va_recv hKc hPc (ci := 4) (q0 := 0) rfl rfl, zPc_pre hPc hKc hDc hE hS hFc hZ⟩ rfl rfl hl.1 rfl (lv_room (Nat.le_of_ble_eq_true rfl)) dX4_readQuery_1 ⟨Nat.le_of_ble_eq_true rfl, Nat.le_of_ble_eq_true rfl⟩) hS (fun q _ h => hFc q h) hFc (fun u t H1 locs ht hvm hw hB hz1 hk1 hS => ?_)
  obtain ⟨hP1, hK1, hD1⟩ := hB
  rw [ht] at hP1
  obtain ⟨hP, hD⟩ := va_join (wr := []) (w1 := [(h0, .inr (4, [.ref u0, .ref u1, .ref u2, .ref u3, .int 265, .int 0, .int 1, .int 1001, .int (-1), .int 0, .int 0, .int 0]))]) hP hD [0] [] rfl rfl (by decide) (by decide) hk1 hFc hP1 hD1
  generalize H1 = H at hP hS ⊢
  have hP : va_P (dC, dI) vwCl [(h0, .inr (4, [.ref u0, .ref u1, .ref u2, .ref u3, .int 265, .int 0, .int 1, .int 1001, .int (-1), .int 0, .int 0, .int 0]))] H := hP
  have hD : va_D A [(h0, .inr (4, [.ref u0, .ref u1, .ref u2, .ref u3, .int 265, .int 0, .int 1, .int 1001, .int (-1), .int 0, .int 0, .int 0]))] := hD
  refine lv_iconst (v := 0) hx hb dX4_readQuery_4 (by decide) ?_
  refine lv_istore_n (lv' := [(1, .int 0), (0, .ref h0)]) hx hb dX4_readQuery_5 rfl hl (by decide) rfl (fun ls hl => ?_)
  refine lv_iload_n hx hb dX4_readQuery_6 rfl (lv_at hl 0 rfl) ?_
  refine lv_sipush (v := 600) hx hb dX4_readQuery_7 (by decide) ?_
  refine lv_icmp_ge (tgt := 47) hx hb dX4_readQuery_10 (by decide) (fun c_5819 => absurd c_5819 (by decide)) (fun c_5819 => ?_)
  refine lv_aload_n hx hb dX4_readQuery_13 rfl (lv_at hl 1 rfl) ?_
  refine va_get (D := (dC, dI)) (ci := 4) (v := .int 265) (C := RX4) (T := TX4) (N := 12) hx hb hG zuX4 hown hK hP 0 rfl rfl 4 (by decide) (hG _ zw129) (fun _ h9 => h9) rfl dX4_readQuery_14 ?_
  refine lv_sipush (v := 258) hx hb dX4_readQuery_17 (by decide) ?_
  refine lv_icmp_ne (tgt := 47) hx hb dX4_readQuery_20 (by decide) (fun c_5820 => ?_) (fun c_5820 => absurd c_5820 (by decide))
  have hP9 := hP.sub (ws' := [(h0, .inr (4, [.ref u0, .ref u1, .ref u2, .ref u3, .int 265, .int 0, .int 1, .int 1001, .int (-1), .int 0, .int 0, .int 0]))]) [0] rfl
  have hD9 := hD.sub (ws' := [(h0, .inr (4, [.ref u0, .ref u1, .ref u2, .ref u3, .int 265, .int 0, .int 1, .int 1001, .int (-1), .int 0, .int 0, .int 0]))]) [0] (by decide) rfl
  have hK9 := hK.sub (tys' := []) [] rfl
  refine W.widen (k := 0) (n := 0) (by decide) (by decide) ?_
  exact W.vret hx hb hr (fun t ht hW => ⟨⟨(), rfl, trivial, by rw [ht]; exact hP9, va_K.moved hW.alike hK9, hD9⟩, hS.F ht⟩) hS.2.2 dX4_readQuery_47
