set_option maxHeartbeats 4000000 in
set_option maxRecDepth 100000 in
theorem kX9_firstWord_0 (l : Launch) (dC : Nat → ClassId) (dI : Nat → Nat → Nat) (h0 u0 u1 : Nat) (sz : Nat) : Met l yX9_firstWord (zw yX9_firstWord cX9_firstWord 2 (some .long)) { frames := 0, cells := 0, slots := 0, locals := 0 } (zPc dC dI [.ref h0] sz [(h0, .inr (9, [.ref u0, .ref u1, .int 0, .int 0]))] []) (va_Ql (fun (r : Int64) (_ : Unit) => r = 0) (fun (_ : Unit) (t : State) => va_P (dC, dI) vwCl [(h0, .inr (9, [.ref u0, .ref u1, .int 0, .int 0]))] t.heap ∧ va_K (dC, dI) vwCl [] t ∧ va_D (va_A [(h0, .inr (9, [.ref u0, .ref u1, .int 0, .int 0]))] sz) [(h0, .inr (9, [.ref u0, .ref u1, .int 0, .int 0]))]) (va_A [(h0, .inr (9, [.ref u0, .ref u1, .int 0, .int 0]))] sz)) 0 0 (va_A [(h0, .inr (9, [.ref u0, .ref u1, .int 0, .int 0]))] sz) := by
  refine Met.ofW (cc := cX9_firstWord) (maxL := 2) (ret := (some .long)) (by decide) rfl ?_
  intro p e s m args below meth c s₁ B hml hv
  obtain ⟨rfl, hsz, hP, hK, hD0, hE, hZ⟩ := hv
  have hx := B.exec
  have hb := B.bytes
  have hr := B.returns
  have hG : ∀ w ∈ zG, w.before _ s = true := fun w h => atoms_spec (ws := (zw yX9_firstWord cX9_firstWord 2 (some .long))) B.pre w (List.mem_cons_of_mem _ h)
  have hown : s.vm.findClass RX9 = some m.cls := findClass_of_methodNamed B.named
  have hlocks := B.notSynchronized
  subst hsz
  have hD := hD0.self (sz := s.heap.size)
  generalize hAe : va_A [(h0, .inr (9, [.ref u0, .ref u1, .int 0, .int 0]))] s.heap.size = A at hD hZ ⊢
  have hA : ∀ q : Nat, s.heap.size ≤ q → A q := fun q h => by rw [← hAe]; exact Or.inr h
  have hS : va_S A s.heap s.heap [] := va_S.rf
  have hl := lv_entry ([.ref h0]) (n := 2) (Nat.le_of_ble_eq_true rfl)
  rw [lg_entry_eq]
  generalize (lg_sl ([.ref h0]) ++ List.replicate (2 - (lg_sl ([.ref h0])).length) Slot.unset).toArray = ls at hl ⊢
  have hl : lv_has ls 2 [(0, .ref h0)] := hl
  refine lv_iconst (v := 0) hx hb dX9_firstWord_0 (by decide) ?_
  refine lv_istore_n (lv' := [(1, .int 0), (0, .ref h0)]) hx hb dX9_firstWord_1 rfl hl (by decide) rfl (fun ls hl => ?_)
  refine lv_iload_n hx hb dX9_firstWord_2 rfl (lv_at hl 0 rfl) ?_
  refine lv_aload_n hx hb dX9_firstWord_3 rfl (lv_at hl 1 rfl) ?_
  refine va_get (D := (dC, dI)) (ci := 9) (v := .int 0) (C := RX9) (T := TX9) (N := 4) hx hb hG zuX9 hown hK hP 0 rfl rfl 2 (by decide) (hG _ zw13) (fun _ h9 => h9) rfl dX9_firstWord_4 ?_
  refine lv_icmp_ge (tgt := 30) hx hb dX9_firstWord_7 (by decide) (fun c_4728 => ?_) (fun c_4728 => absurd c_4728 (by decide))
  refine lv_lconst (v := 0) hx hb dX9_firstWord_30 (by decide) ?_
  have hP9 := hP.sub (ws' := [(h0, .inr (9, [.ref u0, .ref u1, .int 0, .int 0]))]) [0] rfl
  have hD9 := hD.sub (ws' := [(h0, .inr (9, [.ref u0, .ref u1, .int 0, .int 0]))]) [0] (by decide) rfl
  have hK9 := hK.sub (tys' := []) [] rfl
  refine W.widen (k := 0) (n := 0) (by decide) (by decide) ?_
  exact W.lret (v := 0) hx hb hr (fun t ht hW => ⟨⟨0, (), rfl, rfl, by rw [ht]; exact hP9, va_K.moved hW.alike hK9, hD9⟩, hS.F ht⟩) hS.2.2 dX9_firstWord_31
set_option maxHeartbeats 4000000 in
set_option maxRecDepth 100000 in
theorem kX11_stop_0 (l : Launch) (dC : Nat → ClassId) (dI : Nat → Nat → Nat) (h0 h1 u0 u1 u2 u3 u4 u5 u6 u7 u8 u9 u10 : Nat) (sz : Nat) : Met l yX11_stop (zw yX11_stop cX11_stop 5 (some .int)) { frames := 1, cells := 0, slots := 0, locals := 21 } (zPc dC dI [.ref h0, .int 0] sz [(h0, .inr (11, [.ref h1, .ref u0, .ref u1, .ref u2, .ref u3, .ref u4, .ref u5, .ref u6, .ref u7, .ref u8, .null, .long (-1)])), (h1, .inr (9, [.ref u9, .ref u10, .int 0, .int 0]))] []) (va_Qi (fun (r : Int32) (_ : Unit) => r = (-1)) (fun (_ : Unit) (t : State) => va_P (dC, dI) vwCl [(h0, .inr (11, [.ref h1, .ref u0, .ref u1, .ref u2, .ref u3, .ref u4, .ref u5, .ref u6, .ref u7, .ref u8, .null, .long (-1)])), (h1, .inr (9, [.ref u9, .ref u10, .int 0, .int 0]))] t.heap ∧ va_K (dC, dI) vwCl [] t ∧ va_D (va_A [(h0, .inr (11, [.ref h1, .ref u0, .ref u1, .ref u2, .ref u3, .ref u4, .ref u5, .ref u6, .ref u7, .ref u8, .null, .long (-1)])), (h1, .inr (9, [.ref u9, .ref u10, .int 0, .int 0]))] sz) [(h0, .inr (11, [.ref h1, .ref u0, .ref u1, .ref u2, .ref u3, .ref u4, .ref u5, .ref u6, .ref u7, .ref u8, .null, .long (-1)])), (h1, .inr (9, [.ref u9, .ref u10, .int 0, .int 0]))]) (va_A [(h0, .inr (11, [.ref h1, .ref u0, .ref u1, .ref u2, .ref u3, .ref u4, .ref u5, .ref u6, .ref u7, .ref u8, .null, .long (-1)])), (h1, .inr (9, [.ref u9, .ref u10, .int 0, .int 0]))] sz)) 0 0 (va_A [(h0, .inr (11, [.ref h1, .ref u0, .ref u1, .ref u2, .ref u3, .ref u4, .ref u5, .ref u6, .ref u7, .ref u8, .null, .long (-1)])), (h1, .inr (9, [.ref u9, .ref u10, .int 0, .int 0]))] sz) := by
  refine Met.ofW (cc := cX11_stop) (maxL := 5) (ret := (some .int)) (by decide) rfl ?_
  intro p e s m args below meth c s₁ B hml hv
  obtain ⟨rfl, hsz, hP, hK, hD0, hE, hZ⟩ := hv
  have hx := B.exec
  have hb := B.bytes
  have hr := B.returns
  have hG : ∀ w ∈ zG, w.before _ s = true := fun w h => atoms_spec (ws := (zw yX11_stop cX11_stop 5 (some .int))) B.pre w (List.mem_cons_of_mem _ h)
  have hown : s.vm.findClass RX11 = some m.cls := findClass_of_methodNamed B.named
  have hlocks := B.notSynchronized
  subst hsz
  have hD := hD0.self (sz := s.heap.size)
  generalize hAe : va_A [(h0, .inr (11, [.ref h1, .ref u0, .ref u1, .ref u2, .ref u3, .ref u4, .ref u5, .ref u6, .ref u7, .ref u8, .null, .long (-1)])), (h1, .inr (9, [.ref u9, .ref u10, .int 0, .int 0]))] s.heap.size = A at hD hZ ⊢
  have hA : ∀ q : Nat, s.heap.size ≤ q → A q := fun q h => by rw [← hAe]; exact Or.inr h
  have hS : va_S A s.heap s.heap [] := va_S.rf
  have hl := lv_entry ([.ref h0, .int 0]) (n := 5) (Nat.le_of_ble_eq_true rfl)
  rw [lg_entry_eq]
  generalize (lg_sl ([.ref h0, .int 0]) ++ List.replicate (5 - (lg_sl ([.ref h0, .int 0])).length) Slot.unset).toArray = ls at hl ⊢
  have hl : lv_has ls 5 [(0, .ref h0), (1, .int 0)] := hl
  refine lv_aload_n hx hb dX11_stop_0 rfl (lv_at hl 0 rfl) ?_
  refine va_get (D := (dC, dI)) (ci := 11) (v := .ref h1) (C := RX11) (T := TX11) (N := 12) hx hb hG zuX11 hown hK hP 0 rfl rfl 0 (by decide) (hG _ zw17) (fun _ h9 => h9) rfl dX11_stop_1 ?_
  have hPc := hP.sub (ws' := [(h1, .inr (9, [.ref u9, .ref u10, .int 0, .int 0]))]) [1] rfl
  have hDc := hD.sub (ws' := [(h1, .inr (9, [.ref u9, .ref u10, .int 0, .int 0]))]) [1] (by decide) rfl
  have hKc := hK.sub (tys' := []) [] rfl
  have hFc := va_free (wc := [(h1, .inr (9, [.ref u9, .ref u10, .int 0, .int 0]))]) hD hS hA [1] rfl
  refine va_calll (va_runV (As := []) (rest := []) ⟨hx, hb, hml, hown, hG⟩ (kX9_firstWord_0 l dC dI h1 u9 u10 s.heap.size) (cwV 0 hG (zgV zw468 zw469 zw470 zw8 zw471) rfl rfl rfl (by decide +kernel) ⟨Nat.le_of_ble_eq_true rfl, Nat.le_of_ble_eq_true rfl⟩) ⟨zPc_blind, va_recv hKc hPc (ci := 9) (q0 := 0) rfl rfl, zPc_pre hPc hKc hDc hE hS hFc hZ⟩ rfl rfl hl.1 rfl (lv_room (Nat.le_of_ble_eq_true rfl)) dX11_stop_4 ⟨Nat.le_of_ble_eq_true rfl, Nat.le_of_ble_eq_true rfl⟩) hS (fun q _ h => hFc q h) hFc (fun r_4743 u t H1 locs ht hvm hw hB hz1 hk1 hS => ?_)
  have hw : r_4743 = 0 := hw
  subst hw
  obtain ⟨hP1, hK1, hD1⟩ := hB
  rw [ht] at hP1
  obtain ⟨hP, hD⟩ := va_join (wr := [(h0, .inr (11, [.ref h1, .ref u0, .ref u1, .ref u2, .ref u3, .ref u4, .ref u5, .ref u6, .ref u7, .ref u8, .null, .long (-1)]))]) (w1 := [(h1, .inr (9, [.ref u9, .ref u10, .int 0, .int 0]))]) hP hD [1] [0] rfl rfl (by decide) (by decide) hk1 hFc hP1 hD1
  generalize H1 = H at hP hS ⊢
  have hP : va_P (dC, dI) vwCl [(h0, .inr (11, [.ref h1, .ref u0, .ref u1, .ref u2, .ref u3, .ref u4, .ref u5, .ref u6, .ref u7, .ref u8, .null, .long (-1)])), (h1, .inr (9, [.ref u9, .ref u10, .int 0, .int 0]))] H := hP
  have hD : va_D A [(h0, .inr (11, [.ref h1, .ref u0, .ref u1, .ref u2, .ref u3, .ref u4, .ref u5, .ref u6, .ref u7, .ref u8, .null, .long (-1)])), (h1, .inr (9, [.ref u9, .ref u10, .int 0, .int 0]))] := hD
  refine lv_lstore_n (lv' := [(2, .long 0), (0, .ref h0), (1, .int 0)]) hx hb dX11_stop_7 rfl hl (by decide) rfl (fun ls hl => ?_)
  refine lv_aload_n hx hb dX11_stop_8 rfl (lv_at hl 1 rfl) ?_
  refine va_get (D := (dC, dI)) (ci := 11) (v := .ref h1) (C := RX11) (T := TX11) (N := 12) hx hb hG zuX11 hown hK hP 0 rfl rfl 0 (by decide) (hG _ zw17) (fun _ h9 => h9) rfl dX11_stop_9 ?_
  have hPc := hP.sub (ws' := [(h1, .inr (9, [.ref u9, .ref u10, .int 0, .int 0]))]) [1] rfl
  have hDc := hD.sub (ws' := [(h1, .inr (9, [.ref u9, .ref u10, .int 0, .int 0]))]) [1] (by decide) rfl
  have hKc := hK.sub (tys' := []) [] rfl
  have hFc := va_free (wc := [(h1, .inr (9, [.ref u9, .ref u10, .int 0, .int 0]))]) hD hS hA [1] rfl
  refine va_callv (va_runV (As := []) (rest := []) ⟨hx, hb, hml, hown, hG⟩ (kX9_clear_0 l dC dI h1 u9 u10 H.size) (cwV 0 hG (zgV zw351 zw352 zw353 zw8 zw354) rfl rfl rfl (by decide +kernel) ⟨Nat.le_of_ble_eq_true rfl, Nat.le_of_ble_eq_true rfl⟩) ⟨zPc_blind, va_recv hKc hPc (ci := 9) (q0 := 0) rfl rfl, zPc_pre hPc hKc hDc hE hS hFc hZ⟩ rfl rfl hl.1 rfl (lv_room (Nat.le_of_ble_eq_true rfl)) dX11_stop_12 ⟨Nat.le_of_ble_eq_true rfl, Nat.le_of_ble_eq_true rfl⟩) hS (fun q _ h => hFc q h) hFc (fun u t H1 locs ht hvm hw hB hz1 hk1 hS => ?_)
  obtain ⟨hP1, hK1, hD1⟩ := hB
  rw [ht] at hP1
  obtain ⟨hP, hD⟩ := va_join (wr := [(h0, .inr (11, [.ref h1, .ref u0, .ref u1, .ref u2, .ref u3, .ref u4, .ref u5, .ref u6, .ref u7, .ref u8, .null, .long (-1)]))]) (w1 := [(h1, .inr (9, [.ref u9, .ref u10, .int 0, .int 0]))]) hP hD [1] [0] rfl rfl (by decide) (by decide) hk1 hFc hP1 hD1
  generalize H1 = H at hP hS ⊢
  have hP : va_P (dC, dI) vwCl [(h0, .inr (11, [.ref h1, .ref u0, .ref u1, .ref u2, .ref u3, .ref u4, .ref u5, .ref u6, .ref u7, .ref u8, .null, .long (-1)])), (h1, .inr (9, [.ref u9, .ref u10, .int 0, .int 0]))] H := hP
  have hD : va_D A [(h0, .inr (11, [.ref h1, .ref u0, .ref u1, .ref u2, .ref u3, .ref u4, .ref u5, .ref u6, .ref u7, .ref u8, .null, .long (-1)])), (h1, .inr (9, [.ref u9, .ref u10, .int 0, .int 0]))] := hD
  refine lv_lload_n hx hb dX11_stop_15 rfl (lv_at hl 0 rfl) ?_
  refine lv_lconst (v := 0) hx hb dX11_stop_16 (by decide) ?_
  refine W.lcmp hx hb dX11_stop_17 ?_
  refine lv_topi (fun z_4747 e_z_4747 => ?_)
  obtain rfl : z_4747 = (0 : Int32) := e_z_4747.trans (by decide)
  refine lv_if_ne (tgt := 23) hx hb dX11_stop_18 (by decide) (fun c_4748 => absurd c_4748 (by decide)) (fun c_4748 => ?_)
  refine lv_iconst (v := (-1)) hx hb dX11_stop_21 (by decide) ?_
  have hP9 := hP.sub (ws' := [(h0, .inr (11, [.ref h1, .ref u0, .ref u1, .ref u2, .ref u3, .ref u4, .ref u5, .ref u6, .ref u7, .ref u8, .null, .long (-1)])), (h1, .inr (9, [.ref u9, .ref u10, .int 0, .int 0]))]) [0, 1] rfl
  have hD9 := hD.sub (ws' := [(h0, .inr (11, [.ref h1, .ref u0, .ref u1, .ref u2, .ref u3, .ref u4, .ref u5, .ref u6, .ref u7, .ref u8, .null, .long (-1)])), (h1, .inr (9, [.ref u9, .ref u10, .int 0, .int 0]))]) [0, 1] (by decide) rfl
  have hK9 := hK.sub (tys' := []) [] rfl
  refine W.widen (k := 0) (n := 0) (by decide) (by decide) ?_
  exact W.iret (v := (-1)) hx hb hr (fun t ht hW => ⟨⟨(-1), (), rfl, rfl, by rw [ht]; exact hP9, va_K.moved hW.alike hK9, hD9⟩, hS.F ht⟩) hS.2.2 dX11_stop_22
set_option maxHeartbeats 4000000 in
set_option maxRecDepth 100000 in
theorem kX13_runFrom_0 (l : Launch) (dC : Nat → ClassId) (dI : Nat → Nat → Nat) (u0 : Nat) (sz : Nat) : Met l yX13_runFrom (zw yX13_runFrom cX13_runFrom 4 (some .int)) { frames := 0, cells := 0, slots := 0, locals := 0 } (zPc dC dI [.ref u0, .int 0, .int 0] sz [] []) (va_Qi (fun (r : Int32) (_ : Unit) => r = 0) (fun (_ : Unit) (t : State) => va_P (dC, dI) vwCl [] t.heap ∧ va_K (dC, dI) vwCl [] t ∧ va_D (va_A [] sz) []) (va_A [] sz)) 0 0 (va_A [] sz) := by
  refine Met.ofW (cc := cX13_runFrom) (maxL := 4) (ret := (some .int)) (by decide) rfl ?_
  intro p e s m args below meth c s₁ B hml hv
  obtain ⟨rfl, hsz, hP, hK, hD0, hE, hZ⟩ := hv
  have hx := B.exec
  have hb := B.bytes
  have hr := B.returns
  have hG : ∀ w ∈ zG, w.before _ s = true := fun w h => atoms_spec (ws := (zw yX13_runFrom cX13_runFrom 4 (some .int))) B.pre w (List.mem_cons_of_mem _ h)
  have hown : s.vm.findClass RX13 = some m.cls := findClass_of_methodNamed B.named
  have hlocks := B.notSynchronized
  subst hsz
  have hD := hD0.self (sz := s.heap.size)
  generalize hAe : va_A [] s.heap.size = A at hD hZ ⊢
  have hA : ∀ q : Nat, s.heap.size ≤ q → A q := fun q h => by rw [← hAe]; exact Or.inr h
  have hS : va_S A s.heap s.heap [] := va_S.rf
  have hl := lv_entry ([.ref u0, .int 0, .int 0]) (n := 4) (Nat.le_of_ble_eq_true rfl)
  rw [lg_entry_eq]
  generalize (lg_sl ([.ref u0, .int 0, .int 0]) ++ List.replicate (4 - (lg_sl ([.ref u0, .int 0, .int 0])).length) Slot.unset).toArray = ls at hl ⊢
  have hl : lv_has ls 4 [(0, .ref u0), (1, .int 0), (2, .int 0)] := hl
  refine lv_iload_n hx hb dX13_runFrom_0 rfl (lv_at hl 1 rfl) ?_
  refine lv_istore_n (lv' := [(3, .int 0), (0, .ref u0), (1, .int 0), (2, .int 0)]) hx hb dX13_runFrom_1 rfl hl (by decide) rfl (fun ls hl => ?_)
  refine lv_iload_n hx hb dX13_runFrom_2 rfl (lv_at hl 0 rfl) ?_
  refine lv_iload_n hx hb dX13_runFrom_3 rfl (lv_at hl 3 rfl) ?_
  refine lv_icmp_ge (tgt := 25) hx hb dX13_runFrom_4 (by decide) (fun c_4755 => ?_) (fun c_4755 => absurd c_4755 (by decide))
  refine lv_iload_n hx hb dX13_runFrom_25 rfl (lv_at hl 0 rfl) ?_
  have hP9 := hP.sub (ws' := []) [] rfl
  have hD9 := hD.sub (ws' := []) [] (by decide) rfl
  have hK9 := hK.sub (tys' := []) [] rfl
  refine W.widen (k := 0) (n := 0) (by decide) (by decide) ?_
  exact W.iret (v := 0) hx hb hr (fun t ht hW => ⟨⟨0, (), rfl, rfl, by rw [ht]; exact hP9, va_K.moved hW.alike hK9, hD9⟩, hS.F ht⟩) hS.2.2 dX13_runFrom_26
set_option maxHeartbeats 4000000 in
set_option maxRecDepth 100000 in
theorem kX13_takesToken_0 (l : Launch) (dC : Nat → ClassId) (dI : Nat → Nat → Nat) (h0 u0 u1 u2 u3 u4 u5 u6 u7 u8 u9 u10 u11 u12 u13 u14 u15 u16 u17 u18 u19 u20 u21 u22 u23 u24 u25 u26 u27 u28 u29 u30 u31 u32 u33 u34 u35 u36 u37 u38 u39 u40 u41 u42 u43 u44 u45 u46 u47 u48 : Nat) (sz : Nat) : Met l yX13_takesToken (zw yX13_takesToken cX13_takesToken 3 (some .boolean)) { frames := 1, cells := 0, slots := 0, locals := 23 } (zPc dC dI [.ref h0] sz [(h0, .inr (13, [.ref u0, .int 0, .ref u1, .ref u2, .int 0, .ref u3, .ref u4, .ref u5, .ref u6, .ref u7, .ref u8, .ref u9, .ref u10, .int 0, .ref u11, .ref u12, .int 0, .ref u13, .int (-1), .ref u14, .int 0, .int 0, .ref u15, .int 0, .int 0, .ref u16, .ref u17, .ref u18, .ref u19, .ref u20, .int 0, .ref u21, .int 0, .int 0, .int 0, .int 0, .int 0, .int 0, .ref u22, .ref u23, .ref u24, .ref u25, .int 0, .ref u26, .ref u27, .ref u28, .ref u29, .int 0, .ref u30, .ref u31, .int 0, .int 0, .ref u32, .int 0, .int 0, .int 0, .ref u33, .ref u34, .ref u35, .int 0, .int 0, .ref u36, .ref u37, .ref u38, .ref u39, .ref u40, .ref u41, .ref u42, .ref u43, .ref u44, .ref u45, .int 0, .ref u46, .ref u47, .ref u48]))] []) (va_Qi (fun (r : Int32) (_ : Unit) => r = 0) (fun (_ : Unit) (t : State) => va_P (dC, dI) vwCl [(h0, .inr (13, [.ref u0, .int 0, .ref u1, .ref u2, .int 0, .ref u3, .ref u4, .ref u5, .ref u6, .ref u7, .ref u8, .ref u9, .ref u10, .int 0, .ref u11, .ref u12, .int 0, .ref u13, .int (-1), .ref u14, .int 0, .int 0, .ref u15, .int 0, .int 0, .ref u16, .ref u17, .ref u18, .ref u19, .ref u20, .int 0, .ref u21, .int 0, .int 0, .int 0, .int 0, .int 0, .int 0, .ref u22, .ref u23, .ref u24, .ref u25, .int 0, .ref u26, .ref u27, .ref u28, .ref u29, .int 0, .ref u30, .ref u31, .int 0, .int 0, .ref u32, .int 0, .int 0, .int 0, .ref u33, .ref u34, .ref u35, .int 0, .int 0, .ref u36, .ref u37, .ref u38, .ref u39, .ref u40, .ref u41, .ref u42, .ref u43, .ref u44, .ref u45, .int 0, .ref u46, .ref u47, .ref u48]))] t.heap ∧ va_K (dC, dI) vwCl [] t ∧ va_D (va_A [(h0, .inr (13, [.ref u0, .int 0, .ref u1, .ref u2, .int 0, .ref u3, .ref u4, .ref u5, .ref u6, .ref u7, .ref u8, .ref u9, .ref u10, .int 0, .ref u11, .ref u12, .int 0, .ref u13, .int (-1), .ref u14, .int 0, .int 0, .ref u15, .int 0, .int 0, .ref u16, .ref u17, .ref u18, .ref u19, .ref u20, .int 0, .ref u21, .int 0, .int 0, .int 0, .int 0, .int 0, .int 0, .ref u22, .ref u23, .ref u24, .ref u25, .int 0, .ref u26, .ref u27, .ref u28, .ref u29, .int 0, .ref u30, .ref u31, .int 0, .int 0, .ref u32, .int 0, .int 0, .int 0, .ref u33, .ref u34, .ref u35, .int 0, .int 0, .ref u36, .ref u37, .ref u38, .ref u39, .ref u40, .ref u41, .ref u42, .ref u43, .ref u44, .ref u45, .int 0, .ref u46, .ref u47, .ref u48]))] sz) [(h0, .inr (13, [.ref u0, .int 0, .ref u1, .ref u2, .int 0, .ref u3, .ref u4, .ref u5, .ref u6, .ref u7, .ref u8, .ref u9, .ref u10, .int 0, .ref u11, .ref u12, .int 0, .ref u13, .int (-1), .ref u14, .int 0, .int 0, .ref u15, .int 0, .int 0, .ref u16, .ref u17, .ref u18, .ref u19, .ref u20, .int 0, .ref u21, .int 0, .int 0, .int 0, .int 0, .int 0, .int 0, .ref u22, .ref u23, .ref u24, .ref u25, .int 0, .ref u26, .ref u27, .ref u28, .ref u29, .int 0, .ref u30, .ref u31, .int 0, .int 0, .ref u32, .int 0, .int 0, .int 0, .ref u33, .ref u34, .ref u35, .int 0, .int 0, .ref u36, .ref u37, .ref u38, .ref u39, .ref u40, .ref u41, .ref u42, .ref u43, .ref u44, .ref u45, .int 0, .ref u46, .ref u47, .ref u48]))]) (va_A [(h0, .inr (13, [.ref u0, .int 0, .ref u1, .ref u2, .int 0, .ref u3, .ref u4, .ref u5, .ref u6, .ref u7, .ref u8, .ref u9, .ref u10, .int 0, .ref u11, .ref u12, .int 0, .ref u13, .int (-1), .ref u14, .int 0, .int 0, .ref u15, .int 0, .int 0, .ref u16, .ref u17, .ref u18, .ref u19, .ref u20, .int 0, .ref u21, .int 0, .int 0, .int 0, .int 0, .int 0, .int 0, .ref u22, .ref u23, .ref u24, .ref u25, .int 0, .ref u26, .ref u27, .ref u28, .ref u29, .int 0, .ref u30, .ref u31, .int 0, .int 0, .ref u32, .int 0, .int 0, .int 0, .ref u33, .ref u34, .ref u35, .int 0, .int 0, .ref u36, .ref u37, .ref u38, .ref u39, .ref u40, .ref u41, .ref u42, .ref u43, .ref u44, .ref u45, .int 0, .ref u46, .ref u47, .ref u48]))] sz)) 0 0 (va_A [(h0, .inr (13, [.ref u0, .int 0, .ref u1, .ref u2, .int 0, .ref u3, .ref u4, .ref u5, .ref u6, .ref u7, .ref u8, .ref u9, .ref u10, .int 0, .ref u11, .ref u12, .int 0, .ref u13, .int (-1), .ref u14, .int 0, .int 0, .ref u15, .int 0, .int 0, .ref u16, .ref u17, .ref u18, .ref u19, .ref u20, .int 0, .ref u21, .int 0, .int 0, .int 0, .int 0, .int 0, .int 0, .ref u22, .ref u23, .ref u24, .ref u25, .int 0, .ref u26, .ref u27, .ref u28, .ref u29, .int 0, .ref u30, .ref u31, .int 0, .int 0, .ref u32, .int 0, .int 0, .int 0, .ref u33, .ref u34, .ref u35, .int 0, .int 0, .ref u36, .ref u37, .ref u38, .ref u39, .ref u40, .ref u41, .ref u42, .ref u43, .ref u44, .ref u45, .int 0, .ref u46, .ref u47, .ref u48]))] sz) := by
  refine Met.ofW (cc := cX13_takesToken) (maxL := 3) (ret := (some .boolean)) (by decide) rfl ?_
  intro p e s m args below meth c s₁ B hml hv
  obtain ⟨rfl, hsz, hP, hK, hD0, hE, hZ⟩ := hv
  have hx := B.exec
  have hb := B.bytes
  have hr := B.returns
  have hG : ∀ w ∈ zG, w.before _ s = true := fun w h => atoms_spec (ws := (zw yX13_takesToken cX13_takesToken 3 (some .boolean))) B.pre w (List.mem_cons_of_mem _ h)
  have hown : s.vm.findClass RX13 = some m.cls := findClass_of_methodNamed B.named
  have hlocks := B.notSynchronized
  subst hsz
  have hD := hD0.self (sz := s.heap.size)
  generalize hAe : va_A [(h0, .inr (13, [.ref u0, .int 0, .ref u1, .ref u2, .int 0, .ref u3, .ref u4, .ref u5, .ref u6, .ref u7, .ref u8, .ref u9, .ref u10, .int 0, .ref u11, .ref u12, .int 0, .ref u13, .int (-1), .ref u14, .int 0, .int 0, .ref u15, .int 0, .int 0, .ref u16, .ref u17, .ref u18, .ref u19, .ref u20, .int 0, .ref u21, .int 0, .int 0, .int 0, .int 0, .int 0, .int 0, .ref u22, .ref u23, .ref u24, .ref u25, .int 0, .ref u26, .ref u27, .ref u28, .ref u29, .int 0, .ref u30, .ref u31, .int 0, .int 0, .ref u32, .int 0, .int 0, .int 0, .ref u33, .ref u34, .ref u35, .int 0, .int 0, .ref u36, .ref u37, .ref u38, .ref u39, .ref u40, .ref u41, .ref u42, .ref u43, .ref u44, .ref u45, .int 0, .ref u46, .ref u47, .ref u48]))] s.heap.size = A at hD hZ ⊢
  have hA : ∀ q : Nat, s.heap.size ≤ q → A q := fun q h => by rw [← hAe]; exact Or.inr h
  have hS : va_S A s.heap s.heap [] := va_S.rf
  have hl := lv_entry ([.ref h0]) (n := 3) (Nat.le_of_ble_eq_true rfl)
  rw [lg_entry_eq]
  generalize (lg_sl ([.ref h0]) ++ List.replicate (3 - (lg_sl ([.ref h0])).length) Slot.unset).toArray = ls at hl ⊢
  have hl : lv_has ls 3 [(0, .ref h0)] := hl
  refine lv_aload_n hx hb dX13_takesToken_0 rfl (lv_at hl 0 rfl) ?_
  refine va_get (D := (dC, dI)) (ci := 13) (v := .int 0) (C := RX13) (T := TX13) (N := 75) hx hb hG zuX13 hown hK hP 0 rfl rfl 1 (by decide) (hG _ zw303) (fun _ h9 => h9) rfl dX13_takesToken_1 ?_
  refine lv_istore_n (lv' := [(1, .int 0), (0, .ref h0)]) hx hb dX13_takesToken_4 rfl hl (by decide) rfl (fun ls hl => ?_)
  refine lv_aload_n hx hb dX13_takesToken_5 rfl (lv_at hl 1 rfl) ?_
  refine lv_iconst (v := 0) hx hb dX13_takesToken_6 (by decide) ?_
  refine va_put (D := (dC, dI)) (ci := 13) (v := .int 0) (ty := .int) (C := RX13) (T := TX13) (N := 75) hx hb hG zuX13 tyX13 tyX13_ok nmX13 hown hK hP hD hS 0 rfl rfl 1 (by decide) (hG _ zw303) (fun _ h9 => h9) rfl (by decide +kernel) rfl rfl (Nat.le_of_ble_eq_true rfl) dX13_takesToken_7 (fun H locs hP hD hS => ?_)
  have hP : va_P (dC, dI) vwCl [(h0, .inr (13, [.ref u0, .int 0, .ref u1, .ref u2, .int 0, .ref u3, .ref u4, .ref u5, .ref u6, .ref u7, .ref u8, .ref u9, .ref u10, .int 0, .ref u11, .ref u12, .int 0, .ref u13, .int (-1), .ref u14, .int 0, .int 0, .ref u15, .int 0, .int 0, .ref u16, .ref u17, .ref u18, .ref u19, .ref u20, .int 0, .ref u21, .int 0, .int 0, .int 0, .int 0, .int 0, .int 0, .ref u22, .ref u23, .ref u24, .ref u25, .int 0, .ref u26, .ref u27, .ref u28, .ref u29, .int 0, .ref u30, .ref u31, .int 0, .int 0, .ref u32, .int 0, .int 0, .int 0, .ref u33, .ref u34, .ref u35, .int 0, .int 0, .ref u36, .ref u37, .ref u38, .ref u39, .ref u40, .ref u41, .ref u42, .ref u43, .ref u44, .ref u45, .int 0, .ref u46, .ref u47, .ref u48]))] H := hP
  have hD : va_D A [(h0, .inr (13, [.ref u0, .int 0, .ref u1, .ref u2, .int 0, .ref u3, .ref u4, .ref u5, .ref u6, .ref u7, .ref u8, .ref u9, .ref u10, .int 0, .ref u11, .ref u12, .int 0, .ref u13, .int (-1), .ref u14, .int 0, .int 0, .ref u15, .int 0, .int 0, .ref u16, .ref u17, .ref u18, .ref u19, .ref u20, .int 0, .ref u21, .int 0, .int 0, .int 0, .int 0, .int 0, .int 0, .ref u22, .ref u23, .ref u24, .ref u25, .int 0, .ref u26, .ref u27, .ref u28, .ref u29, .int 0, .ref u30, .ref u31, .int 0, .int 0, .ref u32, .int 0, .int 0, .int 0, .ref u33, .ref u34, .ref u35, .int 0, .int 0, .ref u36, .ref u37, .ref u38, .ref u39, .ref u40, .ref u41, .ref u42, .ref u43, .ref u44, .ref u45, .int 0, .ref u46, .ref u47, .ref u48]))] := hD
  refine lv_aload_n hx hb dX13_takesToken_10 rfl (lv_at hl 1 rfl) ?_
  refine lv_iconst (v := 0) hx hb dX13_takesToken_11 (by decide) ?_
  refine lv_iload_n hx hb dX13_takesToken_12 rfl (lv_at hl 0 rfl) ?_
  have hPc := hP.sub (ws' := []) [] rfl
  have hDc := hD.sub (ws' := []) [] (by decide) rfl
  have hKc := hK.sub (tys' := []) [] rfl
  have hFc := va_free (wc := []) hD hS hA [] rfl
  refine va_calli (va_runV (As := [.int 0, .int 0]) (rest := []) ⟨hx, hb, hml, hown, hG⟩ (kX13_runFrom_0 l dC dI h0 H.size) (cwV 2 hG (zgV zw476 zw477 zw478 zw207 zw479) rfl rfl rfl (by decide +kernel) ⟨Nat.le_of_ble_eq_true rfl, Nat.le_of_ble_eq_true rfl⟩) ⟨zPc_blind, va_recv hK hP (ci := 13) (q0 := 0) rfl rfl, zPc_pre hPc hKc hDc hE hS hFc hZ⟩ rfl rfl hl.1 rfl (lv_room (Nat.le_of_ble_eq_true rfl)) dX13_takesToken_13 ⟨Nat.le_of_ble_eq_true rfl, Nat.le_of_ble_eq_true rfl⟩) hS (fun q _ h => hFc q h) hFc (fun r_4764 u t H1 locs ht hvm hw hB hz1 hk1 hS => ?_)
  have hw : r_4764 = 0 := hw
  subst hw
  obtain ⟨hP1, hK1, hD1⟩ := hB
  rw [ht] at hP1
  obtain ⟨hP, hD⟩ := va_join (wr := [(h0, .inr (13, [.ref u0, .int 0, .ref u1, .ref u2, .int 0, .ref u3, .ref u4, .ref u5, .ref u6, .ref u7, .ref u8, .ref u9, .ref u10, .int 0, .ref u11, .ref u12, .int 0, .ref u13, .int (-1), .ref u14, .int 0, .int 0, .ref u15, .int 0, .int 0, .ref u16, .ref u17, .ref u18, .ref u19, .ref u20, .int 0, .ref u21, .int 0, .int 0, .int 0, .int 0, .int 0, .int 0, .ref u22, .ref u23, .ref u24, .ref u25, .int 0, .ref u26, .ref u27, .ref u28, .ref u29, .int 0, .ref u30, .ref u31, .int 0, .int 0, .ref u32, .int 0, .int 0, .int 0, .ref u33, .ref u34, .ref u35, .int 0, .int 0, .ref u36, .ref u37, .ref u38, .ref u39, .ref u40, .ref u41, .ref u42, .ref u43, .ref u44, .ref u45, .int 0, .ref u46, .ref u47, .ref u48]))]) (w1 := []) hP hD [] [0] rfl rfl (by decide) (by decide) hk1 hFc hP1 hD1
  generalize H1 = H at hP hS ⊢
  have hP : va_P (dC, dI) vwCl [(h0, .inr (13, [.ref u0, .int 0, .ref u1, .ref u2, .int 0, .ref u3, .ref u4, .ref u5, .ref u6, .ref u7, .ref u8, .ref u9, .ref u10, .int 0, .ref u11, .ref u12, .int 0, .ref u13, .int (-1), .ref u14, .int 0, .int 0, .ref u15, .int 0, .int 0, .ref u16, .ref u17, .ref u18, .ref u19, .ref u20, .int 0, .ref u21, .int 0, .int 0, .int 0, .int 0, .int 0, .int 0, .ref u22, .ref u23, .ref u24, .ref u25, .int 0, .ref u26, .ref u27, .ref u28, .ref u29, .int 0, .ref u30, .ref u31, .int 0, .int 0, .ref u32, .int 0, .int 0, .int 0, .ref u33, .ref u34, .ref u35, .int 0, .int 0, .ref u36, .ref u37, .ref u38, .ref u39, .ref u40, .ref u41, .ref u42, .ref u43, .ref u44, .ref u45, .int 0, .ref u46, .ref u47, .ref u48]))] H := hP
  have hD : va_D A [(h0, .inr (13, [.ref u0, .int 0, .ref u1, .ref u2, .int 0, .ref u3, .ref u4, .ref u5, .ref u6, .ref u7, .ref u8, .ref u9, .ref u10, .int 0, .ref u11, .ref u12, .int 0, .ref u13, .int (-1), .ref u14, .int 0, .int 0, .ref u15, .int 0, .int 0, .ref u16, .ref u17, .ref u18, .ref u19, .ref u20, .int 0, .ref u21, .int 0, .int 0, .int 0, .int 0, .int 0, .int 0, .ref u22, .ref u23, .ref u24, .ref u25, .int 0, .ref u26, .ref u27, .ref u28, .ref u29, .int 0, .ref u30, .ref u31, .int 0, .int 0, .ref u32, .int 0, .int 0, .int 0, .ref u33, .ref u34, .ref u35, .int 0, .int 0, .ref u36, .ref u37, .ref u38, .ref u39, .ref u40, .ref u41, .ref u42, .ref u43, .ref u44, .ref u45, .int 0, .ref u46, .ref u47, .ref u48]))] := hD
  refine lv_istore_n (lv' := [(2, .int 0), (1, .int 0), (0, .ref h0)]) hx hb dX13_takesToken_16 rfl hl (by decide) rfl (fun ls hl => ?_)
  refine lv_iload_n hx hb dX13_takesToken_17 rfl (lv_at hl 0 rfl) ?_
  refine lv_iload_n hx hb dX13_takesToken_18 rfl (lv_at hl 1 rfl) ?_
  refine lv_icmp_ne (tgt := 24) hx hb dX13_takesToken_19 (by decide) (fun c_4766 => absurd c_4766 (by decide)) (fun c_4766 => ?_)
  refine lv_iconst (v := 0) hx hb dX13_takesToken_22 (by decide) ?_
  have hP9 := hP.sub (ws' := [(h0, .inr (13, [.ref u0, .int 0, .ref u1, .ref u2, .int 0, .ref u3, .ref u4, .ref u5, .ref u6, .ref u7, .ref u8, .ref u9, .ref u10, .int 0, .ref u11, .ref u12, .int 0, .ref u13, .int (-1), .ref u14, .int 0, .int 0, .ref u15, .int 0, .int 0, .ref u16, .ref u17, .ref u18, .ref u19, .ref u20, .int 0, .ref u21, .int 0, .int 0, .int 0, .int 0, .int 0, .int 0, .ref u22, .ref u23, .ref u24, .ref u25, .int 0, .ref u26, .ref u27, .ref u28, .ref u29, .int 0, .ref u30, .ref u31, .int 0, .int 0, .ref u32, .int 0, .int 0, .int 0, .ref u33, .ref u34, .ref u35, .int 0, .int 0, .ref u36, .ref u37, .ref u38, .ref u39, .ref u40, .ref u41, .ref u42, .ref u43, .ref u44, .ref u45, .int 0, .ref u46, .ref u47, .ref u48]))]) [0] rfl
  have hD9 := hD.sub (ws' := [(h0, .inr (13, [.ref u0, .int 0, .ref u1, .ref u2, .int 0, .ref u3, .ref u4, .ref u5, .ref u6, .ref u7, .ref u8, .ref u9, .ref u10, .int 0, .ref u11, .ref u12, .int 0, .ref u13, .int (-1), .ref u14, .int 0, .int 0, .ref u15, .int 0, .int 0, .ref u16, .ref u17, .ref u18, .ref u19, .ref u20, .int 0, .ref u21, .int 0, .int 0, .int 0, .int 0, .int 0, .int 0, .ref u22, .ref u23, .ref u24, .ref u25, .int 0, .ref u26, .ref u27, .ref u28, .ref u29, .int 0, .ref u30, .ref u31, .int 0, .int 0, .ref u32, .int 0, .int 0, .int 0, .ref u33, .ref u34, .ref u35, .int 0, .int 0, .ref u36, .ref u37, .ref u38, .ref u39, .ref u40, .ref u41, .ref u42, .ref u43, .ref u44, .ref u45, .int 0, .ref u46, .ref u47, .ref u48]))]) [0] (by decide) rfl
  have hK9 := hK.sub (tys' := []) [] rfl
  refine W.widen (k := 0) (n := 0) (by decide) (by decide) ?_
  exact W.zret (v := 0) hx hb hr rfl (fun t ht hW => ⟨⟨0, (), rfl, rfl, by rw [ht]; exact hP9, va_K.moved hW.alike hK9, hD9⟩, hS.F ht⟩) hS.2.2 dX13_takesToken_23
set_option maxHeartbeats 4000000 in
set_option maxRecDepth 100000 in
theorem kX13_stop_0 (l : Launch) (dC : Nat → ClassId) (dI : Nat → Nat → Nat) (h0 u0 u1 u2 u3 u4 u5 u6 u7 u8 u9 u10 u11 u12 u13 u14 u15 u16 u17 u18 u19 u20 u21 u22 u23 u24 u25 u26 u27 u28 u29 u30 u31 u32 u33 u34 u35 u36 u37 u38 u39 u40 u41 u42 u43 u44 u45 u46 u47 u48 : Nat) (sz : Nat) : Met l yX13_stop (zw yX13_stop cX13_stop 4 (some .int)) { frames := 2, cells := 0, slots := 0, locals := 45 } (zPc dC dI [.ref h0, .int 0] sz [(h0, .inr (13, [.ref u0, .int 0, .ref u1, .ref u2, .int 0, .ref u3, .ref u4, .ref u5, .ref u6, .ref u7, .ref u8, .ref u9, .ref u10, .int 0, .ref u11, .ref u12, .int 0, .ref u13, .int (-1), .ref u14, .int 0, .int 0, .ref u15, .int 0, .int 0, .ref u16, .ref u17, .ref u18, .ref u19, .ref u20, .int 0, .ref u21, .int 0, .int 0, .int 0, .int 0, .int 0, .int 0, .ref u22, .ref u23, .ref u24, .ref u25, .int 0, .ref u26, .ref u27, .ref u28, .ref u29, .int 0, .ref u30, .ref u31, .int 0, .int 0, .ref u32, .int 0, .int 0, .int 0, .ref u33, .ref u34, .ref u35, .int 0, .int 0, .ref u36, .ref u37, .ref u38, .ref u39, .ref u40, .ref u41, .ref u42, .ref u43, .ref u44, .ref u45, .int 0, .ref u46, .ref u47, .ref u48]))] []) (va_Qi (fun (r : Int32) (_ : Unit) => r = (-1)) (fun (_ : Unit) (t : State) => va_P (dC, dI) vwCl [(h0, .inr (13, [.ref u0, .int 0, .ref u1, .ref u2, .int 0, .ref u3, .ref u4, .ref u5, .ref u6, .ref u7, .ref u8, .ref u9, .ref u10, .int 0, .ref u11, .ref u12, .int 0, .ref u13, .int (-1), .ref u14, .int 0, .int 0, .ref u15, .int 0, .int 0, .ref u16, .ref u17, .ref u18, .ref u19, .ref u20, .int 0, .ref u21, .int 0, .int 0, .int 0, .int 0, .int 0, .int 0, .ref u22, .ref u23, .ref u24, .ref u25, .int 0, .ref u26, .ref u27, .ref u28, .ref u29, .int 0, .ref u30, .ref u31, .int 0, .int 0, .ref u32, .int 0, .int 0, .int 0, .ref u33, .ref u34, .ref u35, .int 0, .int 0, .ref u36, .ref u37, .ref u38, .ref u39, .ref u40, .ref u41, .ref u42, .ref u43, .ref u44, .ref u45, .int 0, .ref u46, .ref u47, .ref u48]))] t.heap ∧ va_K (dC, dI) vwCl [] t ∧ va_D (va_A [(h0, .inr (13, [.ref u0, .int 0, .ref u1, .ref u2, .int 0, .ref u3, .ref u4, .ref u5, .ref u6, .ref u7, .ref u8, .ref u9, .ref u10, .int 0, .ref u11, .ref u12, .int 0, .ref u13, .int (-1), .ref u14, .int 0, .int 0, .ref u15, .int 0, .int 0, .ref u16, .ref u17, .ref u18, .ref u19, .ref u20, .int 0, .ref u21, .int 0, .int 0, .int 0, .int 0, .int 0, .int 0, .ref u22, .ref u23, .ref u24, .ref u25, .int 0, .ref u26, .ref u27, .ref u28, .ref u29, .int 0, .ref u30, .ref u31, .int 0, .int 0, .ref u32, .int 0, .int 0, .int 0, .ref u33, .ref u34, .ref u35, .int 0, .int 0, .ref u36, .ref u37, .ref u38, .ref u39, .ref u40, .ref u41, .ref u42, .ref u43, .ref u44, .ref u45, .int 0, .ref u46, .ref u47, .ref u48]))] sz) [(h0, .inr (13, [.ref u0, .int 0, .ref u1, .ref u2, .int 0, .ref u3, .ref u4, .ref u5, .ref u6, .ref u7, .ref u8, .ref u9, .ref u10, .int 0, .ref u11, .ref u12, .int 0, .ref u13, .int (-1), .ref u14, .int 0, .int 0, .ref u15, .int 0, .int 0, .ref u16, .ref u17, .ref u18, .ref u19, .ref u20, .int 0, .ref u21, .int 0, .int 0, .int 0, .int 0, .int 0, .int 0, .ref u22, .ref u23, .ref u24, .ref u25, .int 0, .ref u26, .ref u27, .ref u28, .ref u29, .int 0, .ref u30, .ref u31, .int 0, .int 0, .ref u32, .int 0, .int 0, .int 0, .ref u33, .ref u34, .ref u35, .int 0, .int 0, .ref u36, .ref u37, .ref u38, .ref u39, .ref u40, .ref u41, .ref u42, .ref u43, .ref u44, .ref u45, .int 0, .ref u46, .ref u47, .ref u48]))]) (va_A [(h0, .inr (13, [.ref u0, .int 0, .ref u1, .ref u2, .int 0, .ref u3, .ref u4, .ref u5, .ref u6, .ref u7, .ref u8, .ref u9, .ref u10, .int 0, .ref u11, .ref u12, .int 0, .ref u13, .int (-1), .ref u14, .int 0, .int 0, .ref u15, .int 0, .int 0, .ref u16, .ref u17, .ref u18, .ref u19, .ref u20, .int 0, .ref u21, .int 0, .int 0, .int 0, .int 0, .int 0, .int 0, .ref u22, .ref u23, .ref u24, .ref u25, .int 0, .ref u26, .ref u27, .ref u28, .ref u29, .int 0, .ref u30, .ref u31, .int 0, .int 0, .ref u32, .int 0, .int 0, .int 0, .ref u33, .ref u34, .ref u35, .int 0, .int 0, .ref u36, .ref u37, .ref u38, .ref u39, .ref u40, .ref u41, .ref u42, .ref u43, .ref u44, .ref u45, .int 0, .ref u46, .ref u47, .ref u48]))] sz)) 0 0 (va_A [(h0, .inr (13, [.ref u0, .int 0, .ref u1, .ref u2, .int 0, .ref u3, .ref u4, .ref u5, .ref u6, .ref u7, .ref u8, .ref u9, .ref u10, .int 0, .ref u11, .ref u12, .int 0, .ref u13, .int (-1), .ref u14, .int 0, .int 0, .ref u15, .int 0, .int 0, .ref u16, .ref u17, .ref u18, .ref u19, .ref u20, .int 0, .ref u21, .int 0, .int 0, .int 0, .int 0, .int 0, .int 0, .ref u22, .ref u23, .ref u24, .ref u25, .int 0, .ref u26, .ref u27, .ref u28, .ref u29, .int 0, .ref u30, .ref u31, .int 0, .int 0, .ref u32, .int 0, .int 0, .int 0, .ref u33, .ref u34, .ref u35, .int 0, .int 0, .ref u36, .ref u37, .ref u38, .ref u39, .ref u40, .ref u41, .ref u42, .ref u43, .ref u44, .ref u45, .int 0, .ref u46, .ref u47, .ref u48]))] sz) := by
  refine Met.ofW (cc := cX13_stop) (maxL := 4) (ret := (some .int)) (by decide) rfl ?_
  intro p e s m args below meth c s₁ B hml hv
  obtain ⟨rfl, hsz, hP, hK, hD0, hE, hZ⟩ := hv
  have hx := B.exec
  have hb := B.bytes
  have hr := B.returns
  have hG : ∀ w ∈ zG, w.before _ s = true := fun w h => atoms_spec (ws := (zw yX13_stop cX13_stop 4 (some .int))) B.pre w (List.mem_cons_of_mem _ h)
  have hown : s.vm.findClass RX13 = some m.cls := findClass_of_methodNamed B.named
  have hlocks := B.notSynchronized
  subst hsz
  have hD := hD0.self (sz := s.heap.size)
  generalize hAe : va_A [(h0, .inr (13, [.ref u0, .int 0, .ref u1, .ref u2, .int 0, .ref u3, .ref u4, .ref u5, .ref u6, .ref u7, .ref u8, .ref u9, .ref u10, .int 0, .ref u11, .ref u12, .int 0, .ref u13, .int (-1), .ref u14, .int 0, .int 0, .ref u15, .int 0, .int 0, .ref u16, .ref u17, .ref u18, .ref u19, .ref u20, .int 0, .ref u21, .int 0, .int 0, .int 0, .int 0, .int 0, .int 0, .ref u22, .ref u23, .ref u24, .ref u25, .int 0, .ref u26, .ref u27, .ref u28, .ref u29, .int 0, .ref u30, .ref u31, .int 0, .int 0, .ref u32, .int 0, .int 0, .int 0, .ref u33, .ref u34, .ref u35, .int 0, .int 0, .ref u36, .ref u37, .ref u38, .ref u39, .ref u40, .ref u41, .ref u42, .ref u43, .ref u44, .ref u45, .int 0, .ref u46, .ref u47, .ref u48]))] s.heap.size = A at hD hZ ⊢
  have hA : ∀ q : Nat, s.heap.size ≤ q → A q := fun q h => by rw [← hAe]; exact Or.inr h
  have hS : va_S A s.heap s.heap [] := va_S.rf
  have hl := lv_entry ([.ref h0, .int 0]) (n := 4) (Nat.le_of_ble_eq_true rfl)
  rw [lg_entry_eq]
  generalize (lg_sl ([.ref h0, .int 0]) ++ List.replicate (4 - (lg_sl ([.ref h0, .int 0])).length) Slot.unset).toArray = ls at hl ⊢
  have hl : lv_has ls 4 [(0, .ref h0), (1, .int 0)] := hl
  refine lv_aload_n hx hb dX13_stop_0 rfl (lv_at hl 0 rfl) ?_
  refine lv_iconst (v := 0) hx hb dX13_stop_1 (by decide) ?_
  refine va_put (D := (dC, dI)) (ci := 13) (v := .int 0) (ty := .int) (C := RX13) (T := TX13) (N := 75) hx hb hG zuX13 tyX13 tyX13_ok nmX13 hown hK hP hD hS 0 rfl rfl 21 (by decide) (hG _ zw302) (fun _ h9 => h9) rfl (by decide +kernel) rfl rfl (Nat.le_of_ble_eq_true rfl) dX13_stop_2 (fun H locs hP hD hS => ?_)
  have hP : va_P (dC, dI) vwCl [(h0, .inr (13, [.ref u0, .int 0, .ref u1, .ref u2, .int 0, .ref u3, .ref u4, .ref u5, .ref u6, .ref u7, .ref u8, .ref u9, .ref u10, .int 0, .ref u11, .ref u12, .int 0, .ref u13, .int (-1), .ref u14, .int 0, .int 0, .ref u15, .int 0, .int 0, .ref u16, .ref u17, .ref u18, .ref u19, .ref u20, .int 0, .ref u21, .int 0, .int 0, .int 0, .int 0, .int 0, .int 0, .ref u22, .ref u23, .ref u24, .ref u25, .int 0, .ref u26, .ref u27, .ref u28, .ref u29, .int 0, .ref u30, .ref u31, .int 0, .int 0, .ref u32, .int 0, .int 0, .int 0, .ref u33, .ref u34, .ref u35, .int 0, .int 0, .ref u36, .ref u37, .ref u38, .ref u39, .ref u40, .ref u41, .ref u42, .ref u43, .ref u44, .ref u45, .int 0, .ref u46, .ref u47, .ref u48]))] H := hP
  have hD : va_D A [(h0, .inr (13, [.ref u0, .int 0, .ref u1, .ref u2, .int 0, .ref u3, .ref u4, .ref u5, .ref u6, .ref u7, .ref u8, .ref u9, .ref u10, .int 0, .ref u11, .ref u12, .int 0, .ref u13, .int (-1), .ref u14, .int 0, .int 0, .ref u15, .int 0, .int 0, .ref u16, .ref u17, .ref u18, .ref u19, .ref u20, .int 0, .ref u21, .int 0, .int 0, .int 0, .int 0, .int 0, .int 0, .ref u22, .ref u23, .ref u24, .ref u25, .int 0, .ref u26, .ref u27, .ref u28, .ref u29, .int 0, .ref u30, .ref u31, .int 0, .int 0, .ref u32, .int 0, .int 0, .int 0, .ref u33, .ref u34, .ref u35, .int 0, .int 0, .ref u36, .ref u37, .ref u38, .ref u39, .ref u40, .ref u41, .ref u42, .ref u43, .ref u44, .ref u45, .int 0, .ref u46, .ref u47, .ref u48]))] := hD
  refine lv_aload_n hx hb dX13_stop_5 rfl (lv_at hl 0 rfl) ?_
  have hPc := hP.sub (ws' := [(h0, .inr (13, [.ref u0, .int 0, .ref u1, .ref u2, .int 0, .ref u3, .ref u4, .ref u5, .ref u6, .ref u7, .ref u8, .ref u9, .ref u10, .int 0, .ref u11, .ref u12, .int 0, .ref u13, .int (-1), .ref u14, .int 0, .int 0, .ref u15, .int 0, .int 0, .ref u16, .ref u17, .ref u18, .ref u19, .ref u20, .int 0, .ref u21, .int 0, .int 0, .int 0, .int 0, .int 0, .int 0, .ref u22, .ref u23, .ref u24, .ref u25, .int 0, .ref u26, .ref u27, .ref u28, .ref u29, .int 0, .ref u30, .ref u31, .int 0, .int 0, .ref u32, .int 0, .int 0, .int 0, .ref u33, .ref u34, .ref u35, .int 0, .int 0, .ref u36, .ref u37, .ref u38, .ref u39, .ref u40, .ref u41, .ref u42, .ref u43, .ref u44, .ref u45, .int 0, .ref u46, .ref u47, .ref u48]))]) [0] rfl
  have hDc := hD.sub (ws' := [(h0, .inr (13, [.ref u0, .int 0, .ref u1, .ref u2, .int 0, .ref u3, .ref u4, .ref u5, .ref u6, .ref u7, .ref u8, .ref u9, .ref u10, .int 0, .ref u11, .ref u12, .int 0, .ref u13, .int (-1), .ref u14, .int 0, .int 0, .ref u15, .int 0, .int 0, .ref u16, .ref u17, .ref u18, .ref u19, .ref u20, .int 0, .ref u21, .int 0, .int 0, .int 0, .int 0, .int 0, .int 0, .ref u22, .ref u23, .ref u24, .ref u25, .int 0, .ref u26, .ref u27, .ref u28, .ref u29, .int 0, .ref u30, .ref u31, .int 0, .int 0, .ref u32, .int 0, .int 0, .int 0, .ref u33, .ref u34, .ref u35, .int 0, .int 0, .ref u36, .ref u37, .ref u38, .ref u39, .ref u40, .ref u41, .ref u42, .ref u43, .ref u44, .ref u45, .int 0, .ref u46, .ref u47, .ref u48]))]) [0] (by decide) rfl
  have hKc := hK.sub (tys' := []) [] rfl
  have hFc := va_free (wc := [(h0, .inr (13, [.ref u0, .int 0, .ref u1, .ref u2, .int 0, .ref u3, .ref u4, .ref u5, .ref u6, .ref u7, .ref u8, .ref u9, .ref u10, .int 0, .ref u11, .ref u12, .int 0, .ref u13, .int (-1), .ref u14, .int 0, .int 0, .ref u15, .int 0, .int 0, .ref u16, .ref u17, .ref u18, .ref u19, .ref u20, .int 0, .ref u21, .int 0, .int 0, .int 0, .int 0, .int 0, .int 0, .ref u22, .ref u23, .ref u24, .ref u25, .int 0, .ref u26, .ref u27, .ref u28, .ref u29, .int 0, .ref u30, .ref u31, .int 0, .int 0, .ref u32, .int 0, .int 0, .int 0, .ref u33, .ref u34, .ref u35, .int 0, .int 0, .ref u36, .ref u37, .ref u38, .ref u39, .ref u40, .ref u41, .ref u42, .ref u43, .ref u44, .ref u45, .int 0, .ref u46, .ref u47, .ref u48]))]) hD hS hA [0] rfl
  refine va_calli (va_runV (As := []) (rest := []) ⟨hx, hb, hml, hown, hG⟩ (kX13_takesToken_0 l dC dI h0 u0 u1 u2 u3 u4 u5 u6 u7 u8 u9 u10 u11 u12 u13 u14 u15 u16 u17 u18 u19 u20 u21 u22 u23 u24 u25 u26 u27 u28 u29 u30 u31 u32 u33 u34 u35 u36 u37 u38 u39 u40 u41 u42 u43 u44 u45 u46 u47 u48 H.size) (cwV 0 hG (zgV zw480 zw481 zw482 zw207 zw483) rfl rfl rfl (by decide +kernel) ⟨Nat.le_of_ble_eq_true rfl, Nat.le_of_ble_eq_true rfl⟩) ⟨zPc_blind, va_recv hKc hPc (ci := 13) (q0 := 0) rfl rfl, zPc_pre hPc hKc hDc hE hS hFc hZ⟩ rfl rfl hl.1 rfl (lv_room (Nat.le_of_ble_eq_true rfl)) dX13_stop_6 ⟨Nat.le_of_ble_eq_true rfl, Nat.le_of_ble_eq_true rfl⟩) hS (fun q _ h => hFc q h) hFc (fun r_4781 u t H1 locs ht hvm hw hB hz1 hk1 hS => ?_)
  have hw : r_4781 = 0 := hw
  subst hw
  obtain ⟨hP1, hK1, hD1⟩ := hB
  rw [ht] at hP1
  obtain ⟨hP, hD⟩ := va_join (wr := []) (w1 := [(h0, .inr (13, [.ref u0, .int 0, .ref u1, .ref u2, .int 0, .ref u3, .ref u4, .ref u5, .ref u6, .ref u7, .ref u8, .ref u9, .ref u10, .int 0, .ref u11, .ref u12, .int 0, .ref u13, .int (-1), .ref u14, .int 0, .int 0, .ref u15, .int 0, .int 0, .ref u16, .ref u17, .ref u18, .ref u19, .ref u20, .int 0, .ref u21, .int 0, .int 0, .int 0, .int 0, .int 0, .int 0, .ref u22, .ref u23, .ref u24, .ref u25, .int 0, .ref u26, .ref u27, .ref u28, .ref u29, .int 0, .ref u30, .ref u31, .int 0, .int 0, .ref u32, .int 0, .int 0, .int 0, .ref u33, .ref u34, .ref u35, .int 0, .int 0, .ref u36, .ref u37, .ref u38, .ref u39, .ref u40, .ref u41, .ref u42, .ref u43, .ref u44, .ref u45, .int 0, .ref u46, .ref u47, .ref u48]))]) hP hD [0] [] rfl rfl (by decide) (by decide) hk1 hFc hP1 hD1
  generalize H1 = H at hP hS ⊢
  have hP : va_P (dC, dI) vwCl [(h0, .inr (13, [.ref u0, .int 0, .ref u1, .ref u2, .int 0, .ref u3, .ref u4, .ref u5, .ref u6, .ref u7, .ref u8, .ref u9, .ref u10, .int 0, .ref u11, .ref u12, .int 0, .ref u13, .int (-1), .ref u14, .int 0, .int 0, .ref u15, .int 0, .int 0, .ref u16, .ref u17, .ref u18, .ref u19, .ref u20, .int 0, .ref u21, .int 0, .int 0, .int 0, .int 0, .int 0, .int 0, .ref u22, .ref u23, .ref u24, .ref u25, .int 0, .ref u26, .ref u27, .ref u28, .ref u29, .int 0, .ref u30, .ref u31, .int 0, .int 0, .ref u32, .int 0, .int 0, .int 0, .ref u33, .ref u34, .ref u35, .int 0, .int 0, .ref u36, .ref u37, .ref u38, .ref u39, .ref u40, .ref u41, .ref u42, .ref u43, .ref u44, .ref u45, .int 0, .ref u46, .ref u47, .ref u48]))] H := hP
  have hD : va_D A [(h0, .inr (13, [.ref u0, .int 0, .ref u1, .ref u2, .int 0, .ref u3, .ref u4, .ref u5, .ref u6, .ref u7, .ref u8, .ref u9, .ref u10, .int 0, .ref u11, .ref u12, .int 0, .ref u13, .int (-1), .ref u14, .int 0, .int 0, .ref u15, .int 0, .int 0, .ref u16, .ref u17, .ref u18, .ref u19, .ref u20, .int 0, .ref u21, .int 0, .int 0, .int 0, .int 0, .int 0, .int 0, .ref u22, .ref u23, .ref u24, .ref u25, .int 0, .ref u26, .ref u27, .ref u28, .ref u29, .int 0, .ref u30, .ref u31, .int 0, .int 0, .ref u32, .int 0, .int 0, .int 0, .ref u33, .ref u34, .ref u35, .int 0, .int 0, .ref u36, .ref u37, .ref u38, .ref u39, .ref u40, .ref u41, .ref u42, .ref u43, .ref u44, .ref u45, .int 0, .ref u46, .ref u47, .ref u48]))] := hD
  refine lv_if_ne (tgt := 14) hx hb dX13_stop_9 (by decide) (fun c_4783 => absurd c_4783 (by decide)) (fun c_4783 => ?_)
  refine lv_iconst (v := (-1)) hx hb dX13_stop_12 (by decide) ?_
  have hP9 := hP.sub (ws' := [(h0, .inr (13, [.ref u0, .int 0, .ref u1, .ref u2, .int 0, .ref u3, .ref u4, .ref u5, .ref u6, .ref u7, .ref u8, .ref u9, .ref u10, .int 0, .ref u11, .ref u12, .int 0, .ref u13, .int (-1), .ref u14, .int 0, .int 0, .ref u15, .int 0, .int 0, .ref u16, .ref u17, .ref u18, .ref u19, .ref u20, .int 0, .ref u21, .int 0, .int 0, .int 0, .int 0, .int 0, .int 0, .ref u22, .ref u23, .ref u24, .ref u25, .int 0, .ref u26, .ref u27, .ref u28, .ref u29, .int 0, .ref u30, .ref u31, .int 0, .int 0, .ref u32, .int 0, .int 0, .int 0, .ref u33, .ref u34, .ref u35, .int 0, .int 0, .ref u36, .ref u37, .ref u38, .ref u39, .ref u40, .ref u41, .ref u42, .ref u43, .ref u44, .ref u45, .int 0, .ref u46, .ref u47, .ref u48]))]) [0] rfl
  have hD9 := hD.sub (ws' := [(h0, .inr (13, [.ref u0, .int 0, .ref u1, .ref u2, .int 0, .ref u3, .ref u4, .ref u5, .ref u6, .ref u7, .ref u8, .ref u9, .ref u10, .int 0, .ref u11, .ref u12, .int 0, .ref u13, .int (-1), .ref u14, .int 0, .int 0, .ref u15, .int 0, .int 0, .ref u16, .ref u17, .ref u18, .ref u19, .ref u20, .int 0, .ref u21, .int 0, .int 0, .int 0, .int 0, .int 0, .int 0, .ref u22, .ref u23, .ref u24, .ref u25, .int 0, .ref u26, .ref u27, .ref u28, .ref u29, .int 0, .ref u30, .ref u31, .int 0, .int 0, .ref u32, .int 0, .int 0, .int 0, .ref u33, .ref u34, .ref u35, .int 0, .int 0, .ref u36, .ref u37, .ref u38, .ref u39, .ref u40, .ref u41, .ref u42, .ref u43, .ref u44, .ref u45, .int 0, .ref u46, .ref u47, .ref u48]))]) [0] (by decide) rfl
  have hK9 := hK.sub (tys' := []) [] rfl
  refine W.widen (k := 0) (n := 0) (by decide) (by decide) ?_
  exact W.iret (v := (-1)) hx hb hr (fun t ht hW => ⟨⟨(-1), (), rfl, rfl, by rw [ht]; exact hP9, va_K.moved hW.alike hK9, hD9⟩, hS.F ht⟩) hS.2.2 dX13_stop_13
set_option maxHeartbeats 4000000 in
set_option maxRecDepth 100000 in
theorem kX11_stop_1 (l : Launch) (dC : Nat → ClassId) (dI : Nat → Nat → Nat) (h0 h1 u0 u1 u2 u3 u4 u5 u6 u7 u8 u9 u10 : Nat) (sz : Nat) : Met l yX11_stop (zw yX11_stop cX11_stop 5 (some .int)) { frames := 1, cells := 0, slots := 0, locals := 21 } (zPc dC dI [.ref h0, .int 1] sz [(h0, .inr (11, [.ref h1, .ref u0, .ref u1, .ref u2, .ref u3, .ref u4, .ref u5, .ref u6, .ref u7, .ref u8, .null, .long (-1)])), (h1, .inr (9, [.ref u9, .ref u10, .int 0, .int 0]))] []) (va_Qi (fun (r : Int32) (_ : Unit) => r = (-1)) (fun (_ : Unit) (t : State) => va_P (dC, dI) vwCl [(h0, .inr (11, [.ref h1, .ref u0, .ref u1, .ref u2, .ref u3, .ref u4, .ref u5, .ref u6, .ref u7, .ref u8, .null, .long (-1)])), (h1, .inr (9, [.ref u9, .ref u10, .int 0, .int 0]))] t.heap ∧ va_K (dC, dI) vwCl [] t ∧ va_D (va_A [(h0, .inr (11, [.ref h1, .ref u0, .ref u1, .ref u2, .ref u3, .ref u4, .ref u5, .ref u6, .ref u7, .ref u8, .null, .long (-1)])), (h1, .inr (9, [.ref u9, .ref u10, .int 0, .int 0]))] sz) [(h0, .inr (11, [.ref h1, .ref u0, .ref u1, .ref u2, .ref u3, .ref u4, .ref u5, .ref u6, .ref u7, .ref u8, .null, .long (-1)])), (h1, .inr (9, [.ref u9, .ref u10, .int 0, .int 0]))]) (va_A [(h0, .inr (11, [.ref h1, .ref u0, .ref u1, .ref u2, .ref u3, .ref u4, .ref u5, .ref u6, .ref u7, .ref u8, .null, .long (-1)])), (h1, .inr (9, [.ref u9, .ref u10, .int 0, .int 0]))] sz)) 0 0 (va_A [(h0, .inr (11, [.ref h1, .ref u0, .ref u1, .ref u2, .ref u3, .ref u4, .ref u5, .ref u6, .ref u7, .ref u8, .null, .long (-1)])), (h1, .inr (9, [.ref u9, .ref u10, .int 0, .int 0]))] sz) := by
  refine Met.ofW (cc := cX11_stop) (maxL := 5) (ret := (some .int)) (by decide) rfl ?_
  intro p e s m args below meth c s₁ B hml hv
  obtain ⟨rfl, hsz, hP, hK, hD0, hE, hZ⟩ := hv
  have hx := B.exec
  have hb := B.bytes
  have hr := B.returns
  have hG : ∀ w ∈ zG, w.before _ s = true := fun w h => atoms_spec (ws := (zw yX11_stop cX11_stop 5 (some .int))) B.pre w (List.mem_cons_of_mem _ h)
  have hown : s.vm.findClass RX11 = some m.cls := findClass_of_methodNamed B.named
  have hlocks := B.notSynchronized
  subst hsz
  have hD := hD0.self (sz := s.heap.size)
  generalize hAe : va_A [(h0, .inr (11, [.ref h1, .ref u0, .ref u1, .ref u2, .ref u3, .ref u4, .ref u5, .ref u6, .ref u7, .ref u8, .null, .long (-1)])), (h1, .inr (9, [.ref u9, .ref u10, .int 0, .int 0]))] s.heap.size = A at hD hZ ⊢
  have hA : ∀ q : Nat, s.heap.size ≤ q → A q := fun q h => by rw [← hAe]; exact Or.inr h
  have hS : va_S A s.heap s.heap [] := va_S.rf
  have hl := lv_entry ([.ref h0, .int 1]) (n := 5) (Nat.le_of_ble_eq_true rfl)
  rw [lg_entry_eq]
  generalize (lg_sl ([.ref h0, .int 1]) ++ List.replicate (5 - (lg_sl ([.ref h0, .int 1])).length) Slot.unset).toArray = ls at hl ⊢
  have hl : lv_has ls 5 [(0, .ref h0), (1, .int 1)] := hl
  refine lv_aload_n hx hb dX11_stop_0 rfl (lv_at hl 0 rfl) ?_
  refine va_get (D := (dC, dI)) (ci := 11) (v := .ref h1) (C := RX11) (T := TX11) (N := 12) hx hb hG zuX11 hown hK hP 0 rfl rfl 0 (by decide) (hG _ zw17) (fun _ h9 => h9) rfl dX11_stop_1 ?_
  have hPc := hP.sub (ws' := [(h1, .inr (9, [.ref u9, .ref u10, .int 0, .int 0]))]) [1] rfl
  have hDc := hD.sub (ws' := [(h1, .inr (9, [.ref u9, .ref u10, .int 0, .int 0]))]) [1] (by decide) rfl
  have hKc := hK.sub (tys' := []) [] rfl
  have hFc := va_free (wc := [(h1, .inr (9, [.ref u9, .ref u10, .int 0, .int 0]))]) hD hS hA [1] rfl
  refine va_calll (va_runV (As := []) (rest := []) ⟨hx, hb, hml, hown, hG⟩ (kX9_firstWord_0 l dC dI h1 u9 u10 s.heap.size) (cwV 0 hG (zgV zw468 zw469 zw470 zw8 zw471) rfl rfl rfl (by decide +kernel) ⟨Nat.le_of_ble_eq_true rfl, Nat.le_of_ble_eq_true rfl⟩) ⟨zPc_blind, va_recv hKc hPc (ci := 9) (q0 := 0) rfl rfl, zPc_pre hPc hKc hDc hE hS hFc hZ⟩ rfl rfl hl.1 rfl (lv_room (Nat.le_of_ble_eq_true rfl)) dX11_stop_4 ⟨Nat.le_of_ble_eq_true rfl, Nat.le_of_ble_eq_true rfl⟩) hS (fun q _ h => hFc q h) hFc (fun r_4805 u t H1 locs ht hvm hw hB hz1 hk1 hS => ?_)
  have hw : r_4805 = 0 := hw
  subst hw
  obtain ⟨hP1, hK1, hD1⟩ := hB
  rw [ht] at hP1
  obtain ⟨hP, hD⟩ := va_join (wr := [(h0, .inr (11, [.ref h1, .ref u0, .ref u1, .ref u2, .ref u3, .ref u4, .ref u5, .ref u6, .ref u7, .ref u8, .null, .long (-1)]))]) (w1 := [(h1, .inr (9, [.ref u9, .ref u10, .int 0, .int 0]))]) hP hD [1] [0] rfl rfl (by decide) (by decide) hk1 hFc hP1 hD1
  generalize H1 = H at hP hS ⊢
  have hP : va_P (dC, dI) vwCl [(h0, .inr (11, [.ref h1, .ref u0, .ref u1, .ref u2, .ref u3, .ref u4, .ref u5, .ref u6, .ref u7, .ref u8, .null, .long (-1)])), (h1, .inr (9, [.ref u9, .ref u10, .int 0, .int 0]))] H := hP
  have hD : va_D A [(h0, .inr (11, [.ref h1, .ref u0, .ref u1, .ref u2, .ref u3, .ref u4, .ref u5, .ref u6, .ref u7, .ref u8, .null, .long (-1)])), (h1, .inr (9, [.ref u9, .ref u10, .int 0, .int 0]))] := hD
  refine lv_lstore_n (lv' := [(2, .long 0), (0, .ref h0), (1, .int 1)]) hx hb dX11_stop_7 rfl hl (by decide) rfl (fun ls hl => ?_)
  refine lv_aload_n hx hb dX11_stop_8 rfl (lv_at hl 1 rfl) ?_
  refine va_get (D := (dC, dI)) (ci := 11) (v := .ref h1) (C := RX11) (T := TX11) (N := 12) hx hb hG zuX11 hown hK hP 0 rfl rfl 0 (by decide) (hG _ zw17) (fun _ h9 => h9) rfl dX11_stop_9 ?_
  have hPc := hP.sub (ws' := [(h1, .inr (9, [.ref u9, .ref u10, .int 0, .int 0]))]) [1] rfl
  have hDc := hD.sub (ws' := [(h1, .inr (9, [.ref u9, .ref u10, .int 0, .int 0]))]) [1] (by decide) rfl
  have hKc := hK.sub (tys' := []) [] rfl
  have hFc := va_free (wc := [(h1, .inr (9, [.ref u9, .ref u10, .int 0, .int 0]))]) hD hS hA [1] rfl
  refine va_callv (va_runV (As := []) (rest := []) ⟨hx, hb, hml, hown, hG⟩ (kX9_clear_0 l dC dI h1 u9 u10 H.size) (cwV 0 hG (zgV zw351 zw352 zw353 zw8 zw354) rfl rfl rfl (by decide +kernel) ⟨Nat.le_of_ble_eq_true rfl, Nat.le_of_ble_eq_true rfl⟩) ⟨zPc_blind, va_recv hKc hPc (ci := 9) (q0 := 0) rfl rfl, zPc_pre hPc hKc hDc hE hS hFc hZ⟩ rfl rfl hl.1 rfl (lv_room (Nat.le_of_ble_eq_true rfl)) dX11_stop_12 ⟨Nat.le_of_ble_eq_true rfl, Nat.le_of_ble_eq_true rfl⟩) hS (fun q _ h => hFc q h) hFc (fun u t H1 locs ht hvm hw hB hz1 hk1 hS => ?_)
  obtain ⟨hP1, hK1, hD1⟩ := hB
  rw [ht] at hP1
  obtain ⟨hP, hD⟩ := va_join (wr := [(h0, .inr (11, [.ref h1, .ref u0, .ref u1, .ref u2, .ref u3, .ref u4, .ref u5, .ref u6, .ref u7, .ref u8, .null, .long (-1)]))]) (w1 := [(h1, .inr (9, [.ref u9, .ref u10, .int 0, .int 0]))]) hP hD [1] [0] rfl rfl (by decide) (by decide) hk1 hFc hP1 hD1
  generalize H1 = H at hP hS ⊢
  have hP : va_P (dC, dI) vwCl [(h0, .inr (11, [.ref h1, .ref u0, .ref u1, .ref u2, .ref u3, .ref u4, .ref u5, .ref u6, .ref u7, .ref u8, .null, .long (-1)])), (h1, .inr (9, [.ref u9, .ref u10, .int 0, .int 0]))] H := hP
  have hD : va_D A [(h0, .inr (11, [.ref h1, .ref u0, .ref u1, .ref u2, .ref u3, .ref u4, .ref u5, .ref u6, .ref u7, .ref u8, .null, .long (-1)])), (h1, .inr (9, [.ref u9, .ref u10, .int 0, .int 0]))] := hD
  refine lv_lload_n hx hb dX11_stop_15 rfl (lv_at hl 0 rfl) ?_
  refine lv_lconst (v := 0) hx hb dX11_stop_16 (by decide) ?_
  refine W.lcmp hx hb dX11_stop_17 ?_
  refine lv_topi (fun z_4809 e_z_4809 => ?_)
  obtain rfl : z_4809 = (0 : Int32) := e_z_4809.trans (by decide)
  refine lv_if_ne (tgt := 23) hx hb dX11_stop_18 (by decide) (fun c_4810 => absurd c_4810 (by decide)) (fun c_4810 => ?_)
  refine lv_iconst (v := (-1)) hx hb dX11_stop_21 (by decide) ?_
  have hP9 := hP.sub (ws' := [(h0, .inr (11, [.ref h1, .ref u0, .ref u1, .ref u2, .ref u3, .ref u4, .ref u5, .ref u6, .ref u7, .ref u8, .null, .long (-1)])), (h1, .inr (9, [.ref u9, .ref u10, .int 0, .int 0]))]) [0, 1] rfl
  have hD9 := hD.sub (ws' := [(h0, .inr (11, [.ref h1, .ref u0, .ref u1, .ref u2, .ref u3, .ref u4, .ref u5, .ref u6, .ref u7, .ref u8, .null, .long (-1)])), (h1, .inr (9, [.ref u9, .ref u10, .int 0, .int 0]))]) [0, 1] (by decide) rfl
  have hK9 := hK.sub (tys' := []) [] rfl
  refine W.widen (k := 0) (n := 0) (by decide) (by decide) ?_
  exact W.iret (v := (-1)) hx hb hr (fun t ht hW => ⟨⟨(-1), (), rfl, rfl, by rw [ht]; exact hP9, va_K.moved hW.alike hK9, hD9⟩, hS.F ht⟩) hS.2.2 dX11_stop_22
set_option maxHeartbeats 4000000 in
set_option maxRecDepth 100000 in
theorem kX13_stop_1 (l : Launch) (dC : Nat → ClassId) (dI : Nat → Nat → Nat) (h0 u0 u1 u2 u3 u4 u5 u6 u7 u8 u9 u10 u11 u12 u13 u14 u15 u16 u17 u18 u19 u20 u21 u22 u23 u24 u25 u26 u27 u28 u29 u30 u31 u32 u33 u34 u35 u36 u37 u38 u39 u40 u41 u42 u43 u44 u45 u46 u47 u48 : Nat) (sz : Nat) : Met l yX13_stop (zw yX13_stop cX13_stop 4 (some .int)) { frames := 2, cells := 0, slots := 0, locals := 45 } (zPc dC dI [.ref h0, .int 1] sz [(h0, .inr (13, [.ref u0, .int 0, .ref u1, .ref u2, .int 0, .ref u3, .ref u4, .ref u5, .ref u6, .ref u7, .ref u8, .ref u9, .ref u10, .int 0, .ref u11, .ref u12, .int 0, .ref u13, .int (-1), .ref u14, .int 0, .int 0, .ref u15, .int 0, .int 0, .ref u16, .ref u17, .ref u18, .ref u19, .ref u20, .int 0, .ref u21, .int 0, .int 0, .int 0, .int 0, .int 0, .int 0, .ref u22, .ref u23, .ref u24, .ref u25, .int 0, .ref u26, .ref u27, .ref u28, .ref u29, .int 0, .ref u30, .ref u31, .int 0, .int 0, .ref u32, .int 0, .int 0, .int 0, .ref u33, .ref u34, .ref u35, .int 0, .int 0, .ref u36, .ref u37, .ref u38, .ref u39, .ref u40, .ref u41, .ref u42, .ref u43, .ref u44, .ref u45, .int 0, .ref u46, .ref u47, .ref u48]))] []) (va_Qi (fun (r : Int32) (_ : Unit) => r = (-1)) (fun (_ : Unit) (t : State) => va_P (dC, dI) vwCl [(h0, .inr (13, [.ref u0, .int 0, .ref u1, .ref u2, .int 0, .ref u3, .ref u4, .ref u5, .ref u6, .ref u7, .ref u8, .ref u9, .ref u10, .int 0, .ref u11, .ref u12, .int 0, .ref u13, .int (-1), .ref u14, .int 0, .int 0, .ref u15, .int 0, .int 0, .ref u16, .ref u17, .ref u18, .ref u19, .ref u20, .int 0, .ref u21, .int 0, .int 0, .int 0, .int 0, .int 0, .int 0, .ref u22, .ref u23, .ref u24, .ref u25, .int 0, .ref u26, .ref u27, .ref u28, .ref u29, .int 0, .ref u30, .ref u31, .int 0, .int 0, .ref u32, .int 0, .int 0, .int 0, .ref u33, .ref u34, .ref u35, .int 0, .int 0, .ref u36, .ref u37, .ref u38, .ref u39, .ref u40, .ref u41, .ref u42, .ref u43, .ref u44, .ref u45, .int 0, .ref u46, .ref u47, .ref u48]))] t.heap ∧ va_K (dC, dI) vwCl [] t ∧ va_D (va_A [(h0, .inr (13, [.ref u0, .int 0, .ref u1, .ref u2, .int 0, .ref u3, .ref u4, .ref u5, .ref u6, .ref u7, .ref u8, .ref u9, .ref u10, .int 0, .ref u11, .ref u12, .int 0, .ref u13, .int (-1), .ref u14, .int 0, .int 0, .ref u15, .int 0, .int 0, .ref u16, .ref u17, .ref u18, .ref u19, .ref u20, .int 0, .ref u21, .int 0, .int 0, .int 0, .int 0, .int 0, .int 0, .ref u22, .ref u23, .ref u24, .ref u25, .int 0, .ref u26, .ref u27, .ref u28, .ref u29, .int 0, .ref u30, .ref u31, .int 0, .int 0, .ref u32, .int 0, .int 0, .int 0, .ref u33, .ref u34, .ref u35, .int 0, .int 0, .ref u36, .ref u37, .ref u38, .ref u39, .ref u40, .ref u41, .ref u42, .ref u43, .ref u44, .ref u45, .int 0, .ref u46, .ref u47, .ref u48]))] sz) [(h0, .inr (13, [.ref u0, .int 0, .ref u1, .ref u2, .int 0, .ref u3, .ref u4, .ref u5, .ref u6, .ref u7, .ref u8, .ref u9, .ref u10, .int 0, .ref u11, .ref u12, .int 0, .ref u13, .int (-1), .ref u14, .int 0, .int 0, .ref u15, .int 0, .int 0, .ref u16, .ref u17, .ref u18, .ref u19, .ref u20, .int 0, .ref u21, .int 0, .int 0, .int 0, .int 0, .int 0, .int 0, .ref u22, .ref u23, .ref u24, .ref u25, .int 0, .ref u26, .ref u27, .ref u28, .ref u29, .int 0, .ref u30, .ref u31, .int 0, .int 0, .ref u32, .int 0, .int 0, .int 0, .ref u33, .ref u34, .ref u35, .int 0, .int 0, .ref u36, .ref u37, .ref u38, .ref u39, .ref u40, .ref u41, .ref u42, .ref u43, .ref u44, .ref u45, .int 0, .ref u46, .ref u47, .ref u48]))]) (va_A [(h0, .inr (13, [.ref u0, .int 0, .ref u1, .ref u2, .int 0, .ref u3, .ref u4, .ref u5, .ref u6, .ref u7, .ref u8, .ref u9, .ref u10, .int 0, .ref u11, .ref u12, .int 0, .ref u13, .int (-1), .ref u14, .int 0, .int 0, .ref u15, .int 0, .int 0, .ref u16, .ref u17, .ref u18, .ref u19, .ref u20, .int 0, .ref u21, .int 0, .int 0, .int 0, .int 0, .int 0, .int 0, .ref u22, .ref u23, .ref u24, .ref u25, .int 0, .ref u26, .ref u27, .ref u28, .ref u29, .int 0, .ref u30, .ref u31, .int 0, .int 0, .ref u32, .int 0, .int 0, .int 0, .ref u33, .ref u34, .ref u35, .int 0, .int 0, .ref u36, .ref u37, .ref u38, .ref u39, .ref u40, .ref u41, .ref u42, .ref u43, .ref u44, .ref u45, .int 0, .ref u46, .ref u47, .ref u48]))] sz)) 0 0 (va_A [(h0, .inr (13, [.ref u0, .int 0, .ref u1, .ref u2, .int 0, .ref u3, .ref u4, .ref u5, .ref u6, .ref u7, .ref u8, .ref u9, .ref u10, .int 0, .ref u11, .ref u12, .int 0, .ref u13, .int (-1), .ref u14, .int 0, .int 0, .ref u15, .int 0, .int 0, .ref u16, .ref u17, .ref u18, .ref u19, .ref u20, .int 0, .ref u21, .int 0, .int 0, .int 0, .int 0, .int 0, .int 0, .ref u22, .ref u23, .ref u24, .ref u25, .int 0, .ref u26, .ref u27, .ref u28, .ref u29, .int 0, .ref u30, .ref u31, .int 0, .int 0, .ref u32, .int 0, .int 0, .int 0, .ref u33, .ref u34, .ref u35, .int 0, .int 0, .ref u36, .ref u37, .ref u38, .ref u39, .ref u40, .ref u41, .ref u42, .ref u43, .ref u44, .ref u45, .int 0, .ref u46, .ref u47, .ref u48]))] sz) := by
  refine Met.ofW (cc := cX13_stop) (maxL := 4) (ret := (some .int)) (by decide) rfl ?_
  intro p e s m args below meth c s₁ B hml hv
  obtain ⟨rfl, hsz, hP, hK, hD0, hE, hZ⟩ := hv
  have hx := B.exec
  have hb := B.bytes
  have hr := B.returns
  have hG : ∀ w ∈ zG, w.before _ s = true := fun w h => atoms_spec (ws := (zw yX13_stop cX13_stop 4 (some .int))) B.pre w (List.mem_cons_of_mem _ h)
  have hown : s.vm.findClass RX13 = some m.cls := findClass_of_methodNamed B.named
  have hlocks := B.notSynchronized
  subst hsz
  have hD := hD0.self (sz := s.heap.size)
  generalize hAe : va_A [(h0, .inr (13, [.ref u0, .int 0, .ref u1, .ref u2, .int 0, .ref u3, .ref u4, .ref u5, .ref u6, .ref u7, .ref u8, .ref u9, .ref u10, .int 0, .ref u11, .ref u12, .int 0, .ref u13, .int (-1), .ref u14, .int 0, .int 0, .ref u15, .int 0, .int 0, .ref u16, .ref u17, .ref u18, .ref u19, .ref u20, .int 0, .ref u21, .int 0, .int 0, .int 0, .int 0, .int 0, .int 0, .ref u22, .ref u23, .ref u24, .ref u25, .int 0, .ref u26, .ref u27, .ref u28, .ref u29, .int 0, .ref u30, .ref u31, .int 0, .int 0, .ref u32, .int 0, .int 0, .int 0, .ref u33, .ref u34, .ref u35, .int 0, .int 0, .ref u36, .ref u37, .ref u38, .ref u39, .ref u40, .ref u41, .ref u42, .ref u43, .ref u44, .ref u45, .int 0, .ref u46, .ref u47, .ref u48]))] s.heap.size = A at hD hZ ⊢
  have hA : ∀ q : Nat, s.heap.size ≤ q → A q := fun q h => by rw [← hAe]; exact Or.inr h
  have hS : va_S A s.heap s.heap [] := va_S.rf
  have hl := lv_entry ([.ref h0, .int 1]) (n := 4) (Nat.le_of_ble_eq_true rfl)
  rw [lg_entry_eq]
  generalize (lg_sl ([.ref h0, .int 1]) ++ List.replicate (4 - (lg_sl ([.ref h0, .int 1])).length) Slot.unset).toArray = ls at hl ⊢
  have hl : lv_has ls 4 [(0, .ref h0), (1, .int 1)] := hl
  refine lv_aload_n hx hb dX13_stop_0 rfl (lv_at hl 0 rfl) ?_
  refine lv_iconst (v := 0) hx hb dX13_stop_1 (by decide) ?_
  refine va_put (D := (dC, dI)) (ci := 13) (v := .int 0) (ty := .int) (C := RX13) (T := TX13) (N := 75) hx hb hG zuX13 tyX13 tyX13_ok nmX13 hown hK hP hD hS 0 rfl rfl 21 (by decide) (hG _ zw302) (fun _ h9 => h9) rfl (by decide +kernel) rfl rfl (Nat.le_of_ble_eq_true rfl) dX13_stop_2 (fun H locs hP hD hS => ?_)
  have hP : va_P (dC, dI) vwCl [(h0, .inr (13, [.ref u0, .int 0, .ref u1, .ref u2, .int 0, .ref u3, .ref u4, .ref u5, .ref u6, .ref u7, .ref u8, .ref u9, .ref u10, .int 0, .ref u11, .ref u12, .int 0, .ref u13, .int (-1), .ref u14, .int 0, .int 0, .ref u15, .int 0, .int 0, .ref u16, .ref u17, .ref u18, .ref u19, .ref u20, .int 0, .ref u21, .int 0, .int 0, .int 0, .int 0, .int 0, .int 0, .ref u22, .ref u23, .ref u24, .ref u25, .int 0, .ref u26, .ref u27, .ref u28, .ref u29, .int 0, .ref u30, .ref u31, .int 0, .int 0, .ref u32, .int 0, .int 0, .int 0, .ref u33, .ref u34, .ref u35, .int 0, .int 0, .ref u36, .ref u37, .ref u38, .ref u39, .ref u40, .ref u41, .ref u42, .ref u43, .ref u44, .ref u45, .int 0, .ref u46, .ref u47, .ref u48]))] H := hP
  have hD : va_D A [(h0, .inr (13, [.ref u0, .int 0, .ref u1, .ref u2, .int 0, .ref u3, .ref u4, .ref u5, .ref u6, .ref u7, .ref u8, .ref u9, .ref u10, .int 0, .ref u11, .ref u12, .int 0, .ref u13, .int (-1), .ref u14, .int 0, .int 0, .ref u15, .int 0, .int 0, .ref u16, .ref u17, .ref u18, .ref u19, .ref u20, .int 0, .ref u21, .int 0, .int 0, .int 0, .int 0, .int 0, .int 0, .ref u22, .ref u23, .ref u24, .ref u25, .int 0, .ref u26, .ref u27, .ref u28, .ref u29, .int 0, .ref u30, .ref u31, .int 0, .int 0, .ref u32, .int 0, .int 0, .int 0, .ref u33, .ref u34, .ref u35, .int 0, .int 0, .ref u36, .ref u37, .ref u38, .ref u39, .ref u40, .ref u41, .ref u42, .ref u43, .ref u44, .ref u45, .int 0, .ref u46, .ref u47, .ref u48]))] := hD
  refine lv_aload_n hx hb dX13_stop_5 rfl (lv_at hl 0 rfl) ?_
  have hPc := hP.sub (ws' := [(h0, .inr (13, [.ref u0, .int 0, .ref u1, .ref u2, .int 0, .ref u3, .ref u4, .ref u5, .ref u6, .ref u7, .ref u8, .ref u9, .ref u10, .int 0, .ref u11, .ref u12, .int 0, .ref u13, .int (-1), .ref u14, .int 0, .int 0, .ref u15, .int 0, .int 0, .ref u16, .ref u17, .ref u18, .ref u19, .ref u20, .int 0, .ref u21, .int 0, .int 0, .int 0, .int 0, .int 0, .int 0, .ref u22, .ref u23, .ref u24, .ref u25, .int 0, .ref u26, .ref u27, .ref u28, .ref u29, .int 0, .ref u30, .ref u31, .int 0, .int 0, .ref u32, .int 0, .int 0, .int 0, .ref u33, .ref u34, .ref u35, .int 0, .int 0, .ref u36, .ref u37, .ref u38, .ref u39, .ref u40, .ref u41, .ref u42, .ref u43, .ref u44, .ref u45, .int 0, .ref u46, .ref u47, .ref u48]))]) [0] rfl
  have hDc := hD.sub (ws' := [(h0, .inr (13, [.ref u0, .int 0, .ref u1, .ref u2, .int 0, .ref u3, .ref u4, .ref u5, .ref u6, .ref u7, .ref u8, .ref u9, .ref u10, .int 0, .ref u11, .ref u12, .int 0, .ref u13, .int (-1), .ref u14, .int 0, .int 0, .ref u15, .int 0, .int 0, .ref u16, .ref u17, .ref u18, .ref u19, .ref u20, .int 0, .ref u21, .int 0, .int 0, .int 0, .int 0, .int 0, .int 0, .ref u22, .ref u23, .ref u24, .ref u25, .int 0, .ref u26, .ref u27, .ref u28, .ref u29, .int 0, .ref u30, .ref u31, .int 0, .int 0, .ref u32, .int 0, .int 0, .int 0, .ref u33, .ref u34, .ref u35, .int 0, .int 0, .ref u36, .ref u37, .ref u38, .ref u39, .ref u40, .ref u41, .ref u42, .ref u43, .ref u44, .ref u45, .int 0, .ref u46, .ref u47, .ref u48]))]) [0] (by decide) rfl
  have hKc := hK.sub (tys' := []) [] rfl
  have hFc := va_free (wc := [(h0, .inr (13, [.ref u0, .int 0, .ref u1, .ref u2, .int 0, .ref u3, .ref u4, .ref u5, .ref u6, .ref u7, .ref u8, .ref u9, .ref u10, .int 0, .ref u11, .ref u12, .int 0, .ref u13, .int (-1), .ref u14, .int 0, .int 0, .ref u15, .int 0, .int 0, .ref u16, .ref u17, .ref u18, .ref u19, .ref u20, .int 0, .ref u21, .int 0, .int 0, .int 0, .int 0, .int 0, .int 0, .ref u22, .ref u23, .ref u24, .ref u25, .int 0, .ref u26, .ref u27, .ref u28, .ref u29, .int 0, .ref u30, .ref u31, .int 0, .int 0, .ref u32, .int 0, .int 0, .int 0, .ref u33, .ref u34, .ref u35, .int 0, .int 0, .ref u36, .ref u37, .ref u38, .ref u39, .ref u40, .ref u41, .ref u42, .ref u43, .ref u44, .ref u45, .int 0, .ref u46, .ref u47, .ref u48]))]) hD hS hA [0] rfl
  refine va_calli (va_runV (As := []) (rest := []) ⟨hx, hb, hml, hown, hG⟩ (kX13_takesToken_0 l dC dI h0 u0 u1 u2 u3 u4 u5 u6 u7 u8 u9 u10 u11 u12 u13 u14 u15 u16 u17 u18 u19 u20 u21 u22 u23 u24 u25 u26 u27 u28 u29 u30 u31 u32 u33 u34 u35 u36 u37 u38 u39 u40 u41 u42 u43 u44 u45 u46 u47 u48 H.size) (cwV 0 hG (zgV zw480 zw481 zw482 zw207 zw483) rfl rfl rfl (by decide +kernel) ⟨Nat.le_of_ble_eq_true rfl, Nat.le_of_ble_eq_true rfl⟩) ⟨zPc_blind, va_recv hKc hPc (ci := 13) (q0 := 0) rfl rfl, zPc_pre hPc hKc hDc hE hS hFc hZ⟩ rfl rfl hl.1 rfl (lv_room (Nat.le_of_ble_eq_true rfl)) dX13_stop_6 ⟨Nat.le_of_ble_eq_true rfl, Nat.le_of_ble_eq_true rfl⟩) hS (fun q _ h => hFc q h) hFc (fun r_4846 u t H1 locs ht hvm hw hB hz1 hk1 hS => ?_)
  have hw : r_4846 = 0 := hw
  subst hw
  obtain ⟨hP1, hK1, hD1⟩ := hB
  rw [ht] at hP1
  obtain ⟨hP, hD⟩ := va_join (wr := []) (w1 := [(h0, .inr (13, [.ref u0, .int 0, .ref u1, .ref u2, .int 0, .ref u3, .ref u4, .ref u5, .ref u6, .ref u7, .ref u8, .ref u9, .ref u10, .int 0, .ref u11, .ref u12, .int 0, .ref u13, .int (-1), .ref u14, .int 0, .int 0, .ref u15, .int 0, .int 0, .ref u16, .ref u17, .ref u18, .ref u19, .ref u20, .int 0, .ref u21, .int 0, .int 0, .int 0, .int 0, .int 0, .int 0, .ref u22, .ref u23, .ref u24, .ref u25, .int 0, .ref u26, .ref u27, .ref u28, .ref u29, .int 0, .ref u30, .ref u31, .int 0, .int 0, .ref u32, .int 0, .int 0, .int 0, .ref u33, .ref u34, .ref u35, .int 0, .int 0, .ref u36, .ref u37, .ref u38, .ref u39, .ref u40, .ref u41, .ref u42, .ref u43, .ref u44, .ref u45, .int 0, .ref u46, .ref u47, .ref u48]))]) hP hD [0] [] rfl rfl (by decide) (by decide) hk1 hFc hP1 hD1
  generalize H1 = H at hP hS ⊢
  have hP : va_P (dC, dI) vwCl [(h0, .inr (13, [.ref u0, .int 0, .ref u1, .ref u2, .int 0, .ref u3, .ref u4, .ref u5, .ref u6, .ref u7, .ref u8, .ref u9, .ref u10, .int 0, .ref u11, .ref u12, .int 0, .ref u13, .int (-1), .ref u14, .int 0, .int 0, .ref u15, .int 0, .int 0, .ref u16, .ref u17, .ref u18, .ref u19, .ref u20, .int 0, .ref u21, .int 0, .int 0, .int 0, .int 0, .int 0, .int 0, .ref u22, .ref u23, .ref u24, .ref u25, .int 0, .ref u26, .ref u27, .ref u28, .ref u29, .int 0, .ref u30, .ref u31, .int 0, .int 0, .ref u32, .int 0, .int 0, .int 0, .ref u33, .ref u34, .ref u35, .int 0, .int 0, .ref u36, .ref u37, .ref u38, .ref u39, .ref u40, .ref u41, .ref u42, .ref u43, .ref u44, .ref u45, .int 0, .ref u46, .ref u47, .ref u48]))] H := hP
  have hD : va_D A [(h0, .inr (13, [.ref u0, .int 0, .ref u1, .ref u2, .int 0, .ref u3, .ref u4, .ref u5, .ref u6, .ref u7, .ref u8, .ref u9, .ref u10, .int 0, .ref u11, .ref u12, .int 0, .ref u13, .int (-1), .ref u14, .int 0, .int 0, .ref u15, .int 0, .int 0, .ref u16, .ref u17, .ref u18, .ref u19, .ref u20, .int 0, .ref u21, .int 0, .int 0, .int 0, .int 0, .int 0, .int 0, .ref u22, .ref u23, .ref u24, .ref u25, .int 0, .ref u26, .ref u27, .ref u28, .ref u29, .int 0, .ref u30, .ref u31, .int 0, .int 0, .ref u32, .int 0, .int 0, .int 0, .ref u33, .ref u34, .ref u35, .int 0, .int 0, .ref u36, .ref u37, .ref u38, .ref u39, .ref u40, .ref u41, .ref u42, .ref u43, .ref u44, .ref u45, .int 0, .ref u46, .ref u47, .ref u48]))] := hD
  refine lv_if_ne (tgt := 14) hx hb dX13_stop_9 (by decide) (fun c_4848 => absurd c_4848 (by decide)) (fun c_4848 => ?_)
  refine lv_iconst (v := (-1)) hx hb dX13_stop_12 (by decide) ?_
  have hP9 := hP.sub (ws' := [(h0, .inr (13, [.ref u0, .int 0, .ref u1, .ref u2, .int 0, .ref u3, .ref u4, .ref u5, .ref u6, .ref u7, .ref u8, .ref u9, .ref u10, .int 0, .ref u11, .ref u12, .int 0, .ref u13, .int (-1), .ref u14, .int 0, .int 0, .ref u15, .int 0, .int 0, .ref u16, .ref u17, .ref u18, .ref u19, .ref u20, .int 0, .ref u21, .int 0, .int 0, .int 0, .int 0, .int 0, .int 0, .ref u22, .ref u23, .ref u24, .ref u25, .int 0, .ref u26, .ref u27, .ref u28, .ref u29, .int 0, .ref u30, .ref u31, .int 0, .int 0, .ref u32, .int 0, .int 0, .int 0, .ref u33, .ref u34, .ref u35, .int 0, .int 0, .ref u36, .ref u37, .ref u38, .ref u39, .ref u40, .ref u41, .ref u42, .ref u43, .ref u44, .ref u45, .int 0, .ref u46, .ref u47, .ref u48]))]) [0] rfl
  have hD9 := hD.sub (ws' := [(h0, .inr (13, [.ref u0, .int 0, .ref u1, .ref u2, .int 0, .ref u3, .ref u4, .ref u5, .ref u6, .ref u7, .ref u8, .ref u9, .ref u10, .int 0, .ref u11, .ref u12, .int 0, .ref u13, .int (-1), .ref u14, .int 0, .int 0, .ref u15, .int 0, .int 0, .ref u16, .ref u17, .ref u18, .ref u19, .ref u20, .int 0, .ref u21, .int 0, .int 0, .int 0, .int 0, .int 0, .int 0, .ref u22, .ref u23, .ref u24, .ref u25, .int 0, .ref u26, .ref u27, .ref u28, .ref u29, .int 0, .ref u30, .ref u31, .int 0, .int 0, .ref u32, .int 0, .int 0, .int 0, .ref u33, .ref u34, .ref u35, .int 0, .int 0, .ref u36, .ref u37, .ref u38, .ref u39, .ref u40, .ref u41, .ref u42, .ref u43, .ref u44, .ref u45, .int 0, .ref u46, .ref u47, .ref u48]))]) [0] (by decide) rfl
  have hK9 := hK.sub (tys' := []) [] rfl
  refine W.widen (k := 0) (n := 0) (by decide) (by decide) ?_
  exact W.iret (v := (-1)) hx hb hr (fun t ht hW => ⟨⟨(-1), (), rfl, rfl, by rw [ht]; exact hP9, va_K.moved hW.alike hK9, hD9⟩, hS.F ht⟩) hS.2.2 dX13_stop_13
set_option maxHeartbeats 4000000 in
set_option maxRecDepth 100000 in
theorem kX11_document_0 (l : Launch) (hl0 : l.stackTraces = false) (dC : Nat → ClassId) (dI : Nat → Nat → Nat) (h0 h1 u0 u1 u2 u3 u4 u5 u6 u7 u8 u9 u10 u11 u12 : Nat) (sz : Nat) (s0 : Int32) (s1 : Int32) : vx_Met l yX11_document (zw yX11_document cX11_document 3 (some .int)) { frames := 8, cells := 1, slots := 6, locals := 120 } (zPc dC dI [.ref h0, .int s0, .int s1] sz [(h0, .inr (11, [.ref u0, .ref u1, .ref u2, .ref h1, .ref u3, .ref u4, .ref u5, .ref u6, .ref u7, .ref u8, .null, .long (-1)])), (h1, .inr (0, [.ref u9, .ref u10, .ref u11, .ref u12, .int 0, .int 0]))] []) (va_Qi (fun (_ : Int32) (_ : Unit) => False) (fun (_ : Unit) (_ : State) => True) (va_A [(h0, .inr (11, [.ref u0, .ref u1, .ref u2, .ref h1, .ref u3, .ref u4, .ref u5, .ref u6, .ref u7, .ref u8, .null, .long (-1)])), (h1, .inr (0, [.ref u9, .ref u10, .ref u11, .ref u12, .int 0, .int 0]))] sz)) (vx_X (fun _ : Unit => True) (fun (E : String) (_ : Unit) (t : State) => E = "java/lang/IndexOutOfBoundsException" ∧ va_P (dC, dI) vwCl [(h0, .inr (11, [.ref u0, .ref u1, .ref u2, .ref h1, .ref u3, .ref u4, .ref u5, .ref u6, .ref u7, .ref u8, .null, .long (-1)])), (h1, .inr (0, [.ref u9, .ref u10, .ref u11, .ref u12, .int 0, .int 0]))] t.heap ∧ va_K (dC, dI) vwCl [] t ∧ va_D (va_A [(h0, .inr (11, [.ref u0, .ref u1, .ref u2, .ref h1, .ref u3, .ref u4, .ref u5, .ref u6, .ref u7, .ref u8, .null, .long (-1)])), (h1, .inr (0, [.ref u9, .ref u10, .ref u11, .ref u12, .int 0, .int 0]))] sz) [(h0, .inr (11, [.ref u0, .ref u1, .ref u2, .ref h1, .ref u3, .ref u4, .ref u5, .ref u6, .ref u7, .ref u8, .null, .long (-1)])), (h1, .inr (0, [.ref u9, .ref u10, .ref u11, .ref u12, .int 0, .int 0]))]) (va_A [(h0, .inr (11, [.ref u0, .ref u1, .ref u2, .ref h1, .ref u3, .ref u4, .ref u5, .ref u6, .ref u7, .ref u8, .null, .long (-1)])), (h1, .inr (0, [.ref u9, .ref u10, .ref u11, .ref u12, .int 0, .int 0]))] sz)) 1 6 (va_A [(h0, .inr (11, [.ref u0, .ref u1, .ref u2, .ref h1, .ref u3, .ref u4, .ref u5, .ref u6, .ref u7, .ref u8, .null, .long (-1)])), (h1, .inr (0, [.ref u9, .ref u10, .ref u11, .ref u12, .int 0, .int 0]))] sz) := by
  refine vx_ofW (cc := cX11_document) (maxL := 3) (ret := (some .int)) (by decide) rfl ?_
  intro p e s m args below meth c s₁ B hml hout hv
  obtain ⟨rfl, hsz, hP, hK, hD0, hE, hZ⟩ := hv
  have hx := B.exec
  have hb := B.bytes
  have hr := B.returns
  have hG : ∀ w ∈ zG, w.before _ s = true := fun w h => atoms_spec (ws := (zw yX11_document cX11_document 3 (some .int))) B.pre w (List.mem_cons_of_mem _ h)
  have hown : s.vm.findClass RX11 = some m.cls := findClass_of_methodNamed B.named
  have hlocks := B.notSynchronized
  subst hsz
  have hD := hD0.self (sz := s.heap.size)
  generalize hAe : va_A [(h0, .inr (11, [.ref u0, .ref u1, .ref u2, .ref h1, .ref u3, .ref u4, .ref u5, .ref u6, .ref u7, .ref u8, .null, .long (-1)])), (h1, .inr (0, [.ref u9, .ref u10, .ref u11, .ref u12, .int 0, .int 0]))] s.heap.size = A at hD hZ ⊢
  have hA : ∀ q : Nat, s.heap.size ≤ q → A q := fun q h => by rw [← hAe]; exact Or.inr h
  have hS : va_S A s.heap s.heap [] := va_S.rf
  have hl := lv_entry ([.ref h0, .int s0, .int s1]) (n := 3) (Nat.le_of_ble_eq_true rfl)
  rw [lg_entry_eq]
  generalize (lg_sl ([.ref h0, .int s0, .int s1]) ++ List.replicate (3 - (lg_sl ([.ref h0, .int s0, .int s1])).length) Slot.unset).toArray = ls at hl ⊢
  have hl : lv_has ls 3 [(0, .ref h0), (1, .int s0), (2, .int s1)] := hl
  refine lv_aload_n hx hb dX11_document_0 rfl (lv_at hl 0 rfl) ?_
  refine va_get (D := (dC, dI)) (ci := 11) (v := .ref h1) (C := RX11) (T := TX11) (N := 12) hx hb hG zuX11 hown hK hP 0 rfl rfl 3 (by decide) (hG _ zw50) (fun _ h9 => h9) rfl dX11_document_1 ?_
  refine lv_iload_n hx hb dX11_document_4 rfl (lv_at hl 1 rfl) ?_
  have hPc := hP.sub (ws' := [(h1, .inr (0, [.ref u9, .ref u10, .ref u11, .ref u12, .int 0, .int 0]))]) [1] rfl
  have hDc := hD.sub (ws' := [(h1, .inr (0, [.ref u9, .ref u10, .ref u11, .ref u12, .int 0, .int 0]))]) [1] (by decide) rfl
  have hKc := hK.sub (tys' := []) [] rfl
  have hFc := va_free (wc := [(h1, .inr (0, [.ref u9, .ref u10, .ref u11, .ref u12, .int 0, .int 0]))]) hD hS hA [1] rfl
  refine va_calli (va_runV (As := [.int s0]) (rest := []) ⟨hx, hb, hml, hown, hG⟩ (kX0_came_0 l dC dI h1 u9 u10 u11 u12 s.heap.size s0) (cwV 1 hG (zgV zw488 zw402 zw403 zw39 zw404) rfl rfl rfl (by decide +kernel) ⟨Nat.le_of_ble_eq_true rfl, Nat.le_of_ble_eq_true rfl⟩) ⟨zPc_blind, va_recv hKc hPc (ci := 0) (q0 := 0) rfl rfl, zPc_pre hPc hKc hDc hE hS hFc hZ⟩ rfl rfl hl.1 rfl (lv_room (Nat.le_of_ble_eq_true rfl)) dX11_document_5 ⟨Nat.le_of_ble_eq_true rfl, Nat.le_of_ble_eq_true rfl⟩) hS (fun q _ h => hFc q h) hFc (fun r_4869 u t H1 locs ht hvm hw hB hz1 hk1 hS => ?_)
  have hw : r_4869 = 0 := hw
  subst hw
  obtain ⟨hP1, hK1, hD1⟩ := hB
  rw [ht] at hP1
  obtain ⟨hP, hD⟩ := va_join (wr := [(h0, .inr (11, [.ref u0, .ref u1, .ref u2, .ref h1, .ref u3, .ref u4, .ref u5, .ref u6, .ref u7, .ref u8, .null, .long (-1)]))]) (w1 := [(h1, .inr (0, [.ref u9, .ref u10, .ref u11, .ref u12, .int 0, .int 0]))]) hP hD [1] [0] rfl rfl (by decide) (by decide) hk1 hFc hP1 hD1
  generalize H1 = H at hP hS ⊢
  have hP : va_P (dC, dI) vwCl [(h0, .inr (11, [.ref u0, .ref u1, .ref u2, .ref h1, .ref u3, .ref u4, .ref u5, .ref u6, .ref u7, .ref u8, .null, .long (-1)])), (h1, .inr (0, [.ref u9, .ref u10, .ref u11, .ref u12, .int 0, .int 0]))] H := hP
  have hD : va_D A [(h0, .inr (11, [.ref u0, .ref u1, .ref u2, .ref h1, .ref u3, .ref u4, .ref u5, .ref u6, .ref u7, .ref u8, .null, .long (-1)])), (h1, .inr (0, [.ref u9, .ref u10, .ref u11, .ref u12, .int 0, .int 0]))] := hD
  refine lv_if_ne (tgt := 21) hx hb dX11_document_8 (by decide) (fun c_4871 => absurd c_4871 (by decide)) (fun c_4871 => ?_)
  have hP9 := hP.sub (ws' := [(h0, .inr (11, [.ref u0, .ref u1, .ref u2, .ref h1, .ref u3, .ref u4, .ref u5, .ref u6, .ref u7, .ref u8, .null, .long (-1)])), (h1, .inr (0, [.ref u9, .ref u10, .ref u11, .ref u12, .int 0, .int 0]))]) [0, 1] rfl
  have hD9 := hD.sub (ws' := [(h0, .inr (11, [.ref u0, .ref u1, .ref u2, .ref h1, .ref u3, .ref u4, .ref u5, .ref u6, .ref u7, .ref u8, .null, .long (-1)])), (h1, .inr (0, [.ref u9, .ref u10, .ref u11, .ref u12, .int 0, .int 0]))]) [0, 1] (by decide) rfl
  have hK9 := hK.sub (tys' := []) [] rfl
  obtain ⟨sa, hstr⟩ := zE_S184 hE
  exact vx_throwS (names := ["java/lang/RuntimeException", "java/lang/Exception"]) (A := A) hx hb hl0 hown (by decide +kernel) (by decide +kernel) (hG _ zw489) (hG _ zw490) hstr (zhat hG hE) zAT_ot hZ.1 hZ.2 hS (hl.1.trans hml.symm) dX11_document_11 dX11_document_14 dX11_document_15 dX11_document_17 dX11_document_20 (fun x h => (hout x h).elim) (by decide) (by decide +kernel) (Nat.le_of_ble_eq_true rfl) (Nat.le_of_ble_eq_true rfl) hlocks (fun t hvm hz hk => ⟨(), trivial, ⟨rfl, zkeepP hP9 hk, va_K.moved hvm hK9, hD9⟩, zkeepF hS hz hk⟩) hS.2.2 (Nat.le_of_ble_eq_true rfl) (Nat.le_of_ble_eq_true rfl)
set_option maxHeartbeats 4000000 in
set_option maxRecDepth 100000 in
theorem kL_document_0 (l : Launch) (hl0 : l.stackTraces = false) (dC : Nat → ClassId) (dI : Nat → Nat → Nat) (h0 h1 u0 u1 u2 u3 u4 u5 u6 u7 u8 u9 u10 u11 u12 u13 : Nat) (sz : Nat) (s0 : Int32) (s1 : Int32) : Met l yL_document (.codeWith yL_document cL_document 5 (some .int) [(0, 10, 13, 13)] :: zG) { frames := 9, cells := 1, slots := 6, locals := 142 } (zPc dC dI [.ref h0, .int s0, .int s1, .ref u0] sz [(h0, .inr (11, [.ref u1, .ref u2, .ref u3, .ref h1, .ref u4, .ref u5, .ref u6, .ref u7, .ref u8, .ref u9, .null, .long (-1)])), (h1, .inr (0, [.ref u10, .ref u11, .ref u12, .ref u13, .int 0, .int 0]))] []) (va_Qi (fun (r : Int32) (_ : Unit) => r = 1) (fun (_ : Unit) (t : State) => va_P (dC, dI) vwCl [(h0, .inr (11, [.ref u1, .ref u2, .ref u3, .ref h1, .ref u4, .ref u5, .ref u6, .ref u7, .ref u8, .ref u9, .null, .long (-1)])), (h1, .inr (0, [.ref u10, .ref u11, .ref u12, .ref u13, .int 0, .int 0]))] t.heap ∧ va_K (dC, dI) vwCl [] t ∧ va_D (va_A [(h0, .inr (11, [.ref u1, .ref u2, .ref u3, .ref h1, .ref u4, .ref u5, .ref u6, .ref u7, .ref u8, .ref u9, .null, .long (-1)])), (h1, .inr (0, [.ref u10, .ref u11, .ref u12, .ref u13, .int 0, .int 0]))] sz) [(h0, .inr (11, [.ref u1, .ref u2, .ref u3, .ref h1, .ref u4, .ref u5, .ref u6, .ref u7, .ref u8, .ref u9, .null, .long (-1)])), (h1, .inr (0, [.ref u10, .ref u11, .ref u12, .ref u13, .int 0, .int 0]))]) (va_A [(h0, .inr (11, [.ref u1, .ref u2, .ref u3, .ref h1, .ref u4, .ref u5, .ref u6, .ref u7, .ref u8, .ref u9, .null, .long (-1)])), (h1, .inr (0, [.ref u10, .ref u11, .ref u12, .ref u13, .int 0, .int 0]))] sz)) 1 6 (va_A [(h0, .inr (11, [.ref u1, .ref u2, .ref u3, .ref h1, .ref u4, .ref u5, .ref u6, .ref u7, .ref u8, .ref u9, .null, .long (-1)])), (h1, .inr (0, [.ref u10, .ref u11, .ref u12, .ref u13, .int 0, .int 0]))] sz) := by
  refine zmet_of (vx_ofWH (cc := cL_document) (maxL := 5) (ret := (some .int)) (hh := [(0, 10, 13, 13)]) (by decide) rfl ?_)
  intro p e s m args below meth c s₁ B hml hv
  obtain ⟨rfl, hsz, hP, hK, hD0, hE, hZ⟩ := hv
  have hx := B.exec
  have hb := B.bytes
  have hr := B.returns
  have hG : ∀ w ∈ zG, w.before _ s = true := fun w h => atoms_spec (ws := (.codeWith yL_document cL_document 5 (some .int) [(0, 10, 13, 13)] :: zG)) B.pre w (List.mem_cons_of_mem _ h)
  have hown : s.vm.findClass RL = some m.cls := findClass_of_methodNamed B.named
  have hlocks := B.notSynchronized
  have htab : c.exceptionTable.toList = tableOf [(0, 10, 13, 13)] := vx_table (x := yL_law) B (atoms_spec (ws := (.codeWith yL_document cL_document 5 (some .int) [(0, 10, 13, 13)] :: zG)) B.pre _ List.mem_cons_self)
  subst hsz
  have hD := hD0.self (sz := s.heap.size)
  generalize hAe : va_A [(h0, .inr (11, [.ref u1, .ref u2, .ref u3, .ref h1, .ref u4, .ref u5, .ref u6, .ref u7, .ref u8, .ref u9, .null, .long (-1)])), (h1, .inr (0, [.ref u10, .ref u11, .ref u12, .ref u13, .int 0, .int 0]))] s.heap.size = A at hD hZ ⊢
  have hA : ∀ q : Nat, s.heap.size ≤ q → A q := fun q h => by rw [← hAe]; exact Or.inr h
  have hS : va_S A s.heap s.heap [] := va_S.rf
  have hl := lv_entry ([.ref h0, .int s0, .int s1, .ref u0]) (n := 5) (Nat.le_of_ble_eq_true rfl)
  rw [lg_entry_eq]
  generalize (lg_sl ([.ref h0, .int s0, .int s1, .ref u0]) ++ List.replicate (5 - (lg_sl ([.ref h0, .int s0, .int s1, .ref u0])).length) Slot.unset).toArray = ls at hl ⊢
  have hl : lv_has ls 5 [(0, .ref h0), (1, .int s0), (2, .int s1), (3, .ref u0)] := hl
  refine lv_aload_n hx hb dL_document_0 rfl (lv_at hl 3 rfl) ?_
  refine lv_iconst (v := 0) hx hb dL_document_1 (by decide) ?_
  refine lv_aload_n hx hb dL_document_2 rfl (lv_at hl 0 rfl) ?_
  refine lv_iload_n hx hb dL_document_3 rfl (lv_at hl 1 rfl) ?_
  refine lv_iload_n hx hb dL_document_4 rfl (lv_at hl 2 rfl) ?_
  have hPc := hP.sub (ws' := [(h0, .inr (11, [.ref u1, .ref u2, .ref u3, .ref h1, .ref u4, .ref u5, .ref u6, .ref u7, .ref u8, .ref u9, .null, .long (-1)])), (h1, .inr (0, [.ref u10, .ref u11, .ref u12, .ref u13, .int 0, .int 0]))]) [0, 1] rfl
  have hDc := hD.sub (ws' := [(h0, .inr (11, [.ref u1, .ref u2, .ref u3, .ref h1, .ref u4, .ref u5, .ref u6, .ref u7, .ref u8, .ref u9, .null, .long (-1)])), (h1, .inr (0, [.ref u10, .ref u11, .ref u12, .ref u13, .int 0, .int 0]))]) [0, 1] (by decide) rfl
  have hKc := hK.sub (tys' := []) [] rfl
  have hFc := va_free (wc := [(h0, .inr (11, [.ref u1, .ref u2, .ref u3, .ref h1, .ref u4, .ref u5, .ref u6, .ref u7, .ref u8, .ref u9, .null, .long (-1)])), (h1, .inr (0, [.ref u10, .ref u11, .ref u12, .ref u13, .int 0, .int 0]))]) hD hS hA [0, 1] rfl
  refine vx_calli (vx_runV (As := [.int s0, .int s1]) (rest := [.int 0, .ref u0]) ⟨hx, hb, hml, hown, hG⟩ (kX11_document_0 l hl0 dC dI h0 h1 u1 u2 u3 u4 u5 u6 u7 u8 u9 u10 u11 u12 u13 s.heap.size s0 s1) (cwV 2 hG (zgV zw491 zw492 zw493 zw2 zw494) rfl rfl rfl (by decide +kernel) ⟨Nat.le_of_ble_eq_true rfl, Nat.le_of_ble_eq_true rfl⟩) ⟨zPc_blind, va_recv hKc hPc (ci := 11) (q0 := 0) rfl rfl, zPc_pre hPc hKc hDc hE hS hFc hZ⟩ rfl rfl hl.1 rfl (lv_room (Nat.le_of_ble_eq_true rfl)) dL_document_5 ⟨Nat.le_of_ble_eq_true rfl, Nat.le_of_ble_eq_true rfl⟩) hS (fun q _ h => hFc q h) hFc (fun q _ h => hFc q h) (fun E ce q9 u t H1 locs ht hvm hpx hBX hz1 hk1 hS hce hcv hcl => ?_) (fun r u t H1 locs ht hvm hw => (hw : False).elim)
  obtain ⟨rfl, hP1, hK1, hD1⟩ := hBX
  rw [ht] at hP1
  obtain ⟨hP, hD⟩ := va_join (wr := []) (w1 := [(h0, .inr (11, [.ref u1, .ref u2, .ref u3, .ref h1, .ref u4, .ref u5, .ref u6, .ref u7, .ref u8, .ref u9, .null, .long (-1)])), (h1, .inr (0, [.ref u10, .ref u11, .ref u12, .ref u13, .int 0, .int 0]))]) hP hD [0, 1] [] rfl rfl (by decide) (by decide) hk1 hFc hP1 hD1
  have hP : va_P (dC, dI) vwCl [(h0, .inr (11, [.ref u1, .ref u2, .ref u3, .ref h1, .ref u4, .ref u5, .ref u6, .ref u7, .ref u8, .ref u9, .null, .long (-1)])), (h1, .inr (0, [.ref u10, .ref u11, .ref u12, .ref u13, .int 0, .int 0]))] H1 := hP
  have hD : va_D A [(h0, .inr (11, [.ref u1, .ref u2, .ref u3, .ref h1, .ref u4, .ref u5, .ref u6, .ref u7, .ref u8, .ref u9, .null, .long (-1)])), (h1, .inr (0, [.ref u10, .ref u11, .ref u12, .ref u13, .int 0, .int 0]))] := hD
  refine z_catch (x := _) (suf := []) hown htab (by decide) (by decide) (hG _ zw495) (va_Nw.use rfl (zE_castI hE)) hce hcv hcl ?_
  refine W.widen (k := 1) (n := 6) (by decide) (by decide) ?_
  refine W.eq (g2 := F0 m 13 ls [.ref q9]) rfl ?_
  generalize H1 = H at hP hS ⊢
  have hP : va_P (dC, dI) vwCl [(h0, .inr (11, [.ref u1, .ref u2, .ref u3, .ref h1, .ref u4, .ref u5, .ref u6, .ref u7, .ref u8, .ref u9, .null, .long (-1)])), (h1, .inr (0, [.ref u10, .ref u11, .ref u12, .ref u13, .int 0, .int 0]))] H := hP
  refine lv_astore (lv' := [(4, .ref q9), (0, .ref h0), (1, .int s0), (2, .int s1), (3, .ref u0)]) hx hb dL_document_13 hl (by decide) rfl (fun ls hl => ?_)
  refine lv_iconst (v := 1) hx hb dL_document_15 (by decide) ?_
  have hP9 := hP.sub (ws' := [(h0, .inr (11, [.ref u1, .ref u2, .ref u3, .ref h1, .ref u4, .ref u5, .ref u6, .ref u7, .ref u8, .ref u9, .null, .long (-1)])), (h1, .inr (0, [.ref u10, .ref u11, .ref u12, .ref u13, .int 0, .int 0]))]) [0, 1] rfl
  have hD9 := hD.sub (ws' := [(h0, .inr (11, [.ref u1, .ref u2, .ref u3, .ref h1, .ref u4, .ref u5, .ref u6, .ref u7, .ref u8, .ref u9, .null, .long (-1)])), (h1, .inr (0, [.ref u10, .ref u11, .ref u12, .ref u13, .int 0, .int 0]))]) [0, 1] (by decide) rfl
  have hK9 := hK.sub (tys' := []) [] rfl
  refine W.widen (k := 1) (n := 6) (by decide) (by decide) ?_
  exact vx_ret (W.iret (v := 1) hx hb hr (fun t ht hW => ⟨⟨1, (), rfl, rfl, by rw [ht]; exact hP9, va_K.moved hW.alike hK9, hD9⟩, hS.F ht⟩) hS.2.2 dL_document_16)
set_option maxHeartbeats 4000000 in
set_option maxRecDepth 100000 in
theorem kX13_refuse_0 (l : Launch) (dC : Nat → ClassId) (dI : Nat → Nat → Nat) (h0 u0 u1 u2 u3 u4 u5 u6 u7 u8 u9 u10 u11 u12 u13 u14 u15 u16 u17 u18 u19 u20 u21 u22 u23 u24 u25 u26 u27 u28 u29 u30 u31 u32 u33 u34 u35 u36 u37 u38 u39 u40 u41 u42 u43 u44 u45 u46 u47 u48 : Nat) (sz : Nat) : Met l yX13_refuse (zw yX13_refuse cX13_refuse 1 (some .int)) { frames := 0, cells := 0, slots := 0, locals := 0 } (zPc dC dI [.ref h0] sz [(h0, .inr (13, [.ref u0, .int 0, .ref u1, .ref u2, .int 0, .ref u3, .ref u4, .ref u5, .ref u6, .ref u7, .ref u8, .ref u9, .ref u10, .int 0, .ref u11, .ref u12, .int 0, .ref u13, .int (-1), .ref u14, .int 0, .int 0, .ref u15, .int 0, .int 0, .ref u16, .ref u17, .ref u18, .ref u19, .ref u20, .int 0, .ref u21, .int 0, .int 0, .int 0, .int 0, .int 0, .int 0, .ref u22, .ref u23, .ref u24, .ref u25, .int 0, .ref u26, .ref u27, .ref u28, .ref u29, .int 0, .ref u30, .ref u31, .int 0, .int 0, .ref u32, .int 0, .int 0, .int 0, .ref u33, .ref u34, .ref u35, .int 0, .int 0, .ref u36, .ref u37, .ref u38, .ref u39, .ref u40, .ref u41, .ref u42, .ref u43, .ref u44, .ref u45, .int 0, .ref u46, .ref u47, .ref u48]))] []) (va_Qi (fun (r : Int32) (_ : Unit) => r = 0) (fun (_ : Unit) (t : State) => va_P (dC, dI) vwCl [(h0, .inr (13, [.ref u0, .int 0, .ref u1, .ref u2, .int 0, .ref u3, .ref u4, .ref u5, .ref u6, .ref u7, .ref u8, .ref u9, .ref u10, .int 0, .ref u11, .ref u12, .int 0, .ref u13, .int (-1), .ref u14, .int 0, .int 1, .ref u15, .int 0, .int 0, .ref u16, .ref u17, .ref u18, .ref u19, .ref u20, .int 0, .ref u21, .int 0, .int 0, .int 0, .int 0, .int 0, .int 0, .ref u22, .ref u23, .ref u24, .ref u25, .int 0, .ref u26, .ref u27, .ref u28, .ref u29, .int 0, .ref u30, .ref u31, .int 0, .int 0, .ref u32, .int 0, .int 0, .int 0, .ref u33, .ref u34, .ref u35, .int 0, .int 0, .ref u36, .ref u37, .ref u38, .ref u39, .ref u40, .ref u41, .ref u42, .ref u43, .ref u44, .ref u45, .int 0, .ref u46, .ref u47, .ref u48]))] t.heap ∧ va_K (dC, dI) vwCl [] t ∧ va_D (va_A [(h0, .inr (13, [.ref u0, .int 0, .ref u1, .ref u2, .int 0, .ref u3, .ref u4, .ref u5, .ref u6, .ref u7, .ref u8, .ref u9, .ref u10, .int 0, .ref u11, .ref u12, .int 0, .ref u13, .int (-1), .ref u14, .int 0, .int 0, .ref u15, .int 0, .int 0, .ref u16, .ref u17, .ref u18, .ref u19, .ref u20, .int 0, .ref u21, .int 0, .int 0, .int 0, .int 0, .int 0, .int 0, .ref u22, .ref u23, .ref u24, .ref u25, .int 0, .ref u26, .ref u27, .ref u28, .ref u29, .int 0, .ref u30, .ref u31, .int 0, .int 0, .ref u32, .int 0, .int 0, .int 0, .ref u33, .ref u34, .ref u35, .int 0, .int 0, .ref u36, .ref u37, .ref u38, .ref u39, .ref u40, .ref u41, .ref u42, .ref u43, .ref u44, .ref u45, .int 0, .ref u46, .ref u47, .ref u48]))] sz) [(h0, .inr (13, [.ref u0, .int 0, .ref u1, .ref u2, .int 0, .ref u3, .ref u4, .ref u5, .ref u6, .ref u7, .ref u8, .ref u9, .ref u10, .int 0, .ref u11, .ref u12, .int 0, .ref u13, .int (-1), .ref u14, .int 0, .int 1, .ref u15, .int 0, .int 0, .ref u16, .ref u17, .ref u18, .ref u19, .ref u20, .int 0, .ref u21, .int 0, .int 0, .int 0, .int 0, .int 0, .int 0, .ref u22, .ref u23, .ref u24, .ref u25, .int 0, .ref u26, .ref u27, .ref u28, .ref u29, .int 0, .ref u30, .ref u31, .int 0, .int 0, .ref u32, .int 0, .int 0, .int 0, .ref u33, .ref u34, .ref u35, .int 0, .int 0, .ref u36, .ref u37, .ref u38, .ref u39, .ref u40, .ref u41, .ref u42, .ref u43, .ref u44, .ref u45, .int 0, .ref u46, .ref u47, .ref u48]))]) (va_A [(h0, .inr (13, [.ref u0, .int 0, .ref u1, .ref u2, .int 0, .ref u3, .ref u4, .ref u5, .ref u6, .ref u7, .ref u8, .ref u9, .ref u10, .int 0, .ref u11, .ref u12, .int 0, .ref u13, .int (-1), .ref u14, .int 0, .int 0, .ref u15, .int 0, .int 0, .ref u16, .ref u17, .ref u18, .ref u19, .ref u20, .int 0, .ref u21, .int 0, .int 0, .int 0, .int 0, .int 0, .int 0, .ref u22, .ref u23, .ref u24, .ref u25, .int 0, .ref u26, .ref u27, .ref u28, .ref u29, .int 0, .ref u30, .ref u31, .int 0, .int 0, .ref u32, .int 0, .int 0, .int 0, .ref u33, .ref u34, .ref u35, .int 0, .int 0, .ref u36, .ref u37, .ref u38, .ref u39, .ref u40, .ref u41, .ref u42, .ref u43, .ref u44, .ref u45, .int 0, .ref u46, .ref u47, .ref u48]))] sz)) 0 0 (va_A [(h0, .inr (13, [.ref u0, .int 0, .ref u1, .ref u2, .int 0, .ref u3, .ref u4, .ref u5, .ref u6, .ref u7, .ref u8, .ref u9, .ref u10, .int 0, .ref u11, .ref u12, .int 0, .ref u13, .int (-1), .ref u14, .int 0, .int 0, .ref u15, .int 0, .int 0, .ref u16, .ref u17, .ref u18, .ref u19, .ref u20, .int 0, .ref u21, .int 0, .int 0, .int 0, .int 0, .int 0, .int 0, .ref u22, .ref u23, .ref u24, .ref u25, .int 0, .ref u26, .ref u27, .ref u28, .ref u29, .int 0, .ref u30, .ref u31, .int 0, .int 0, .ref u32, .int 0, .int 0, .int 0, .ref u33, .ref u34, .ref u35, .int 0, .int 0, .ref u36, .ref u37, .ref u38, .ref u39, .ref u40, .ref u41, .ref u42, .ref u43, .ref u44, .ref u45, .int 0, .ref u46, .ref u47, .ref u48]))] sz) := by
  refine Met.ofW (cc := cX13_refuse) (maxL := 1) (ret := (some .int)) (by decide) rfl ?_
  intro p e s m args below meth c s₁ B hml hv
  obtain ⟨rfl, hsz, hP, hK, hD0, hE, hZ⟩ := hv
  have hx := B.exec
  have hb := B.bytes
  have hr := B.returns
  have hG : ∀ w ∈ zG, w.before _ s = true := fun w h => atoms_spec (ws := (zw yX13_refuse cX13_refuse 1 (some .int))) B.pre w (List.mem_cons_of_mem _ h)
  have hown : s.vm.findClass RX13 = some m.cls := findClass_of_methodNamed B.named
  have hlocks := B.notSynchronized
  subst hsz
  have hD := hD0.self (sz := s.heap.size)
  generalize hAe : va_A [(h0, .inr (13, [.ref u0, .int 0, .ref u1, .ref u2, .int 0, .ref u3, .ref u4, .ref u5, .ref u6, .ref u7, .ref u8, .ref u9, .ref u10, .int 0, .ref u11, .ref u12, .int 0, .ref u13, .int (-1), .ref u14, .int 0, .int 0, .ref u15, .int 0, .int 0, .ref u16, .ref u17, .ref u18, .ref u19, .ref u20, .int 0, .ref u21, .int 0, .int 0, .int 0, .int 0, .int 0, .int 0, .ref u22, .ref u23, .ref u24, .ref u25, .int 0, .ref u26, .ref u27, .ref u28, .ref u29, .int 0, .ref u30, .ref u31, .int 0, .int 0, .ref u32, .int 0, .int 0, .int 0, .ref u33, .ref u34, .ref u35, .int 0, .int 0, .ref u36, .ref u37, .ref u38, .ref u39, .ref u40, .ref u41, .ref u42, .ref u43, .ref u44, .ref u45, .int 0, .ref u46, .ref u47, .ref u48]))] s.heap.size = A at hD hZ ⊢
  have hA : ∀ q : Nat, s.heap.size ≤ q → A q := fun q h => by rw [← hAe]; exact Or.inr h
  have hS : va_S A s.heap s.heap [] := va_S.rf
  have hl := lv_entry ([.ref h0]) (n := 1) (Nat.le_of_ble_eq_true rfl)
  rw [lg_entry_eq]
  generalize (lg_sl ([.ref h0]) ++ List.replicate (1 - (lg_sl ([.ref h0])).length) Slot.unset).toArray = ls at hl ⊢
  have hl : lv_has ls 1 [(0, .ref h0)] := hl
  refine lv_aload_n hx hb dX13_refuse_0 rfl (lv_at hl 0 rfl) ?_
  refine lv_iconst (v := 1) hx hb dX13_refuse_1 (by decide) ?_
  refine va_put (D := (dC, dI)) (ci := 13) (v := .int 1) (ty := .int) (C := RX13) (T := TX13) (N := 75) hx hb hG zuX13 tyX13 tyX13_ok nmX13 hown hK hP hD hS 0 rfl rfl 21 (by decide) (hG _ zw302) (fun _ h9 => h9) rfl (by decide +kernel) rfl rfl (Nat.le_of_ble_eq_true rfl) dX13_refuse_2 (fun H locs hP hD hS => ?_)
  have hP : va_P (dC, dI) vwCl [(h0, .inr (13, [.ref u0, .int 0, .ref u1, .ref u2, .int 0, .ref u3, .ref u4, .ref u5, .ref u6, .ref u7, .ref u8, .ref u9, .ref u10, .int 0, .ref u11, .ref u12, .int 0, .ref u13, .int (-1), .ref u14, .int 0, .int 1, .ref u15, .int 0, .int 0, .ref u16, .ref u17, .ref u18, .ref u19, .ref u20, .int 0, .ref u21, .int 0, .int 0, .int 0, .int 0, .int 0, .int 0, .ref u22, .ref u23, .ref u24, .ref u25, .int 0, .ref u26, .ref u27, .ref u28, .ref u29, .int 0, .ref u30, .ref u31, .int 0, .int 0, .ref u32, .int 0, .int 0, .int 0, .ref u33, .ref u34, .ref u35, .int 0, .int 0, .ref u36, .ref u37, .ref u38, .ref u39, .ref u40, .ref u41, .ref u42, .ref u43, .ref u44, .ref u45, .int 0, .ref u46, .ref u47, .ref u48]))] H := hP
  have hD : va_D A [(h0, .inr (13, [.ref u0, .int 0, .ref u1, .ref u2, .int 0, .ref u3, .ref u4, .ref u5, .ref u6, .ref u7, .ref u8, .ref u9, .ref u10, .int 0, .ref u11, .ref u12, .int 0, .ref u13, .int (-1), .ref u14, .int 0, .int 1, .ref u15, .int 0, .int 0, .ref u16, .ref u17, .ref u18, .ref u19, .ref u20, .int 0, .ref u21, .int 0, .int 0, .int 0, .int 0, .int 0, .int 0, .ref u22, .ref u23, .ref u24, .ref u25, .int 0, .ref u26, .ref u27, .ref u28, .ref u29, .int 0, .ref u30, .ref u31, .int 0, .int 0, .ref u32, .int 0, .int 0, .int 0, .ref u33, .ref u34, .ref u35, .int 0, .int 0, .ref u36, .ref u37, .ref u38, .ref u39, .ref u40, .ref u41, .ref u42, .ref u43, .ref u44, .ref u45, .int 0, .ref u46, .ref u47, .ref u48]))] := hD
  refine lv_iconst (v := 0) hx hb dX13_refuse_5 (by decide) ?_
  have hP9 := hP.sub (ws' := [(h0, .inr (13, [.ref u0, .int 0, .ref u1, .ref u2, .int 0, .ref u3, .ref u4, .ref u5, .ref u6, .ref u7, .ref u8, .ref u9, .ref u10, .int 0, .ref u11, .ref u12, .int 0, .ref u13, .int (-1), .ref u14, .int 0, .int 1, .ref u15, .int 0, .int 0, .ref u16, .ref u17, .ref u18, .ref u19, .ref u20, .int 0, .ref u21, .int 0, .int 0, .int 0, .int 0, .int 0, .int 0, .ref u22, .ref u23, .ref u24, .ref u25, .int 0, .ref u26, .ref u27, .ref u28, .ref u29, .int 0, .ref u30, .ref u31, .int 0, .int 0, .ref u32, .int 0, .int 0, .int 0, .ref u33, .ref u34, .ref u35, .int 0, .int 0, .ref u36, .ref u37, .ref u38, .ref u39, .ref u40, .ref u41, .ref u42, .ref u43, .ref u44, .ref u45, .int 0, .ref u46, .ref u47, .ref u48]))]) [0] rfl
  have hD9 := hD.sub (ws' := [(h0, .inr (13, [.ref u0, .int 0, .ref u1, .ref u2, .int 0, .ref u3, .ref u4, .ref u5, .ref u6, .ref u7, .ref u8, .ref u9, .ref u10, .int 0, .ref u11, .ref u12, .int 0, .ref u13, .int (-1), .ref u14, .int 0, .int 1, .ref u15, .int 0, .int 0, .ref u16, .ref u17, .ref u18, .ref u19, .ref u20, .int 0, .ref u21, .int 0, .int 0, .int 0, .int 0, .int 0, .int 0, .ref u22, .ref u23, .ref u24, .ref u25, .int 0, .ref u26, .ref u27, .ref u28, .ref u29, .int 0, .ref u30, .ref u31, .int 0, .int 0, .ref u32, .int 0, .int 0, .int 0, .ref u33, .ref u34, .ref u35, .int 0, .int 0, .ref u36, .ref u37, .ref u38, .ref u39, .ref u40, .ref u41, .ref u42, .ref u43, .ref u44, .ref u45, .int 0, .ref u46, .ref u47, .ref u48]))]) [0] (by decide) rfl
  have hK9 := hK.sub (tys' := []) [] rfl
  refine W.widen (k := 0) (n := 0) (by decide) (by decide) ?_
  exact W.iret (v := 0) hx hb hr (fun t ht hW => ⟨⟨0, (), rfl, rfl, by rw [ht]; exact hP9, va_K.moved hW.alike hK9, hD9⟩, hS.F ht⟩) hS.2.2 dX13_refuse_6
set_option maxHeartbeats 4000000 in
set_option maxRecDepth 100000 in
theorem kX13_document_0 (l : Launch) (dC : Nat → ClassId) (dI : Nat → Nat → Nat) (h0 u0 u1 u2 u3 u4 u5 u6 u7 u8 u9 u10 u11 u12 u13 u14 u15 u16 u17 u18 u19 u20 u21 u22 u23 u24 u25 u26 u27 u28 u29 u30 u31 u32 u33 u34 u35 u36 u37 u38 u39 u40 u41 u42 u43 u44 u45 u46 u47 u48 : Nat) (sz : Nat) (s0 : Int32) (s1 : Int32) : Met l yX13_document (zw yX13_document cX13_document 3 (some .int)) { frames := 1, cells := 0, slots := 0, locals := 21 } (zPc dC dI [.ref h0, .int s0, .int s1] sz [(h0, .inr (13, [.ref u0, .int 0, .ref u1, .ref u2, .int 0, .ref u3, .ref u4, .ref u5, .ref u6, .ref u7, .ref u8, .ref u9, .ref u10, .int 0, .ref u11, .ref u12, .int 0, .ref u13, .int (-1), .ref u14, .int 0, .int 0, .ref u15, .int 0, .int 0, .ref u16, .ref u17, .ref u18, .ref u19, .ref u20, .int 0, .ref u21, .int 0, .int 0, .int 0, .int 0, .int 0, .int 0, .ref u22, .ref u23, .ref u24, .ref u25, .int 0, .ref u26, .ref u27, .ref u28, .ref u29, .int 0, .ref u30, .ref u31, .int 0, .int 0, .ref u32, .int 0, .int 0, .int 0, .ref u33, .ref u34, .ref u35, .int 0, .int 0, .ref u36, .ref u37, .ref u38, .ref u39, .ref u40, .ref u41, .ref u42, .ref u43, .ref u44, .ref u45, .int 0, .ref u46, .ref u47, .ref u48]))] []) (va_Qi (fun (r : Int32) (_ : Unit) => r = 0) (fun (_ : Unit) (t : State) => va_P (dC, dI) vwCl [(h0, .inr (13, [.ref u0, .int 0, .ref u1, .ref u2, .int 0, .ref u3, .ref u4, .ref u5, .ref u6, .ref u7, .ref u8, .ref u9, .ref u10, .int 0, .ref u11, .ref u12, .int 0, .ref u13, .int (-1), .ref u14, .int 0, .int 1, .ref u15, .int 0, .int 0, .ref u16, .ref u17, .ref u18, .ref u19, .ref u20, .int 0, .ref u21, .int 0, .int 0, .int 0, .int 0, .int 0, .int 0, .ref u22, .ref u23, .ref u24, .ref u25, .int 0, .ref u26, .ref u27, .ref u28, .ref u29, .int 0, .ref u30, .ref u31, .int 0, .int 0, .ref u32, .int 0, .int 0, .int 0, .ref u33, .ref u34, .ref u35, .int 0, .int 0, .ref u36, .ref u37, .ref u38, .ref u39, .ref u40, .ref u41, .ref u42, .ref u43, .ref u44, .ref u45, .int 0, .ref u46, .ref u47, .ref u48]))] t.heap ∧ va_K (dC, dI) vwCl [] t ∧ va_D (va_A [(h0, .inr (13, [.ref u0, .int 0, .ref u1, .ref u2, .int 0, .ref u3, .ref u4, .ref u5, .ref u6, .ref u7, .ref u8, .ref u9, .ref u10, .int 0, .ref u11, .ref u12, .int 0, .ref u13, .int (-1), .ref u14, .int 0, .int 0, .ref u15, .int 0, .int 0, .ref u16, .ref u17, .ref u18, .ref u19, .ref u20, .int 0, .ref u21, .int 0, .int 0, .int 0, .int 0, .int 0, .int 0, .ref u22, .ref u23, .ref u24, .ref u25, .int 0, .ref u26, .ref u27, .ref u28, .ref u29, .int 0, .ref u30, .ref u31, .int 0, .int 0, .ref u32, .int 0, .int 0, .int 0, .ref u33, .ref u34, .ref u35, .int 0, .int 0, .ref u36, .ref u37, .ref u38, .ref u39, .ref u40, .ref u41, .ref u42, .ref u43, .ref u44, .ref u45, .int 0, .ref u46, .ref u47, .ref u48]))] sz) [(h0, .inr (13, [.ref u0, .int 0, .ref u1, .ref u2, .int 0, .ref u3, .ref u4, .ref u5, .ref u6, .ref u7, .ref u8, .ref u9, .ref u10, .int 0, .ref u11, .ref u12, .int 0, .ref u13, .int (-1), .ref u14, .int 0, .int 1, .ref u15, .int 0, .int 0, .ref u16, .ref u17, .ref u18, .ref u19, .ref u20, .int 0, .ref u21, .int 0, .int 0, .int 0, .int 0, .int 0, .int 0, .ref u22, .ref u23, .ref u24, .ref u25, .int 0, .ref u26, .ref u27, .ref u28, .ref u29, .int 0, .ref u30, .ref u31, .int 0, .int 0, .ref u32, .int 0, .int 0, .int 0, .ref u33, .ref u34, .ref u35, .int 0, .int 0, .ref u36, .ref u37, .ref u38, .ref u39, .ref u40, .ref u41, .ref u42, .ref u43, .ref u44, .ref u45, .int 0, .ref u46, .ref u47, .ref u48]))]) (va_A [(h0, .inr (13, [.ref u0, .int 0, .ref u1, .ref u2, .int 0, .ref u3, .ref u4, .ref u5, .ref u6, .ref u7, .ref u8, .ref u9, .ref u10, .int 0, .ref u11, .ref u12, .int 0, .ref u13, .int (-1), .ref u14, .int 0, .int 0, .ref u15, .int 0, .int 0, .ref u16, .ref u17, .ref u18, .ref u19, .ref u20, .int 0, .ref u21, .int 0, .int 0, .int 0, .int 0, .int 0, .int 0, .ref u22, .ref u23, .ref u24, .ref u25, .int 0, .ref u26, .ref u27, .ref u28, .ref u29, .int 0, .ref u30, .ref u31, .int 0, .int 0, .ref u32, .int 0, .int 0, .int 0, .ref u33, .ref u34, .ref u35, .int 0, .int 0, .ref u36, .ref u37, .ref u38, .ref u39, .ref u40, .ref u41, .ref u42, .ref u43, .ref u44, .ref u45, .int 0, .ref u46, .ref u47, .ref u48]))] sz)) 0 0 (va_A [(h0, .inr (13, [.ref u0, .int 0, .ref u1, .ref u2, .int 0, .ref u3, .ref u4, .ref u5, .ref u6, .ref u7, .ref u8, .ref u9, .ref u10, .int 0, .ref u11, .ref u12, .int 0, .ref u13, .int (-1), .ref u14, .int 0, .int 0, .ref u15, .int 0, .int 0, .ref u16, .ref u17, .ref u18, .ref u19, .ref u20, .int 0, .ref u21, .int 0, .int 0, .int 0, .int 0, .int 0, .int 0, .ref u22, .ref u23, .ref u24, .ref u25, .int 0, .ref u26, .ref u27, .ref u28, .ref u29, .int 0, .ref u30, .ref u31, .int 0, .int 0, .ref u32, .int 0, .int 0, .int 0, .ref u33, .ref u34, .ref u35, .int 0, .int 0, .ref u36, .ref u37, .ref u38, .ref u39, .ref u40, .ref u41, .ref u42, .ref u43, .ref u44, .ref u45, .int 0, .ref u46, .ref u47, .ref u48]))] sz) := by
  refine Met.ofW (cc := cX13_document) (maxL := 3) (ret := (some .int)) (by decide) rfl ?_
  intro p e s m args below meth c s₁ B hml hv
  obtain ⟨rfl, hsz, hP, hK, hD0, hE, hZ⟩ := hv
  have hx := B.exec
  have hb := B.bytes
  have hr := B.returns
  have hG : ∀ w ∈ zG, w.before _ s = true := fun w h => atoms_spec (ws := (zw yX13_document cX13_document 3 (some .int))) B.pre w (List.mem_cons_of_mem _ h)
  have hown : s.vm.findClass RX13 = some m.cls := findClass_of_methodNamed B.named
  have hlocks := B.notSynchronized
  subst hsz
  have hD := hD0.self (sz := s.heap.size)
  generalize hAe : va_A [(h0, .inr (13, [.ref u0, .int 0, .ref u1, .ref u2, .int 0, .ref u3, .ref u4, .ref u5, .ref u6, .ref u7, .ref u8, .ref u9, .ref u10, .int 0, .ref u11, .ref u12, .int 0, .ref u13, .int (-1), .ref u14, .int 0, .int 0, .ref u15, .int 0, .int 0, .ref u16, .ref u17, .ref u18, .ref u19, .ref u20, .int 0, .ref u21, .int 0, .int 0, .int 0, .int 0, .int 0, .int 0, .ref u22, .ref u23, .ref u24, .ref u25, .int 0, .ref u26, .ref u27, .ref u28, .ref u29, .int 0, .ref u30, .ref u31, .int 0, .int 0, .ref u32, .int 0, .int 0, .int 0, .ref u33, .ref u34, .ref u35, .int 0, .int 0, .ref u36, .ref u37, .ref u38, .ref u39, .ref u40, .ref u41, .ref u42, .ref u43, .ref u44, .ref u45, .int 0, .ref u46, .ref u47, .ref u48]))] s.heap.size = A at hD hZ ⊢
  have hA : ∀ q : Nat, s.heap.size ≤ q → A q := fun q h => by rw [← hAe]; exact Or.inr h
  have hS : va_S A s.heap s.heap [] := va_S.rf
  have hl := lv_entry ([.ref h0, .int s0, .int s1]) (n := 3) (Nat.le_of_ble_eq_true rfl)
  rw [lg_entry_eq]
  generalize (lg_sl ([.ref h0, .int s0, .int s1]) ++ List.replicate (3 - (lg_sl ([.ref h0, .int s0, .int s1])).length) Slot.unset).toArray = ls at hl ⊢
  have hl : lv_has ls 3 [(0, .ref h0), (1, .int s0), (2, .int s1)] := hl
  refine lv_aload_n hx hb dX13_document_0 rfl (lv_at hl 0 rfl) ?_
  refine lv_iconst (v := 0) hx hb dX13_document_1 (by decide) ?_
  refine va_put (D := (dC, dI)) (ci := 13) (v := .int 0) (ty := .int) (C := RX13) (T := TX13) (N := 75) hx hb hG zuX13 tyX13 tyX13_ok nmX13 hown hK hP hD hS 0 rfl rfl 21 (by decide) (hG _ zw302) (fun _ h9 => h9) rfl (by decide +kernel) rfl rfl (Nat.le_of_ble_eq_true rfl) dX13_document_2 (fun H locs hP hD hS => ?_)
  have hP : va_P (dC, dI) vwCl [(h0, .inr (13, [.ref u0, .int 0, .ref u1, .ref u2, .int 0, .ref u3, .ref u4, .ref u5, .ref u6, .ref u7, .ref u8, .ref u9, .ref u10, .int 0, .ref u11, .ref u12, .int 0, .ref u13, .int (-1), .ref u14, .int 0, .int 0, .ref u15, .int 0, .int 0, .ref u16, .ref u17, .ref u18, .ref u19, .ref u20, .int 0, .ref u21, .int 0, .int 0, .int 0, .int 0, .int 0, .int 0, .ref u22, .ref u23, .ref u24, .ref u25, .int 0, .ref u26, .ref u27, .ref u28, .ref u29, .int 0, .ref u30, .ref u31, .int 0, .int 0, .ref u32, .int 0, .int 0, .int 0, .ref u33, .ref u34, .ref u35, .int 0, .int 0, .ref u36, .ref u37, .ref u38, .ref u39, .ref u40, .ref u41, .ref u42, .ref u43, .ref u44, .ref u45, .int 0, .ref u46, .ref u47, .ref u48]))] H := hP
  have hD : va_D A [(h0, .inr (13, [.ref u0, .int 0, .ref u1, .ref u2, .int 0, .ref u3, .ref u4, .ref u5, .ref u6, .ref u7, .ref u8, .ref u9, .ref u10, .int 0, .ref u11, .ref u12, .int 0, .ref u13, .int (-1), .ref u14, .int 0, .int 0, .ref u15, .int 0, .int 0, .ref u16, .ref u17, .ref u18, .ref u19, .ref u20, .int 0, .ref u21, .int 0, .int 0, .int 0, .int 0, .int 0, .int 0, .ref u22, .ref u23, .ref u24, .ref u25, .int 0, .ref u26, .ref u27, .ref u28, .ref u29, .int 0, .ref u30, .ref u31, .int 0, .int 0, .ref u32, .int 0, .int 0, .int 0, .ref u33, .ref u34, .ref u35, .int 0, .int 0, .ref u36, .ref u37, .ref u38, .ref u39, .ref u40, .ref u41, .ref u42, .ref u43, .ref u44, .ref u45, .int 0, .ref u46, .ref u47, .ref u48]))] := hD
  refine lv_aload_n hx hb dX13_document_5 rfl (lv_at hl 0 rfl) ?_
  refine lv_iload_n hx hb dX13_document_6 rfl (lv_at hl 1 rfl) ?_
  have hPc := hP.sub (ws' := [(h0, .inr (13, [.ref u0, .int 0, .ref u1, .ref u2, .int 0, .ref u3, .ref u4, .ref u5, .ref u6, .ref u7, .ref u8, .ref u9, .ref u10, .int 0, .ref u11, .ref u12, .int 0, .ref u13, .int (-1), .ref u14, .int 0, .int 0, .ref u15, .int 0, .int 0, .ref u16, .ref u17, .ref u18, .ref u19, .ref u20, .int 0, .ref u21, .int 0, .int 0, .int 0, .int 0, .int 0, .int 0, .ref u22, .ref u23, .ref u24, .ref u25, .int 0, .ref u26, .ref u27, .ref u28, .ref u29, .int 0, .ref u30, .ref u31, .int 0, .int 0, .ref u32, .int 0, .int 0, .int 0, .ref u33, .ref u34, .ref u35, .int 0, .int 0, .ref u36, .ref u37, .ref u38, .ref u39, .ref u40, .ref u41, .ref u42, .ref u43, .ref u44, .ref u45, .int 0, .ref u46, .ref u47, .ref u48]))]) [0] rfl
  have hDc := hD.sub (ws' := [(h0, .inr (13, [.ref u0, .int 0, .ref u1, .ref u2, .int 0, .ref u3, .ref u4, .ref u5, .ref u6, .ref u7, .ref u8, .ref u9, .ref u10, .int 0, .ref u11, .ref u12, .int 0, .ref u13, .int (-1), .ref u14, .int 0, .int 0, .ref u15, .int 0, .int 0, .ref u16, .ref u17, .ref u18, .ref u19, .ref u20, .int 0, .ref u21, .int 0, .int 0, .int 0, .int 0, .int 0, .int 0, .ref u22, .ref u23, .ref u24, .ref u25, .int 0, .ref u26, .ref u27, .ref u28, .ref u29, .int 0, .ref u30, .ref u31, .int 0, .int 0, .ref u32, .int 0, .int 0, .int 0, .ref u33, .ref u34, .ref u35, .int 0, .int 0, .ref u36, .ref u37, .ref u38, .ref u39, .ref u40, .ref u41, .ref u42, .ref u43, .ref u44, .ref u45, .int 0, .ref u46, .ref u47, .ref u48]))]) [0] (by decide) rfl
  have hKc := hK.sub (tys' := []) [] rfl
  have hFc := va_free (wc := [(h0, .inr (13, [.ref u0, .int 0, .ref u1, .ref u2, .int 0, .ref u3, .ref u4, .ref u5, .ref u6, .ref u7, .ref u8, .ref u9, .ref u10, .int 0, .ref u11, .ref u12, .int 0, .ref u13, .int (-1), .ref u14, .int 0, .int 0, .ref u15, .int 0, .int 0, .ref u16, .ref u17, .ref u18, .ref u19, .ref u20, .int 0, .ref u21, .int 0, .int 0, .int 0, .int 0, .int 0, .int 0, .ref u22, .ref u23, .ref u24, .ref u25, .int 0, .ref u26, .ref u27, .ref u28, .ref u29, .int 0, .ref u30, .ref u31, .int 0, .int 0, .ref u32, .int 0, .int 0, .int 0, .ref u33, .ref u34, .ref u35, .int 0, .int 0, .ref u36, .ref u37, .ref u38, .ref u39, .ref u40, .ref u41, .ref u42, .ref u43, .ref u44, .ref u45, .int 0, .ref u46, .ref u47, .ref u48]))]) hD hS hA [0] rfl
  refine va_calli (va_runV (As := [.int s0]) (rest := []) ⟨hx, hb, hml, hown, hG⟩ (kX13_isThere_0 l dC dI h0 u0 u1 u2 u3 u4 u5 u6 u7 u8 u9 u10 u11 u12 u13 u14 u15 u16 u17 u18 u19 u20 u21 u22 u23 u24 u25 u26 u27 u28 u29 u30 u31 u32 u33 u34 u35 u36 u37 u38 u39 u40 u41 u42 u43 u44 u45 u46 u47 u48 H.size s0) (cwV 1 hG (zgV zw417 zw418 zw419 zw207 zw420) rfl rfl rfl (by decide +kernel) ⟨Nat.le_of_ble_eq_true rfl, Nat.le_of_ble_eq_true rfl⟩) ⟨zPc_blind, va_recv hKc hPc (ci := 13) (q0 := 0) rfl rfl, zPc_pre hPc hKc hDc hE hS hFc hZ⟩ rfl rfl hl.1 rfl (lv_room (Nat.le_of_ble_eq_true rfl)) dX13_document_7 ⟨Nat.le_of_ble_eq_true rfl, Nat.le_of_ble_eq_true rfl⟩) hS (fun q _ h => hFc q h) hFc (fun r_4902 u t H1 locs ht hvm hw hB hz1 hk1 hS => ?_)
  have hw : r_4902 = 0 := hw
  subst hw
  obtain ⟨hP1, hK1, hD1⟩ := hB
  rw [ht] at hP1
  obtain ⟨hP, hD⟩ := va_join (wr := []) (w1 := [(h0, .inr (13, [.ref u0, .int 0, .ref u1, .ref u2, .int 0, .ref u3, .ref u4, .ref u5, .ref u6, .ref u7, .ref u8, .ref u9, .ref u10, .int 0, .ref u11, .ref u12, .int 0, .ref u13, .int (-1), .ref u14, .int 0, .int 0, .ref u15, .int 0, .int 0, .ref u16, .ref u17, .ref u18, .ref u19, .ref u20, .int 0, .ref u21, .int 0, .int 0, .int 0, .int 0, .int 0, .int 0, .ref u22, .ref u23, .ref u24, .ref u25, .int 0, .ref u26, .ref u27, .ref u28, .ref u29, .int 0, .ref u30, .ref u31, .int 0, .int 0, .ref u32, .int 0, .int 0, .int 0, .ref u33, .ref u34, .ref u35, .int 0, .int 0, .ref u36, .ref u37, .ref u38, .ref u39, .ref u40, .ref u41, .ref u42, .ref u43, .ref u44, .ref u45, .int 0, .ref u46, .ref u47, .ref u48]))]) hP hD [0] [] rfl rfl (by decide) (by decide) hk1 hFc hP1 hD1
  generalize H1 = H at hP hS ⊢
  have hP : va_P (dC, dI) vwCl [(h0, .inr (13, [.ref u0, .int 0, .ref u1, .ref u2, .int 0, .ref u3, .ref u4, .ref u5, .ref u6, .ref u7, .ref u8, .ref u9, .ref u10, .int 0, .ref u11, .ref u12, .int 0, .ref u13, .int (-1), .ref u14, .int 0, .int 0, .ref u15, .int 0, .int 0, .ref u16, .ref u17, .ref u18, .ref u19, .ref u20, .int 0, .ref u21, .int 0, .int 0, .int 0, .int 0, .int 0, .int 0, .ref u22, .ref u23, .ref u24, .ref u25, .int 0, .ref u26, .ref u27, .ref u28, .ref u29, .int 0, .ref u30, .ref u31, .int 0, .int 0, .ref u32, .int 0, .int 0, .int 0, .ref u33, .ref u34, .ref u35, .int 0, .int 0, .ref u36, .ref u37, .ref u38, .ref u39, .ref u40, .ref u41, .ref u42, .ref u43, .ref u44, .ref u45, .int 0, .ref u46, .ref u47, .ref u48]))] H := hP
  have hD : va_D A [(h0, .inr (13, [.ref u0, .int 0, .ref u1, .ref u2, .int 0, .ref u3, .ref u4, .ref u5, .ref u6, .ref u7, .ref u8, .ref u9, .ref u10, .int 0, .ref u11, .ref u12, .int 0, .ref u13, .int (-1), .ref u14, .int 0, .int 0, .ref u15, .int 0, .int 0, .ref u16, .ref u17, .ref u18, .ref u19, .ref u20, .int 0, .ref u21, .int 0, .int 0, .int 0, .int 0, .int 0, .int 0, .ref u22, .ref u23, .ref u24, .ref u25, .int 0, .ref u26, .ref u27, .ref u28, .ref u29, .int 0, .ref u30, .ref u31, .int 0, .int 0, .ref u32, .int 0, .int 0, .int 0, .ref u33, .ref u34, .ref u35, .int 0, .int 0, .ref u36, .ref u37, .ref u38, .ref u39, .ref u40, .ref u41, .ref u42, .ref u43, .ref u44, .ref u45, .int 0, .ref u46, .ref u47, .ref u48]))] := hD
  refine lv_if_ne (tgt := 18) hx hb dX13_document_10 (by decide) (fun c_4904 => absurd c_4904 (by decide)) (fun c_4904 => ?_)
  refine lv_aload_n hx hb dX13_document_13 rfl (lv_at hl 0 rfl) ?_
  have hPc := hP.sub (ws' := [(h0, .inr (13, [.ref u0, .int 0, .ref u1, .ref u2, .int 0, .ref u3, .ref u4, .ref u5, .ref u6, .ref u7, .ref u8, .ref u9, .ref u10, .int 0, .ref u11, .ref u12, .int 0, .ref u13, .int (-1), .ref u14, .int 0, .int 0, .ref u15, .int 0, .int 0, .ref u16, .ref u17, .ref u18, .ref u19, .ref u20, .int 0, .ref u21, .int 0, .int 0, .int 0, .int 0, .int 0, .int 0, .ref u22, .ref u23, .ref u24, .ref u25, .int 0, .ref u26, .ref u27, .ref u28, .ref u29, .int 0, .ref u30, .ref u31, .int 0, .int 0, .ref u32, .int 0, .int 0, .int 0, .ref u33, .ref u34, .ref u35, .int 0, .int 0, .ref u36, .ref u37, .ref u38, .ref u39, .ref u40, .ref u41, .ref u42, .ref u43, .ref u44, .ref u45, .int 0, .ref u46, .ref u47, .ref u48]))]) [0] rfl
  have hDc := hD.sub (ws' := [(h0, .inr (13, [.ref u0, .int 0, .ref u1, .ref u2, .int 0, .ref u3, .ref u4, .ref u5, .ref u6, .ref u7, .ref u8, .ref u9, .ref u10, .int 0, .ref u11, .ref u12, .int 0, .ref u13, .int (-1), .ref u14, .int 0, .int 0, .ref u15, .int 0, .int 0, .ref u16, .ref u17, .ref u18, .ref u19, .ref u20, .int 0, .ref u21, .int 0, .int 0, .int 0, .int 0, .int 0, .int 0, .ref u22, .ref u23, .ref u24, .ref u25, .int 0, .ref u26, .ref u27, .ref u28, .ref u29, .int 0, .ref u30, .ref u31, .int 0, .int 0, .ref u32, .int 0, .int 0, .int 0, .ref u33, .ref u34, .ref u35, .int 0, .int 0, .ref u36, .ref u37, .ref u38, .ref u39, .ref u40, .ref u41, .ref u42, .ref u43, .ref u44, .ref u45, .int 0, .ref u46, .ref u47, .ref u48]))]) [0] (by decide) rfl
  have hKc := hK.sub (tys' := []) [] rfl
  have hFc := va_free (wc := [(h0, .inr (13, [.ref u0, .int 0, .ref u1, .ref u2, .int 0, .ref u3, .ref u4, .ref u5, .ref u6, .ref u7, .ref u8, .ref u9, .ref u10, .int 0, .ref u11, .ref u12, .int 0, .ref u13, .int (-1), .ref u14, .int 0, .int 0, .ref u15, .int 0, .int 0, .ref u16, .ref u17, .ref u18, .ref u19, .ref u20, .int 0, .ref u21, .int 0, .int 0, .int 0, .int 0, .int 0, .int 0, .ref u22, .ref u23, .ref u24, .ref u25, .int 0, .ref u26, .ref u27, .ref u28, .ref u29, .int 0, .ref u30, .ref u31, .int 0, .int 0, .ref u32, .int 0, .int 0, .int 0, .ref u33, .ref u34, .ref u35, .int 0, .int 0, .ref u36, .ref u37, .ref u38, .ref u39, .ref u40, .ref u41, .ref u42, .ref u43, .ref u44, .ref u45, .int 0, .ref u46, .ref u47, .ref u48]))]) hD hS hA [0] rfl
  refine va_calli (va_runV (As := []) (rest := []) ⟨hx, hb, hml, hown, hG⟩ (kX13_refuse_0 l dC dI h0 u0 u1 u2 u3 u4 u5 u6 u7 u8 u9 u10 u11 u12 u13 u14 u15 u16 u17 u18 u19 u20 u21 u22 u23 u24 u25 u26 u27 u28 u29 u30 u31 u32 u33 u34 u35 u36 u37 u38 u39 u40 u41 u42 u43 u44 u45 u46 u47 u48 H.size) (cwV 0 hG (zgV zw500 zw501 zw502 zw207 zw503) rfl rfl rfl (by decide +kernel) ⟨Nat.le_of_ble_eq_true rfl, Nat.le_of_ble_eq_true rfl⟩) ⟨zPc_blind, va_recv hKc hPc (ci := 13) (q0 := 0) rfl rfl, zPc_pre hPc hKc hDc hE hS hFc hZ⟩ rfl rfl hl.1 rfl (lv_room (Nat.le_of_ble_eq_true rfl)) dX13_document_14 ⟨Nat.le_of_ble_eq_true rfl, Nat.le_of_ble_eq_true rfl⟩) hS (fun q _ h => hFc q h) hFc (fun r_4905 u t H1 locs ht hvm hw hB hz1 hk1 hS => ?_)
  have hw : r_4905 = 0 := hw
  subst hw
  obtain ⟨hP1, hK1, hD1⟩ := hB
  rw [ht] at hP1
  obtain ⟨hP, hD⟩ := va_join (wr := []) (w1 := [(h0, .inr (13, [.ref u0, .int 0, .ref u1, .ref u2, .int 0, .ref u3, .ref u4, .ref u5, .ref u6, .ref u7, .ref u8, .ref u9, .ref u10, .int 0, .ref u11, .ref u12, .int 0, .ref u13, .int (-1), .ref u14, .int 0, .int 1, .ref u15, .int 0, .int 0, .ref u16, .ref u17, .ref u18, .ref u19, .ref u20, .int 0, .ref u21, .int 0, .int 0, .int 0, .int 0, .int 0, .int 0, .ref u22, .ref u23, .ref u24, .ref u25, .int 0, .ref u26, .ref u27, .ref u28, .ref u29, .int 0, .ref u30, .ref u31, .int 0, .int 0, .ref u32, .int 0, .int 0, .int 0, .ref u33, .ref u34, .ref u35, .int 0, .int 0, .ref u36, .ref u37, .ref u38, .ref u39, .ref u40, .ref u41, .ref u42, .ref u43, .ref u44, .ref u45, .int 0, .ref u46, .ref u47, .ref u48]))]) hP hD [0] [] rfl rfl (by decide) (by decide) hk1 hFc hP1 hD1
  generalize H1 = H at hP hS ⊢
  have hP : va_P (dC, dI) vwCl [(h0, .inr (13, [.ref u0, .int 0, .ref u1, .ref u2, .int 0, .ref u3, .ref u4, .ref u5, .ref u6, .ref u7, .ref u8, .ref u9, .ref u10, .int 0, .ref u11, .ref u12, .int 0, .ref u13, .int (-1), .ref u14, .int 0, .int 1, .ref u15, .int 0, .int 0, .ref u16, .ref u17, .ref u18, .ref u19, .ref u20, .int 0, .ref u21, .int 0, .int 0, .int 0, .int 0, .int 0, .int 0, .ref u22, .ref u23, .ref u24, .ref u25, .int 0, .ref u26, .ref u27, .ref u28, .ref u29, .int 0, .ref u30, .ref u31, .int 0, .int 0, .ref u32, .int 0, .int 0, .int 0, .ref u33, .ref u34, .ref u35, .int 0, .int 0, .ref u36, .ref u37, .ref u38, .ref u39, .ref u40, .ref u41, .ref u42, .ref u43, .ref u44, .ref u45, .int 0, .ref u46, .ref u47, .ref u48]))] H := hP
  have hD : va_D A [(h0, .inr (13, [.ref u0, .int 0, .ref u1, .ref u2, .int 0, .ref u3, .ref u4, .ref u5, .ref u6, .ref u7, .ref u8, .ref u9, .ref u10, .int 0, .ref u11, .ref u12, .int 0, .ref u13, .int (-1), .ref u14, .int 0, .int 1, .ref u15, .int 0, .int 0, .ref u16, .ref u17, .ref u18, .ref u19, .ref u20, .int 0, .ref u21, .int 0, .int 0, .int 0, .int 0, .int 0, .int 0, .ref u22, .ref u23, .ref u24, .ref u25, .int 0, .ref u26, .ref u27, .ref u28, .ref u29, .int 0, .ref u30, .ref u31, .int 0, .int 0, .ref u32, .int 0, .int 0, .int 0, .ref u33, .ref u34, .ref u35, .int 0, .int 0, .ref u36, .ref u37, .ref u38, .ref u39, .ref u40, .ref u41, .ref u42, .ref u43, .ref u44, .ref u45, .int 0, .ref u46, .ref u47, .ref u48]))] := hD
  have hP9 := hP.sub (ws' := [(h0, .inr (13, [.ref u0, .int 0, .ref u1, .ref u2, .int 0, .ref u3, .ref u4, .ref u5, .ref u6, .ref u7, .ref u8, .ref u9, .ref u10, .int 0, .ref u11, .ref u12, .int 0, .ref u13, .int (-1), .ref u14, .int 0, .int 1, .ref u15, .int 0, .int 0, .ref u16, .ref u17, .ref u18, .ref u19, .ref u20, .int 0, .ref u21, .int 0, .int 0, .int 0, .int 0, .int 0, .int 0, .ref u22, .ref u23, .ref u24, .ref u25, .int 0, .ref u26, .ref u27, .ref u28, .ref u29, .int 0, .ref u30, .ref u31, .int 0, .int 0, .ref u32, .int 0, .int 0, .int 0, .ref u33, .ref u34, .ref u35, .int 0, .int 0, .ref u36, .ref u37, .ref u38, .ref u39, .ref u40, .ref u41, .ref u42, .ref u43, .ref u44, .ref u45, .int 0, .ref u46, .ref u47, .ref u48]))]) [0] rfl
  have hD9 := hD.sub (ws' := [(h0, .inr (13, [.ref u0, .int 0, .ref u1, .ref u2, .int 0, .ref u3, .ref u4, .ref u5, .ref u6, .ref u7, .ref u8, .ref u9, .ref u10, .int 0, .ref u11, .ref u12, .int 0, .ref u13, .int (-1), .ref u14, .int 0, .int 1, .ref u15, .int 0, .int 0, .ref u16, .ref u17, .ref u18, .ref u19, .ref u20, .int 0, .ref u21, .int 0, .int 0, .int 0, .int 0, .int 0, .int 0, .ref u22, .ref u23, .ref u24, .ref u25, .int 0, .ref u26, .ref u27, .ref u28, .ref u29, .int 0, .ref u30, .ref u31, .int 0, .int 0, .ref u32, .int 0, .int 0, .int 0, .ref u33, .ref u34, .ref u35, .int 0, .int 0, .ref u36, .ref u37, .ref u38, .ref u39, .ref u40, .ref u41, .ref u42, .ref u43, .ref u44, .ref u45, .int 0, .ref u46, .ref u47, .ref u48]))]) [0] (by decide) rfl
  have hK9 := hK.sub (tys' := []) [] rfl
  refine W.widen (k := 0) (n := 0) (by decide) (by decide) ?_
  exact W.iret (v := 0) hx hb hr (fun t ht hW => ⟨⟨0, (), rfl, rfl, by rw [ht]; exact hP9, va_K.moved hW.alike hK9, hD9⟩, hS.F ht⟩) hS.2.2 dX13_document_17
set_option maxHeartbeats 4000000 in
set_option maxRecDepth 100000 in
theorem kX13_thrown_0 (l : Launch) (dC : Nat → ClassId) (dI : Nat → Nat → Nat) (h0 u0 u1 u2 u3 u4 u5 u6 u7 u8 u9 u10 u11 u12 u13 u14 u15 u16 u17 u18 u19 u20 u21 u22 u23 u24 u25 u26 u27 u28 u29 u30 u31 u32 u33 u34 u35 u36 u37 u38 u39 u40 u41 u42 u43 u44 u45 u46 u47 u48 : Nat) (sz : Nat) : Met l yX13_thrown (zw yX13_thrown cX13_thrown 1 (some .int)) { frames := 0, cells := 0, slots := 0, locals := 0 } (zPc dC dI [.ref h0] sz [(h0, .inr (13, [.ref u0, .int 0, .ref u1, .ref u2, .int 0, .ref u3, .ref u4, .ref u5, .ref u6, .ref u7, .ref u8, .ref u9, .ref u10, .int 0, .ref u11, .ref u12, .int 0, .ref u13, .int (-1), .ref u14, .int 0, .int 1, .ref u15, .int 0, .int 0, .ref u16, .ref u17, .ref u18, .ref u19, .ref u20, .int 0, .ref u21, .int 0, .int 0, .int 0, .int 0, .int 0, .int 0, .ref u22, .ref u23, .ref u24, .ref u25, .int 0, .ref u26, .ref u27, .ref u28, .ref u29, .int 0, .ref u30, .ref u31, .int 0, .int 0, .ref u32, .int 0, .int 0, .int 0, .ref u33, .ref u34, .ref u35, .int 0, .int 0, .ref u36, .ref u37, .ref u38, .ref u39, .ref u40, .ref u41, .ref u42, .ref u43, .ref u44, .ref u45, .int 0, .ref u46, .ref u47, .ref u48]))] []) (va_Qi (fun (r : Int32) (_ : Unit) => r = 1) (fun (_ : Unit) (t : State) => va_P (dC, dI) vwCl [(h0, .inr (13, [.ref u0, .int 0, .ref u1, .ref u2, .int 0, .ref u3, .ref u4, .ref u5, .ref u6, .ref u7, .ref u8, .ref u9, .ref u10, .int 0, .ref u11, .ref u12, .int 0, .ref u13, .int (-1), .ref u14, .int 0, .int 1, .ref u15, .int 0, .int 0, .ref u16, .ref u17, .ref u18, .ref u19, .ref u20, .int 0, .ref u21, .int 0, .int 0, .int 0, .int 0, .int 0, .int 0, .ref u22, .ref u23, .ref u24, .ref u25, .int 0, .ref u26, .ref u27, .ref u28, .ref u29, .int 0, .ref u30, .ref u31, .int 0, .int 0, .ref u32, .int 0, .int 0, .int 0, .ref u33, .ref u34, .ref u35, .int 0, .int 0, .ref u36, .ref u37, .ref u38, .ref u39, .ref u40, .ref u41, .ref u42, .ref u43, .ref u44, .ref u45, .int 0, .ref u46, .ref u47, .ref u48]))] t.heap ∧ va_K (dC, dI) vwCl [] t ∧ va_D (va_A [(h0, .inr (13, [.ref u0, .int 0, .ref u1, .ref u2, .int 0, .ref u3, .ref u4, .ref u5, .ref u6, .ref u7, .ref u8, .ref u9, .ref u10, .int 0, .ref u11, .ref u12, .int 0, .ref u13, .int (-1), .ref u14, .int 0, .int 1, .ref u15, .int 0, .int 0, .ref u16, .ref u17, .ref u18, .ref u19, .ref u20, .int 0, .ref u21, .int 0, .int 0, .int 0, .int 0, .int 0, .int 0, .ref u22, .ref u23, .ref u24, .ref u25, .int 0, .ref u26, .ref u27, .ref u28, .ref u29, .int 0, .ref u30, .ref u31, .int 0, .int 0, .ref u32, .int 0, .int 0, .int 0, .ref u33, .ref u34, .ref u35, .int 0, .int 0, .ref u36, .ref u37, .ref u38, .ref u39, .ref u40, .ref u41, .ref u42, .ref u43, .ref u44, .ref u45, .int 0, .ref u46, .ref u47, .ref u48]))] sz) [(h0, .inr (13, [.ref u0, .int 0, .ref u1, .ref u2, .int 0, .ref u3, .ref u4, .ref u5, .ref u6, .ref u7, .ref u8, .ref u9, .ref u10, .int 0, .ref u11, .ref u12, .int 0, .ref u13, .int (-1), .ref u14, .int 0, .int 1, .ref u15, .int 0, .int 0, .ref u16, .ref u17, .ref u18, .ref u19, .ref u20, .int 0, .ref u21, .int 0, .int 0, .int 0, .int 0, .int 0, .int 0, .ref u22, .ref u23, .ref u24, .ref u25, .int 0, .ref u26, .ref u27, .ref u28, .ref u29, .int 0, .ref u30, .ref u31, .int 0, .int 0, .ref u32, .int 0, .int 0, .int 0, .ref u33, .ref u34, .ref u35, .int 0, .int 0, .ref u36, .ref u37, .ref u38, .ref u39, .ref u40, .ref u41, .ref u42, .ref u43, .ref u44, .ref u45, .int 0, .ref u46, .ref u47, .ref u48]))]) (va_A [(h0, .inr (13, [.ref u0, .int 0, .ref u1, .ref u2, .int 0, .ref u3, .ref u4, .ref u5, .ref u6, .ref u7, .ref u8, .ref u9, .ref u10, .int 0, .ref u11, .ref u12, .int 0, .ref u13, .int (-1), .ref u14, .int 0, .int 1, .ref u15, .int 0, .int 0, .ref u16, .ref u17, .ref u18, .ref u19, .ref u20, .int 0, .ref u21, .int 0, .int 0, .int 0, .int 0, .int 0, .int 0, .ref u22, .ref u23, .ref u24, .ref u25, .int 0, .ref u26, .ref u27, .ref u28, .ref u29, .int 0, .ref u30, .ref u31, .int 0, .int 0, .ref u32, .int 0, .int 0, .int 0, .ref u33, .ref u34, .ref u35, .int 0, .int 0, .ref u36, .ref u37, .ref u38, .ref u39, .ref u40, .ref u41, .ref u42, .ref u43, .ref u44, .ref u45, .int 0, .ref u46, .ref u47, .ref u48]))] sz)) 0 0 (va_A [(h0, .inr (13, [.ref u0, .int 0, .ref u1, .ref u2, .int 0, .ref u3, .ref u4, .ref u5, .ref u6, .ref u7, .ref u8, .ref u9, .ref u10, .int 0, .ref u11, .ref u12, .int 0, .ref u13, .int (-1), .ref u14, .int 0, .int 1, .ref u15, .int 0, .int 0, .ref u16, .ref u17, .ref u18, .ref u19, .ref u20, .int 0, .ref u21, .int 0, .int 0, .int 0, .int 0, .int 0, .int 0, .ref u22, .ref u23, .ref u24, .ref u25, .int 0, .ref u26, .ref u27, .ref u28, .ref u29, .int 0, .ref u30, .ref u31, .int 0, .int 0, .ref u32, .int 0, .int 0, .int 0, .ref u33, .ref u34, .ref u35, .int 0, .int 0, .ref u36, .ref u37, .ref u38, .ref u39, .ref u40, .ref u41, .ref u42, .ref u43, .ref u44, .ref u45, .int 0, .ref u46, .ref u47, .ref u48]))] sz) := by
  refine Met.ofW (cc := cX13_thrown) (maxL := 1) (ret := (some .int)) (by decide) rfl ?_
  intro p e s m args below meth c s₁ B hml hv
  obtain ⟨rfl, hsz, hP, hK, hD0, hE, hZ⟩ := hv
  have hx := B.exec
  have hb := B.bytes
  have hr := B.returns
  have hG : ∀ w ∈ zG, w.before _ s = true := fun w h => atoms_spec (ws := (zw yX13_thrown cX13_thrown 1 (some .int))) B.pre w (List.mem_cons_of_mem _ h)
  have hown : s.vm.findClass RX13 = some m.cls := findClass_of_methodNamed B.named
  have hlocks := B.notSynchronized
  subst hsz
  have hD := hD0.self (sz := s.heap.size)
  generalize hAe : va_A [(h0, .inr (13, [.ref u0, .int 0, .ref u1, .ref u2, .int 0, .ref u3, .ref u4, .ref u5, .ref u6, .ref u7, .ref u8, .ref u9, .ref u10, .int 0, .ref u11, .ref u12, .int 0, .ref u13, .int (-1), .ref u14, .int 0, .int 1, .ref u15, .int 0, .int 0, .ref u16, .ref u17, .ref u18, .ref u19, .ref u20, .int 0, .ref u21, .int 0, .int 0, .int 0, .int 0, .int 0, .int 0, .ref u22, .ref u23, .ref u24, .ref u25, .int 0, .ref u26, .ref u27, .ref u28, .ref u29, .int 0, .ref u30, .ref u31, .int 0, .int 0, .ref u32, .int 0, .int 0, .int 0, .ref u33, .ref u34, .ref u35, .int 0, .int 0, .ref u36, .ref u37, .ref u38, .ref u39, .ref u40, .ref u41, .ref u42, .ref u43, .ref u44, .ref u45, .int 0, .ref u46, .ref u47, .ref u48]))] s.heap.size = A at hD hZ ⊢
  have hA : ∀ q : Nat, s.heap.size ≤ q → A q := fun q h => by rw [← hAe]; exact Or.inr h
  have hS : va_S A s.heap s.heap [] := va_S.rf
  have hl := lv_entry ([.ref h0]) (n := 1) (Nat.le_of_ble_eq_true rfl)
  rw [lg_entry_eq]
  generalize (lg_sl ([.ref h0]) ++ List.replicate (1 - (lg_sl ([.ref h0])).length) Slot.unset).toArray = ls at hl ⊢
  have hl : lv_has ls 1 [(0, .ref h0)] := hl
  refine lv_aload_n hx hb dX13_thrown_0 rfl (lv_at hl 0 rfl) ?_
  refine va_get (D := (dC, dI)) (ci := 13) (v := .int 1) (C := RX13) (T := TX13) (N := 75) hx hb hG zuX13 hown hK hP 0 rfl rfl 21 (by decide) (hG _ zw302) (fun _ h9 => h9) rfl dX13_thrown_1 ?_
  have hP9 := hP.sub (ws' := [(h0, .inr (13, [.ref u0, .int 0, .ref u1, .ref u2, .int 0, .ref u3, .ref u4, .ref u5, .ref u6, .ref u7, .ref u8, .ref u9, .ref u10, .int 0, .ref u11, .ref u12, .int 0, .ref u13, .int (-1), .ref u14, .int 0, .int 1, .ref u15, .int 0, .int 0, .ref u16, .ref u17, .ref u18, .ref u19, .ref u20, .int 0, .ref u21, .int 0, .int 0, .int 0, .int 0, .int 0, .int 0, .ref u22, .ref u23, .ref u24, .ref u25, .int 0, .ref u26, .ref u27, .ref u28, .ref u29, .int 0, .ref u30, .ref u31, .int 0, .int 0, .ref u32, .int 0, .int 0, .int 0, .ref u33, .ref u34, .ref u35, .int 0, .int 0, .ref u36, .ref u37, .ref u38, .ref u39, .ref u40, .ref u41, .ref u42, .ref u43, .ref u44, .ref u45, .int 0, .ref u46, .ref u47, .ref u48]))]) [0] rfl
  have hD9 := hD.sub (ws' := [(h0, .inr (13, [.ref u0, .int 0, .ref u1, .ref u2, .int 0, .ref u3, .ref u4, .ref u5, .ref u6, .ref u7, .ref u8, .ref u9, .ref u10, .int 0, .ref u11, .ref u12, .int 0, .ref u13, .int (-1), .ref u14, .int 0, .int 1, .ref u15, .int 0, .int 0, .ref u16, .ref u17, .ref u18, .ref u19, .ref u20, .int 0, .ref u21, .int 0, .int 0, .int 0, .int 0, .int 0, .int 0, .ref u22, .ref u23, .ref u24, .ref u25, .int 0, .ref u26, .ref u27, .ref u28, .ref u29, .int 0, .ref u30, .ref u31, .int 0, .int 0, .ref u32, .int 0, .int 0, .int 0, .ref u33, .ref u34, .ref u35, .int 0, .int 0, .ref u36, .ref u37, .ref u38, .ref u39, .ref u40, .ref u41, .ref u42, .ref u43, .ref u44, .ref u45, .int 0, .ref u46, .ref u47, .ref u48]))]) [0] (by decide) rfl
  have hK9 := hK.sub (tys' := []) [] rfl
  refine W.widen (k := 0) (n := 0) (by decide) (by decide) ?_
  exact W.iret (v := 1) hx hb hr (fun t ht hW => ⟨⟨1, (), rfl, rfl, by rw [ht]; exact hP9, va_K.moved hW.alike hK9, hD9⟩, hS.F ht⟩) hS.2.2 dX13_thrown_4
set_option maxHeartbeats 4000000 in
set_option maxRecDepth 100000 in
theorem kX10_rankAhead_0 (l : Launch) (dC : Nat → ClassId) (dI : Nat → Nat → Nat) (h0 u0 u1 u2 u3 u4 u5 : Nat) (sz : Nat) : Met l yX10_rankAhead (zw yX10_rankAhead cX10_rankAhead 6 (some .int)) { frames := 0, cells := 0, slots := 0, locals := 0 } (zPc dC dI [.ref h0, .long 0] sz [(h0, .inr (10, [.int 400, .ref u0, .ref u1, .ref u2, .ref u3, .ref u4, .ref u5, .int 0]))] []) (va_Qi (fun (r : Int32) (_ : Unit) => r = 0) (fun (_ : Unit) (t : State) => va_P (dC, dI) vwCl [(h0, .inr (10, [.int 400, .ref u0, .ref u1, .ref u2, .ref u3, .ref u4, .ref u5, .int 0]))] t.heap ∧ va_K (dC, dI) vwCl [] t ∧ va_D (va_A [(h0, .inr (10, [.int 400, .ref u0, .ref u1, .ref u2, .ref u3, .ref u4, .ref u5, .int 0]))] sz) [(h0, .inr (10, [.int 400, .ref u0, .ref u1, .ref u2, .ref u3, .ref u4, .ref u5, .int 0]))]) (va_A [(h0, .inr (10, [.int 400, .ref u0, .ref u1, .ref u2, .ref u3, .ref u4, .ref u5, .int 0]))] sz)) 0 0 (va_A [(h0, .inr (10, [.int 400, .ref u0, .ref u1, .ref u2, .ref u3, .ref u4, .ref u5, .int 0]))] sz) := by
  refine Met.ofW (cc := cX10_rankAhead) (maxL := 6) (ret := (some .int)) (by decide) rfl ?_
  intro p e s m args below meth c s₁ B hml hv
  obtain ⟨rfl, hsz, hP, hK, hD0, hE, hZ⟩ := hv
  have hx := B.exec
  have hb := B.bytes
  have hr := B.returns
  have hG : ∀ w ∈ zG, w.before _ s = true := fun w h => atoms_spec (ws := (zw yX10_rankAhead cX10_rankAhead 6 (some .int))) B.pre w (List.mem_cons_of_mem _ h)
  have hown : s.vm.findClass RX10 = some m.cls := findClass_of_methodNamed B.named
  have hlocks := B.notSynchronized
  subst hsz
  have hD := hD0.self (sz := s.heap.size)
  generalize hAe : va_A [(h0, .inr (10, [.int 400, .ref u0, .ref u1, .ref u2, .ref u3, .ref u4, .ref u5, .int 0]))] s.heap.size = A at hD hZ ⊢
  have hA : ∀ q : Nat, s.heap.size ≤ q → A q := fun q h => by rw [← hAe]; exact Or.inr h
  have hS : va_S A s.heap s.heap [] := va_S.rf
  have hl := lv_entry ([.ref h0, .long 0]) (n := 6) (Nat.le_of_ble_eq_true rfl)
  rw [lg_entry_eq]
  generalize (lg_sl ([.ref h0, .long 0]) ++ List.replicate (6 - (lg_sl ([.ref h0, .long 0])).length) Slot.unset).toArray = ls at hl ⊢
  have hl : lv_has ls 6 [(0, .ref h0), (1, .long 0)] := hl
  refine lv_iconst (v := 0) hx hb dX10_rankAhead_0 (by decide) ?_
  refine lv_istore_n (lv' := [(3, .int 0), (0, .ref h0), (1, .long 0)]) hx hb dX10_rankAhead_1 rfl hl (by decide) rfl (fun ls hl => ?_)
  refine lv_aload_n hx hb dX10_rankAhead_2 rfl (lv_at hl 1 rfl) ?_
  refine va_get (D := (dC, dI)) (ci := 10) (v := .int 0) (C := RX10) (T := TX10) (N := 8) hx hb hG zuX10 hown hK hP 0 rfl rfl 7 (by decide) (hG _ zw26) (fun _ h9 => h9) rfl dX10_rankAhead_3 ?_
  refine lv_istore (lv' := [(4, .int 0), (3, .int 0), (0, .ref h0), (1, .long 0)]) hx hb dX10_rankAhead_6 hl (by decide) rfl (fun ls hl => ?_)
  refine lv_iload_n hx hb dX10_rankAhead_8 rfl (lv_at hl 1 rfl) ?_
  refine lv_iload hx hb dX10_rankAhead_9 (lv_at hl 0 rfl) ?_
  refine lv_icmp_ge (tgt := 49) hx hb dX10_rankAhead_11 (by decide) (fun c_4923 => ?_) (fun c_4923 => absurd c_4923 (by decide))
  refine lv_iload_n hx hb dX10_rankAhead_49 rfl (lv_at hl 1 rfl) ?_
  have hP9 := hP.sub (ws' := [(h0, .inr (10, [.int 400, .ref u0, .ref u1, .ref u2, .ref u3, .ref u4, .ref u5, .int 0]))]) [0] rfl
  have hD9 := hD.sub (ws' := [(h0, .inr (10, [.int 400, .ref u0, .ref u1, .ref u2, .ref u3, .ref u4, .ref u5, .int 0]))]) [0] (by decide) rfl
  have hK9 := hK.sub (tys' := []) [] rfl
  refine W.widen (k := 0) (n := 0) (by decide) (by decide) ?_
  exact W.iret (v := 0) hx hb hr (fun t ht hW => ⟨⟨0, (), rfl, rfl, by rw [ht]; exact hP9, va_K.moved hW.alike hK9, hD9⟩, hS.F ht⟩) hS.2.2 dX10_rankAhead_50
set_option maxHeartbeats 4000000 in
set_option maxRecDepth 100000 in
theorem kX10_rankOf_0 (l : Launch) (dC : Nat → ClassId) (dI : Nat → Nat → Nat) (h0 u0 u1 u2 u3 u4 u5 : Nat) (sz : Nat) : Met l yX10_rankOf (zw yX10_rankOf cX10_rankOf 4 (some .int)) { frames := 1, cells := 0, slots := 0, locals := 25 } (zPc dC dI [.ref h0, .long 0] sz [(h0, .inr (10, [.int 400, .ref u0, .ref u1, .ref u2, .ref u3, .ref u4, .ref u5, .int 0]))] []) (va_Qi (fun (r : Int32) (_ : Unit) => r = (-1)) (fun (_ : Unit) (t : State) => va_P (dC, dI) vwCl [(h0, .inr (10, [.int 400, .ref u0, .ref u1, .ref u2, .ref u3, .ref u4, .ref u5, .int 0]))] t.heap ∧ va_K (dC, dI) vwCl [] t ∧ va_D (va_A [(h0, .inr (10, [.int 400, .ref u0, .ref u1, .ref u2, .ref u3, .ref u4, .ref u5, .int 0]))] sz) [(h0, .inr (10, [.int 400, .ref u0, .ref u1, .ref u2, .ref u3, .ref u4, .ref u5, .int 0]))]) (va_A [(h0, .inr (10, [.int 400, .ref u0, .ref u1, .ref u2, .ref u3, .ref u4, .ref u5, .int 0]))] sz)) 0 0 (va_A [(h0, .inr (10, [.int 400, .ref u0, .ref u1, .ref u2, .ref u3, .ref u4, .ref u5, .int 0]))] sz) := by
  refine Met.ofW (cc := cX10_rankOf) (maxL := 4) (ret := (some .int)) (by decide) rfl ?_
  intro p e s m args below meth c s₁ B hml hv
  obtain ⟨rfl, hsz, hP, hK, hD0, hE, hZ⟩ := hv
  have hx := B.exec
  have hb := B.bytes
  have hr := B.returns
  have hG : ∀ w ∈ zG, w.before _ s = true := fun w h => atoms_spec (ws := (zw yX10_rankOf cX10_rankOf 4 (some .int))) B.pre w (List.mem_cons_of_mem _ h)
  have hown : s.vm.findClass RX10 = some m.cls := findClass_of_methodNamed B.named
  have hlocks := B.notSynchronized
  subst hsz
  have hD := hD0.self (sz := s.heap.size)
  generalize hAe : va_A [(h0, .inr (10, [.int 400, .ref u0, .ref u1, .ref u2, .ref u3, .ref u4, .ref u5, .int 0]))] s.heap.size = A at hD hZ ⊢
  have hA : ∀ q : Nat, s.heap.size ≤ q → A q := fun q h => by rw [← hAe]; exact Or.inr h
  have hS : va_S A s.heap s.heap [] := va_S.rf
  have hl := lv_entry ([.ref h0, .long 0]) (n := 4) (Nat.le_of_ble_eq_true rfl)
  rw [lg_entry_eq]
  generalize (lg_sl ([.ref h0, .long 0]) ++ List.replicate (4 - (lg_sl ([.ref h0, .long 0])).length) Slot.unset).toArray = ls at hl ⊢
  have hl : lv_has ls 4 [(0, .ref h0), (1, .long 0)] := hl
  refine lv_aload_n hx hb dX10_rankOf_0 rfl (lv_at hl 0 rfl) ?_
  refine lv_lload_n hx hb dX10_rankOf_1 rfl (lv_at hl 1 rfl) ?_
  have hPc := hP.sub (ws' := [(h0, .inr (10, [.int 400, .ref u0, .ref u1, .ref u2, .ref u3, .ref u4, .ref u5, .int 0]))]) [0] rfl
  have hDc := hD.sub (ws' := [(h0, .inr (10, [.int 400, .ref u0, .ref u1, .ref u2, .ref u3, .ref u4, .ref u5, .int 0]))]) [0] (by decide) rfl
  have hKc := hK.sub (tys' := []) [] rfl
  have hFc := va_free (wc := [(h0, .inr (10, [.int 400, .ref u0, .ref u1, .ref u2, .ref u3, .ref u4, .ref u5, .int 0]))]) hD hS hA [0] rfl
  refine va_calli (va_runV (As := [.long 0]) (rest := []) ⟨hx, hb, hml, hown, hG⟩ (kX10_rankAhead_0 l dC dI h0 u0 u1 u2 u3 u4 u5 s.heap.size) (cwV 1 hG (zgV zw512 zw513 zw514 zw20 zw515) rfl rfl rfl (by decide +kernel) ⟨Nat.le_of_ble_eq_true rfl, Nat.le_of_ble_eq_true rfl⟩) ⟨zPc_blind, va_recv hKc hPc (ci := 10) (q0 := 0) rfl rfl, zPc_pre hPc hKc hDc hE hS hFc hZ⟩ rfl rfl hl.1 rfl (lv_room (Nat.le_of_ble_eq_true rfl)) dX10_rankOf_2 ⟨Nat.le_of_ble_eq_true rfl, Nat.le_of_ble_eq_true rfl⟩) hS (fun q _ h => hFc q h) hFc (fun r_4932 u t H1 locs ht hvm hw hB hz1 hk1 hS => ?_)
  have hw : r_4932 = 0 := hw
  subst hw
  obtain ⟨hP1, hK1, hD1⟩ := hB
  rw [ht] at hP1
  obtain ⟨hP, hD⟩ := va_join (wr := []) (w1 := [(h0, .inr (10, [.int 400, .ref u0, .ref u1, .ref u2, .ref u3, .ref u4, .ref u5, .int 0]))]) hP hD [0] [] rfl rfl (by decide) (by decide) hk1 hFc hP1 hD1
  generalize H1 = H at hP hS ⊢
  have hP : va_P (dC, dI) vwCl [(h0, .inr (10, [.int 400, .ref u0, .ref u1, .ref u2, .ref u3, .ref u4, .ref u5, .int 0]))] H := hP
  have hD : va_D A [(h0, .inr (10, [.int 400, .ref u0, .ref u1, .ref u2, .ref u3, .ref u4, .ref u5, .int 0]))] := hD
  refine lv_istore_n (lv' := [(3, .int 0), (0, .ref h0), (1, .long 0)]) hx hb dX10_rankOf_5 rfl hl (by decide) rfl (fun ls hl => ?_)
  refine lv_iload_n hx hb dX10_rankOf_6 rfl (lv_at hl 0 rfl) ?_
  refine lv_aload_n hx hb dX10_rankOf_7 rfl (lv_at hl 1 rfl) ?_
  refine va_get (D := (dC, dI)) (ci := 10) (v := .int 0) (C := RX10) (T := TX10) (N := 8) hx hb hG zuX10 hown hK hP 0 rfl rfl 7 (by decide) (hG _ zw26) (fun _ h9 => h9) rfl dX10_rankOf_8 ?_
  refine lv_icmp_ge (tgt := 29) hx hb dX10_rankOf_11 (by decide) (fun c_4934 => ?_) (fun c_4934 => absurd c_4934 (by decide))
  refine lv_iconst (v := (-1)) hx hb dX10_rankOf_29 (by decide) ?_
  have hP9 := hP.sub (ws' := [(h0, .inr (10, [.int 400, .ref u0, .ref u1, .ref u2, .ref u3, .ref u4, .ref u5, .int 0]))]) [0] rfl
  have hD9 := hD.sub (ws' := [(h0, .inr (10, [.int 400, .ref u0, .ref u1, .ref u2, .ref u3, .ref u4, .ref u5, .int 0]))]) [0] (by decide) rfl
  have hK9 := hK.sub (tys' := []) [] rfl
  refine W.widen (k := 0) (n := 0) (by decide) (by decide) ?_
  exact W.iret (v := (-1)) hx hb hr (fun t ht hW => ⟨⟨(-1), (), rfl, rfl, by rw [ht]; exact hP9, va_K.moved hW.alike hK9, hD9⟩, hS.F ht⟩) hS.2.2 dX10_rankOf_30
set_option maxHeartbeats 4000000 in
set_option maxRecDepth 100000 in
theorem kX10_idAt_0 (l : Launch) (dC : Nat → ClassId) (dI : Nat → Nat → Nat) (u0 : Nat) (sz : Nat) : Met l yX10_idAt (zw yX10_idAt cX10_idAt 2 (some .int)) { frames := 0, cells := 0, slots := 0, locals := 0 } (zPc dC dI [.ref u0, .int (-1)] sz [] []) (va_Qi (fun (r : Int32) (_ : Unit) => r = (-1)) (fun (_ : Unit) (t : State) => va_P (dC, dI) vwCl [] t.heap ∧ va_K (dC, dI) vwCl [] t ∧ va_D (va_A [] sz) []) (va_A [] sz)) 0 0 (va_A [] sz) := by
  refine Met.ofW (cc := cX10_idAt) (maxL := 2) (ret := (some .int)) (by decide) rfl ?_
  intro p e s m args below meth c s₁ B hml hv
  obtain ⟨rfl, hsz, hP, hK, hD0, hE, hZ⟩ := hv
  have hx := B.exec
  have hb := B.bytes
  have hr := B.returns
  have hG : ∀ w ∈ zG, w.before _ s = true := fun w h => atoms_spec (ws := (zw yX10_idAt cX10_idAt 2 (some .int))) B.pre w (List.mem_cons_of_mem _ h)
  have hown : s.vm.findClass RX10 = some m.cls := findClass_of_methodNamed B.named
  have hlocks := B.notSynchronized
  subst hsz
  have hD := hD0.self (sz := s.heap.size)
  generalize hAe : va_A [] s.heap.size = A at hD hZ ⊢
  have hA : ∀ q : Nat, s.heap.size ≤ q → A q := fun q h => by rw [← hAe]; exact Or.inr h
  have hS : va_S A s.heap s.heap [] := va_S.rf
  have hl := lv_entry ([.ref u0, .int (-1)]) (n := 2) (Nat.le_of_ble_eq_true rfl)
  rw [lg_entry_eq]
  generalize (lg_sl ([.ref u0, .int (-1)]) ++ List.replicate (2 - (lg_sl ([.ref u0, .int (-1)])).length) Slot.unset).toArray = ls at hl ⊢
  have hl : lv_has ls 2 [(0, .ref u0), (1, .int (-1))] := hl
  refine lv_iload_n hx hb dX10_idAt_0 rfl (lv_at hl 1 rfl) ?_
  refine lv_if_lt (tgt := 21) hx hb dX10_idAt_1 (by decide) (fun c_4939 => ?_) (fun c_4939 => absurd c_4939 (by decide))
  refine lv_iconst (v := (-1)) hx hb dX10_idAt_21 (by decide) ?_
  have hP9 := hP.sub (ws' := []) [] rfl
  have hD9 := hD.sub (ws' := []) [] (by decide) rfl
  have hK9 := hK.sub (tys' := []) [] rfl
  refine W.widen (k := 0) (n := 0) (by decide) (by decide) ?_
  exact W.iret (v := (-1)) hx hb hr (fun t ht hW => ⟨⟨(-1), (), rfl, rfl, by rw [ht]; exact hP9, va_K.moved hW.alike hK9, hD9⟩, hS.F ht⟩) hS.2.2 dX10_idAt_22
set_option maxHeartbeats 4000000 in
set_option maxRecDepth 100000 in
theorem kX10_idOf_0 (l : Launch) (dC : Nat → ClassId) (dI : Nat → Nat → Nat) (h0 u0 u1 u2 u3 u4 u5 : Nat) (sz : Nat) : Met l yX10_idOf (zw yX10_idOf cX10_idOf 3 (some .int)) { frames := 2, cells := 0, slots := 0, locals := 48 } (zPc dC dI [.ref h0, .long 0] sz [(h0, .inr (10, [.int 400, .ref u0, .ref u1, .ref u2, .ref u3, .ref u4, .ref u5, .int 0]))] []) (va_Qi (fun (r : Int32) (_ : Unit) => r = (-1)) (fun (_ : Unit) (t : State) => va_P (dC, dI) vwCl [(h0, .inr (10, [.int 400, .ref u0, .ref u1, .ref u2, .ref u3, .ref u4, .ref u5, .int 0]))] t.heap ∧ va_K (dC, dI) vwCl [] t ∧ va_D (va_A [(h0, .inr (10, [.int 400, .ref u0, .ref u1, .ref u2, .ref u3, .ref u4, .ref u5, .int 0]))] sz) [(h0, .inr (10, [.int 400, .ref u0, .ref u1, .ref u2, .ref u3, .ref u4, .ref u5, .int 0]))]) (va_A [(h0, .inr (10, [.int 400, .ref u0, .ref u1, .ref u2, .ref u3, .ref u4, .ref u5, .int 0]))] sz)) 0 0 (va_A [(h0, .inr (10, [.int 400, .ref u0, .ref u1, .ref u2, .ref u3, .ref u4, .ref u5, .int 0]))] sz) := by
  refine Met.ofW (cc := cX10_idOf) (maxL := 3) (ret := (some .int)) (by decide) rfl ?_
  intro p e s m args below meth c s₁ B hml hv
  obtain ⟨rfl, hsz, hP, hK, hD0, hE, hZ⟩ := hv
  have hx := B.exec
  have hb := B.bytes
  have hr := B.returns
  have hG : ∀ w ∈ zG, w.before _ s = true := fun w h => atoms_spec (ws := (zw yX10_idOf cX10_idOf 3 (some .int))) B.pre w (List.mem_cons_of_mem _ h)
  have hown : s.vm.findClass RX10 = some m.cls := findClass_of_methodNamed B.named
  have hlocks := B.notSynchronized
  subst hsz
  have hD := hD0.self (sz := s.heap.size)
  generalize hAe : va_A [(h0, .inr (10, [.int 400, .ref u0, .ref u1, .ref u2, .ref u3, .ref u4, .ref u5, .int 0]))] s.heap.size = A at hD hZ ⊢
  have hA : ∀ q : Nat, s.heap.size ≤ q → A q := fun q h => by rw [← hAe]; exact Or.inr h
  have hS : va_S A s.heap s.heap [] := va_S.rf
  have hl := lv_entry ([.ref h0, .long 0]) (n := 3) (Nat.le_of_ble_eq_true rfl)
  rw [lg_entry_eq]
  generalize (lg_sl ([.ref h0, .long 0]) ++ List.replicate (3 - (lg_sl ([.ref h0, .long 0])).length) Slot.unset).toArray = ls at hl ⊢
  have hl : lv_has ls 3 [(0, .ref h0), (1, .long 0)] := hl
  refine lv_aload_n hx hb dX10_idOf_0 rfl (lv_at hl 0 rfl) ?_
  refine lv_aload_n hx hb dX10_idOf_1 rfl (lv_at hl 0 rfl) ?_
  refine lv_lload_n hx hb dX10_idOf_2 rfl (lv_at hl 1 rfl) ?_
  have hPc := hP.sub (ws' := [(h0, .inr (10, [.int 400, .ref u0, .ref u1, .ref u2, .ref u3, .ref u4, .ref u5, .int 0]))]) [0] rfl
  have hDc := hD.sub (ws' := [(h0, .inr (10, [.int 400, .ref u0, .ref u1, .ref u2, .ref u3, .ref u4, .ref u5, .int 0]))]) [0] (by decide) rfl
  have hKc := hK.sub (tys' := []) [] rfl
  have hFc := va_free (wc := [(h0, .inr (10, [.int 400, .ref u0, .ref u1, .ref u2, .ref u3, .ref u4, .ref u5, .int 0]))]) hD hS hA [0] rfl
  refine va_calli (va_runV (As := [.long 0]) (rest := [.ref h0]) ⟨hx, hb, hml, hown, hG⟩ (kX10_rankOf_0 l dC dI h0 u0 u1 u2 u3 u4 u5 s.heap.size) (cwV 1 hG (zgV zw516 zw517 zw518 zw20 zw519) rfl rfl rfl (by decide +kernel) ⟨Nat.le_of_ble_eq_true rfl, Nat.le_of_ble_eq_true rfl⟩) ⟨zPc_blind, va_recv hKc hPc (ci := 10) (q0 := 0) rfl rfl, zPc_pre hPc hKc hDc hE hS hFc hZ⟩ rfl rfl hl.1 rfl (lv_room (Nat.le_of_ble_eq_true rfl)) dX10_idOf_3 ⟨Nat.le_of_ble_eq_true rfl, Nat.le_of_ble_eq_true rfl⟩) hS (fun q _ h => hFc q h) hFc (fun r_4955 u t H1 locs ht hvm hw hB hz1 hk1 hS => ?_)
  have hw : r_4955 = (-1) := hw
  subst hw
  obtain ⟨hP1, hK1, hD1⟩ := hB
  rw [ht] at hP1
  obtain ⟨hP, hD⟩ := va_join (wr := []) (w1 := [(h0, .inr (10, [.int 400, .ref u0, .ref u1, .ref u2, .ref u3, .ref u4, .ref u5, .int 0]))]) hP hD [0] [] rfl rfl (by decide) (by decide) hk1 hFc hP1 hD1
  generalize H1 = H at hP hS ⊢
  have hP : va_P (dC, dI) vwCl [(h0, .inr (10, [.int 400, .ref u0, .ref u1, .ref u2, .ref u3, .ref u4, .ref u5, .int 0]))] H := hP
  have hD : va_D A [(h0, .inr (10, [.int 400, .ref u0, .ref u1, .ref u2, .ref u3, .ref u4, .ref u5, .int 0]))] := hD
  have hPc := hP.sub (ws' := []) [] rfl
  have hDc := hD.sub (ws' := []) [] (by decide) rfl
  have hKc := hK.sub (tys' := []) [] rfl
  have hFc := va_free (wc := []) hD hS hA [] rfl
  refine va_calli (va_runV (As := [.int (-1)]) (rest := []) ⟨hx, hb, hml, hown, hG⟩ (kX10_idAt_0 l dC dI h0 H.size) (cwV 1 hG (zgV zw520 zw521 zw522 zw20 zw523) rfl rfl rfl (by decide +kernel) ⟨Nat.le_of_ble_eq_true rfl, Nat.le_of_ble_eq_true rfl⟩) ⟨zPc_blind, va_recv hK hP (ci := 10) (q0 := 0) rfl rfl, zPc_pre hPc hKc hDc hE hS hFc hZ⟩ rfl rfl hl.1 rfl (lv_room (Nat.le_of_ble_eq_true rfl)) dX10_idOf_6 ⟨Nat.le_of_ble_eq_true rfl, Nat.le_of_ble_eq_true rfl⟩) hS (fun q _ h => hFc q h) hFc (fun r_4958 u t H1 locs ht hvm hw hB hz1 hk1 hS => ?_)
  have hw : r_4958 = (-1) := hw
  subst hw
  obtain ⟨hP1, hK1, hD1⟩ := hB
  rw [ht] at hP1
  obtain ⟨hP, hD⟩ := va_join (wr := [(h0, .inr (10, [.int 400, .ref u0, .ref u1, .ref u2, .ref u3, .ref u4, .ref u5, .int 0]))]) (w1 := []) hP hD [] [0] rfl rfl (by decide) (by decide) hk1 hFc hP1 hD1
  generalize H1 = H at hP hS ⊢
  have hP : va_P (dC, dI) vwCl [(h0, .inr (10, [.int 400, .ref u0, .ref u1, .ref u2, .ref u3, .ref u4, .ref u5, .int 0]))] H := hP
  have hD : va_D A [(h0, .inr (10, [.int 400, .ref u0, .ref u1, .ref u2, .ref u3, .ref u4, .ref u5, .int 0]))] := hD
  have hP9 := hP.sub (ws' := [(h0, .inr (10, [.int 400, .ref u0, .ref u1, .ref u2, .ref u3, .ref u4, .ref u5, .int 0]))]) [0] rfl
  have hD9 := hD.sub (ws' := [(h0, .inr (10, [.int 400, .ref u0, .ref u1, .ref u2, .ref u3, .ref u4, .ref u5, .int 0]))]) [0] (by decide) rfl
  have hK9 := hK.sub (tys' := []) [] rfl
  refine W.widen (k := 0) (n := 0) (by decide) (by decide) ?_
  exact W.iret (v := (-1)) hx hb hr (fun t ht hW => ⟨⟨(-1), (), rfl, rfl, by rw [ht]; exact hP9, va_K.moved hW.alike hK9, hD9⟩, hS.F ht⟩) hS.2.2 dX10_idOf_9
set_option maxHeartbeats 4000000 in
set_option maxRecDepth 100000 in
theorem kX6_isId_0 (l : Launch) (dC : Nat → ClassId) (dI : Nat → Nat → Nat) (sz : Nat) : Met l yX6_isId (zw yX6_isId cX6_isId 1 (some .boolean)) { frames := 0, cells := 0, slots := 0, locals := 0 } (zPc dC dI [.int (-1)] sz [] []) (va_Qi (fun (r : Int32) (_ : Unit) => r = 0) (fun (_ : Unit) (t : State) => va_P (dC, dI) vwCl [] t.heap ∧ va_K (dC, dI) vwCl [] t ∧ va_D (va_A [] sz) []) (va_A [] sz)) 0 0 (va_A [] sz) := by
  refine Met.ofW (cc := cX6_isId) (maxL := 1) (ret := (some .boolean)) (by decide) rfl ?_
  intro p e s m args below meth c s₁ B hml hv
  obtain ⟨rfl, hsz, hP, hK, hD0, hE, hZ⟩ := hv
  have hx := B.exec
  have hb := B.bytes
  have hr := B.returns
  have hG : ∀ w ∈ zG, w.before _ s = true := fun w h => atoms_spec (ws := (zw yX6_isId cX6_isId 1 (some .boolean))) B.pre w (List.mem_cons_of_mem _ h)
  have hown : s.vm.findClass RX6 = some m.cls := findClass_of_methodNamed B.named
  have hlocks := B.notSynchronized
  subst hsz
  have hD := hD0.self (sz := s.heap.size)
  generalize hAe : va_A [] s.heap.size = A at hD hZ ⊢
  have hA : ∀ q : Nat, s.heap.size ≤ q → A q := fun q h => by rw [← hAe]; exact Or.inr h
  have hS : va_S A s.heap s.heap [] := va_S.rf
  have hl := lv_entry ([.int (-1)]) (n := 1) (Nat.le_of_ble_eq_true rfl)
  rw [lg_entry_eq]
  generalize (lg_sl ([.int (-1)]) ++ List.replicate (1 - (lg_sl ([.int (-1)])).length) Slot.unset).toArray = ls at hl ⊢
  have hl : lv_has ls 1 [(0, .int (-1))] := hl
  refine lv_iload_n hx hb dX6_isId_0 rfl (lv_at hl 0 rfl) ?_
  refine lv_if_lt (tgt := 15) hx hb dX6_isId_1 (by decide) (fun c_4964 => ?_) (fun c_4964 => absurd c_4964 (by decide))
  refine lv_iconst (v := 0) hx hb dX6_isId_15 (by decide) ?_
  have hP9 := hP.sub (ws' := []) [] rfl
  have hD9 := hD.sub (ws' := []) [] (by decide) rfl
  have hK9 := hK.sub (tys' := []) [] rfl
  refine W.widen (k := 0) (n := 0) (by decide) (by decide) ?_
  exact W.zret (v := 0) hx hb hr rfl (fun t ht hW => ⟨⟨0, (), rfl, rfl, by rw [ht]; exact hP9, va_K.moved hW.alike hK9, hD9⟩, hS.F ht⟩) hS.2.2 dX6_isId_16
set_option maxHeartbeats 4000000 in
set_option maxRecDepth 100000 in
theorem kX6_documentsOf_0 (l : Launch) (dC : Nat → ClassId) (dI : Nat → Nat → Nat) (u0 : Nat) (sz : Nat) : Met l yX6_documentsOf (zw yX6_documentsOf cX6_documentsOf 2 (some .int)) { frames := 1, cells := 0, slots := 0, locals := 20 } (zPc dC dI [.ref u0, .int (-1)] sz [] []) (va_Qi (fun (r : Int32) (_ : Unit) => r = 0) (fun (_ : Unit) (t : State) => va_P (dC, dI) vwCl [] t.heap ∧ va_K (dC, dI) vwCl [] t ∧ va_D (va_A [] sz) []) (va_A [] sz)) 0 0 (va_A [] sz) := by
  refine Met.ofW (cc := cX6_documentsOf) (maxL := 2) (ret := (some .int)) (by decide) rfl ?_
  intro p e s m args below meth c s₁ B hml hv
  obtain ⟨rfl, hsz, hP, hK, hD0, hE, hZ⟩ := hv
  have hx := B.exec
  have hb := B.bytes
  have hr := B.returns
  have hG : ∀ w ∈ zG, w.before _ s = true := fun w h => atoms_spec (ws := (zw yX6_documentsOf cX6_documentsOf 2 (some .int))) B.pre w (List.mem_cons_of_mem _ h)
  have hown : s.vm.findClass RX6 = some m.cls := findClass_of_methodNamed B.named
  have hlocks := B.notSynchronized
  subst hsz
  have hD := hD0.self (sz := s.heap.size)
  generalize hAe : va_A [] s.heap.size = A at hD hZ ⊢
  have hA : ∀ q : Nat, s.heap.size ≤ q → A q := fun q h => by rw [← hAe]; exact Or.inr h
  have hS : va_S A s.heap s.heap [] := va_S.rf
  have hl := lv_entry ([.ref u0, .int (-1)]) (n := 2) (Nat.le_of_ble_eq_true rfl)
  rw [lg_entry_eq]
  generalize (lg_sl ([.ref u0, .int (-1)]) ++ List.replicate (2 - (lg_sl ([.ref u0, .int (-1)])).length) Slot.unset).toArray = ls at hl ⊢
  have hl : lv_has ls 2 [(0, .ref u0), (1, .int (-1))] := hl
  refine lv_iload_n hx hb dX6_documentsOf_0 rfl (lv_at hl 1 rfl) ?_
  have hPc := hP.sub (ws' := []) [] rfl
  have hDc := hD.sub (ws' := []) [] (by decide) rfl
  have hKc := hK.sub (tys' := []) [] rfl
  have hFc := va_free (wc := []) hD hS hA [] rfl
  refine va_calli (va_runS (As := [.int (-1)]) (rest := []) ⟨hx, hb, hml, hown, hG⟩ (kX6_isId_0 l dC dI s.heap.size) (va_cwS 1 hG (zgS zw528 zw529 zw53 zw530) rfl rfl rfl (by decide +kernel) ⟨Nat.le_of_ble_eq_true rfl, Nat.le_of_ble_eq_true rfl⟩) ⟨zPc_blind, zPc_pre hPc hKc hDc hE hS hFc hZ⟩ rfl rfl hl.1 rfl (lv_room (Nat.le_of_ble_eq_true rfl)) dX6_documentsOf_1 ⟨Nat.le_of_ble_eq_true rfl, Nat.le_of_ble_eq_true rfl⟩) hS (fun q _ h => hFc q h) hFc (fun r_4973 u t H1 locs ht hvm hw hB hz1 hk1 hS => ?_)
  have hw : r_4973 = 0 := hw
  subst hw
  obtain ⟨hP1, hK1, hD1⟩ := hB
  rw [ht] at hP1
  obtain ⟨hP, hD⟩ := va_join (wr := []) (w1 := []) hP hD [] [] rfl rfl (by decide) (by decide) hk1 hFc hP1 hD1
  generalize H1 = H at hP hS ⊢
  have hP : va_P (dC, dI) vwCl [] H := hP
  have hD : va_D A [] := hD
  refine lv_if_eq (tgt := 16) hx hb dX6_documentsOf_4 (by decide) (fun c_4975 => ?_) (fun c_4975 => absurd c_4975 (by decide))
  refine lv_iconst (v := 0) hx hb dX6_documentsOf_16 (by decide) ?_
  have hP9 := hP.sub (ws' := []) [] rfl
  have hD9 := hD.sub (ws' := []) [] (by decide) rfl
  have hK9 := hK.sub (tys' := []) [] rfl
  refine W.widen (k := 0) (n := 0) (by decide) (by decide) ?_
  exact W.iret (v := 0) hx hb hr (fun t ht hW => ⟨⟨0, (), rfl, rfl, by rw [ht]; exact hP9, va_K.moved hW.alike hK9, hD9⟩, hS.F ht⟩) hS.2.2 dX6_documentsOf_17
set_option maxHeartbeats 4000000 in
set_option maxRecDepth 100000 in
theorem kX11_look_0 (l : Launch) (dC : Nat → ClassId) (dI : Nat → Nat → Nat) (h0 h1 h2 h3 u0 u1 u2 u3 u4 u5 u6 u7 u8 u9 u10 u11 u12 u13 u14 u15 u16 u17 u18 u19 u20 u21 u22 : Nat) (sz : Nat) : Met l yX11_look (zw yX11_look cX11_look 1 (some .int)) { frames := 3, cells := 0, slots := 0, locals := 70 } (zPc dC dI [.ref h0] sz [(h0, .inr (11, [.ref h1, .ref h2, .ref u0, .ref u1, .ref h3, .ref u2, .ref u3, .ref u4, .ref u5, .ref u6, .null, .long (-1)])), (h1, .inr (9, [.ref u7, .ref u8, .int 0, .int 0])), (h2, .inr (10, [.int 400, .ref u9, .ref u10, .ref u11, .ref u12, .ref u13, .ref u14, .int 0])), (h3, .inr (6, [.ref u15, .ref u16, .ref u17, .ref u18, .ref u19, .ref u20, .ref u21, .ref u22, .int 0, .int 0, .int 0, .int 0]))] []) (va_Qi (fun (r : Int32) (_ : Unit) => r = 0) (fun (_ : Unit) (t : State) => va_P (dC, dI) vwCl [(h0, .inr (11, [.ref h1, .ref h2, .ref u0, .ref u1, .ref h3, .ref u2, .ref u3, .ref u4, .ref u5, .ref u6, .null, .long 0])), (h1, .inr (9, [.ref u7, .ref u8, .int 0, .int 0])), (h2, .inr (10, [.int 400, .ref u9, .ref u10, .ref u11, .ref u12, .ref u13, .ref u14, .int 0])), (h3, .inr (6, [.ref u15, .ref u16, .ref u17, .ref u18, .ref u19, .ref u20, .ref u21, .ref u22, .int 0, .int 0, .int 0, .int 0]))] t.heap ∧ va_K (dC, dI) vwCl [] t ∧ va_D (va_A [(h0, .inr (11, [.ref h1, .ref h2, .ref u0, .ref u1, .ref h3, .ref u2, .ref u3, .ref u4, .ref u5, .ref u6, .null, .long (-1)])), (h1, .inr (9, [.ref u7, .ref u8, .int 0, .int 0])), (h2, .inr (10, [.int 400, .ref u9, .ref u10, .ref u11, .ref u12, .ref u13, .ref u14, .int 0])), (h3, .inr (6, [.ref u15, .ref u16, .ref u17, .ref u18, .ref u19, .ref u20, .ref u21, .ref u22, .int 0, .int 0, .int 0, .int 0]))] sz) [(h0, .inr (11, [.ref h1, .ref h2, .ref u0, .ref u1, .ref h3, .ref u2, .ref u3, .ref u4, .ref u5, .ref u6, .null, .long 0])), (h1, .inr (9, [.ref u7, .ref u8, .int 0, .int 0])), (h2, .inr (10, [.int 400, .ref u9, .ref u10, .ref u11, .ref u12, .ref u13, .ref u14, .int 0])), (h3, .inr (6, [.ref u15, .ref u16, .ref u17, .ref u18, .ref u19, .ref u20, .ref u21, .ref u22, .int 0, .int 0, .int 0, .int 0]))]) (va_A [(h0, .inr (11, [.ref h1, .ref h2, .ref u0, .ref u1, .ref h3, .ref u2, .ref u3, .ref u4, .ref u5, .ref u6, .null, .long (-1)])), (h1, .inr (9, [.ref u7, .ref u8, .int 0, .int 0])), (h2, .inr (10, [.int 400, .ref u9, .ref u10, .ref u11, .ref u12, .ref u13, .ref u14, .int 0])), (h3, .inr (6, [.ref u15, .ref u16, .ref u17, .ref u18, .ref u19, .ref u20, .ref u21, .ref u22, .int 0, .int 0, .int 0, .int 0]))] sz)) 0 0 (va_A [(h0, .inr (11, [.ref h1, .ref h2, .ref u0, .ref u1, .ref h3, .ref u2, .ref u3, .ref u4, .ref u5, .ref u6, .null, .long (-1)])), (h1, .inr (9, [.ref u7, .ref u8, .int 0, .int 0])), (h2, .inr (10, [.int 400, .ref u9, .ref u10, .ref u11, .ref u12, .ref u13, .ref u14, .int 0])), (h3, .inr (6, [.ref u15, .ref u16, .ref u17, .ref u18, .ref u19, .ref u20, .ref u21, .ref u22, .int 0, .int 0, .int 0, .int 0]))] sz) := by
  refine Met.ofW (cc := cX11_look) (maxL := 1) (ret := (some .int)) (by decide) rfl ?_
  intro p e s m args below meth c s₁ B hml hv
  obtain ⟨rfl, hsz, hP, hK, hD0, hE, hZ⟩ := hv
  have hx := B.exec
  have hb := B.bytes
  have hr := B.returns
  have hG : ∀ w ∈ zG, w.before _ s = true := fun w h => atoms_spec (ws := (zw yX11_look cX11_look 1 (some .int))) B.pre w (List.mem_cons_of_mem _ h)
  have hown : s.vm.findClass RX11 = some m.cls := findClass_of_methodNamed B.named
  have hlocks := B.notSynchronized
  subst hsz
  have hD := hD0.self (sz := s.heap.size)
  generalize hAe : va_A [(h0, .inr (11, [.ref h1, .ref h2, .ref u0, .ref u1, .ref h3, .ref u2, .ref u3, .ref u4, .ref u5, .ref u6, .null, .long (-1)])), (h1, .inr (9, [.ref u7, .ref u8, .int 0, .int 0])), (h2, .inr (10, [.int 400, .ref u9, .ref u10, .ref u11, .ref u12, .ref u13, .ref u14, .int 0])), (h3, .inr (6, [.ref u15, .ref u16, .ref u17, .ref u18, .ref u19, .ref u20, .ref u21, .ref u22, .int 0, .int 0, .int 0, .int 0]))] s.heap.size = A at hD hZ ⊢
  have hA : ∀ q : Nat, s.heap.size ≤ q → A q := fun q h => by rw [← hAe]; exact Or.inr h
  have hS : va_S A s.heap s.heap [] := va_S.rf
  have hl := lv_entry ([.ref h0]) (n := 1) (Nat.le_of_ble_eq_true rfl)
  rw [lg_entry_eq]
  generalize (lg_sl ([.ref h0]) ++ List.replicate (1 - (lg_sl ([.ref h0])).length) Slot.unset).toArray = ls at hl ⊢
  have hl : lv_has ls 1 [(0, .ref h0)] := hl
  refine lv_aload_n hx hb dX11_look_0 rfl (lv_at hl 0 rfl) ?_
  refine lv_aload_n hx hb dX11_look_1 rfl (lv_at hl 0 rfl) ?_
  refine va_get (D := (dC, dI)) (ci := 11) (v := .ref h1) (C := RX11) (T := TX11) (N := 12) hx hb hG zuX11 hown hK hP 0 rfl rfl 0 (by decide) (hG _ zw17) (fun _ h9 => h9) rfl dX11_look_2 ?_
  have hPc := hP.sub (ws' := [(h1, .inr (9, [.ref u7, .ref u8, .int 0, .int 0]))]) [1] rfl
  have hDc := hD.sub (ws' := [(h1, .inr (9, [.ref u7, .ref u8, .int 0, .int 0]))]) [1] (by decide) rfl
  have hKc := hK.sub (tys' := []) [] rfl
  have hFc := va_free (wc := [(h1, .inr (9, [.ref u7, .ref u8, .int 0, .int 0]))]) hD hS hA [1] rfl
  refine va_calll (va_runV (As := []) (rest := [.ref h0]) ⟨hx, hb, hml, hown, hG⟩ (kX9_firstWord_0 l dC dI h1 u7 u8 s.heap.size) (cwV 0 hG (zgV zw468 zw469 zw470 zw8 zw471) rfl rfl rfl (by decide +kernel) ⟨Nat.le_of_ble_eq_true rfl, Nat.le_of_ble_eq_true rfl⟩) ⟨zPc_blind, va_recv hKc hPc (ci := 9) (q0 := 0) rfl rfl, zPc_pre hPc hKc hDc hE hS hFc hZ⟩ rfl rfl hl.1 rfl (lv_room (Nat.le_of_ble_eq_true rfl)) dX11_look_5 ⟨Nat.le_of_ble_eq_true rfl, Nat.le_of_ble_eq_true rfl⟩) hS (fun q _ h => hFc q h) hFc (fun r_5001 u t H1 locs ht hvm hw hB hz1 hk1 hS => ?_)
  have hw : r_5001 = 0 := hw
  subst hw
  obtain ⟨hP1, hK1, hD1⟩ := hB
  rw [ht] at hP1
  obtain ⟨hP, hD⟩ := va_join (wr := [(h0, .inr (11, [.ref h1, .ref h2, .ref u0, .ref u1, .ref h3, .ref u2, .ref u3, .ref u4, .ref u5, .ref u6, .null, .long (-1)])), (h2, .inr (10, [.int 400, .ref u9, .ref u10, .ref u11, .ref u12, .ref u13, .ref u14, .int 0])), (h3, .inr (6, [.ref u15, .ref u16, .ref u17, .ref u18, .ref u19, .ref u20, .ref u21, .ref u22, .int 0, .int 0, .int 0, .int 0]))]) (w1 := [(h1, .inr (9, [.ref u7, .ref u8, .int 0, .int 0]))]) hP hD [1] [0, 2, 3] rfl rfl (by decide) (by decide) hk1 hFc hP1 hD1
  generalize H1 = H at hP hS ⊢
  have hP : va_P (dC, dI) vwCl [(h0, .inr (11, [.ref h1, .ref h2, .ref u0, .ref u1, .ref h3, .ref u2, .ref u3, .ref u4, .ref u5, .ref u6, .null, .long (-1)])), (h2, .inr (10, [.int 400, .ref u9, .ref u10, .ref u11, .ref u12, .ref u13, .ref u14, .int 0])), (h3, .inr (6, [.ref u15, .ref u16, .ref u17, .ref u18, .ref u19, .ref u20, .ref u21, .ref u22, .int 0, .int 0, .int 0, .int 0])), (h1, .inr (9, [.ref u7, .ref u8, .int 0, .int 0]))] H := hP
  have hD : va_D A [(h0, .inr (11, [.ref h1, .ref h2, .ref u0, .ref u1, .ref h3, .ref u2, .ref u3, .ref u4, .ref u5, .ref u6, .null, .long (-1)])), (h2, .inr (10, [.int 400, .ref u9, .ref u10, .ref u11, .ref u12, .ref u13, .ref u14, .int 0])), (h3, .inr (6, [.ref u15, .ref u16, .ref u17, .ref u18, .ref u19, .ref u20, .ref u21, .ref u22, .int 0, .int 0, .int 0, .int 0])), (h1, .inr (9, [.ref u7, .ref u8, .int 0, .int 0]))] := hD
  refine va_put (D := (dC, dI)) (ci := 11) (v := .long 0) (ty := .long) (C := RX11) (T := TX11) (N := 12) hx hb hG zuX11 tyX11 tyX11_ok nmX11 hown hK hP hD hS 0 rfl rfl 11 (by decide) (hG _ zw201) (fun _ h9 => h9) rfl (by decide +kernel) rfl rfl (Nat.le_of_ble_eq_true rfl) dX11_look_8 (fun H locs hP hD hS => ?_)
  have hP : va_P (dC, dI) vwCl [(h0, .inr (11, [.ref h1, .ref h2, .ref u0, .ref u1, .ref h3, .ref u2, .ref u3, .ref u4, .ref u5, .ref u6, .null, .long 0])), (h2, .inr (10, [.int 400, .ref u9, .ref u10, .ref u11, .ref u12, .ref u13, .ref u14, .int 0])), (h3, .inr (6, [.ref u15, .ref u16, .ref u17, .ref u18, .ref u19, .ref u20, .ref u21, .ref u22, .int 0, .int 0, .int 0, .int 0])), (h1, .inr (9, [.ref u7, .ref u8, .int 0, .int 0]))] H := hP
  have hD : va_D A [(h0, .inr (11, [.ref h1, .ref h2, .ref u0, .ref u1, .ref h3, .ref u2, .ref u3, .ref u4, .ref u5, .ref u6, .null, .long 0])), (h2, .inr (10, [.int 400, .ref u9, .ref u10, .ref u11, .ref u12, .ref u13, .ref u14, .int 0])), (h3, .inr (6, [.ref u15, .ref u16, .ref u17, .ref u18, .ref u19, .ref u20, .ref u21, .ref u22, .int 0, .int 0, .int 0, .int 0])), (h1, .inr (9, [.ref u7, .ref u8, .int 0, .int 0]))] := hD
  refine lv_aload_n hx hb dX11_look_11 rfl (lv_at hl 0 rfl) ?_
  refine va_get (D := (dC, dI)) (ci := 11) (v := .ref h1) (C := RX11) (T := TX11) (N := 12) hx hb hG zuX11 hown hK hP 0 rfl rfl 0 (by decide) (hG _ zw17) (fun _ h9 => h9) rfl dX11_look_12 ?_
  have hPc := hP.sub (ws' := [(h1, .inr (9, [.ref u7, .ref u8, .int 0, .int 0]))]) [3] rfl
  have hDc := hD.sub (ws' := [(h1, .inr (9, [.ref u7, .ref u8, .int 0, .int 0]))]) [3] (by decide) rfl
  have hKc := hK.sub (tys' := []) [] rfl
  have hFc := va_free (wc := [(h1, .inr (9, [.ref u7, .ref u8, .int 0, .int 0]))]) hD hS hA [3] rfl
  refine va_callv (va_runV (As := []) (rest := []) ⟨hx, hb, hml, hown, hG⟩ (kX9_clear_0 l dC dI h1 u7 u8 H.size) (cwV 0 hG (zgV zw351 zw352 zw353 zw8 zw354) rfl rfl rfl (by decide +kernel) ⟨Nat.le_of_ble_eq_true rfl, Nat.le_of_ble_eq_true rfl⟩) ⟨zPc_blind, va_recv hKc hPc (ci := 9) (q0 := 0) rfl rfl, zPc_pre hPc hKc hDc hE hS hFc hZ⟩ rfl rfl hl.1 rfl (lv_room (Nat.le_of_ble_eq_true rfl)) dX11_look_15 ⟨Nat.le_of_ble_eq_true rfl, Nat.le_of_ble_eq_true rfl⟩) hS (fun q _ h => hFc q h) hFc (fun u t H1 locs ht hvm hw hB hz1 hk1 hS => ?_)
  obtain ⟨hP1, hK1, hD1⟩ := hB
  rw [ht] at hP1
  obtain ⟨hP, hD⟩ := va_join (wr := [(h0, .inr (11, [.ref h1, .ref h2, .ref u0, .ref u1, .ref h3, .ref u2, .ref u3, .ref u4, .ref u5, .ref u6, .null, .long 0])), (h2, .inr (10, [.int 400, .ref u9, .ref u10, .ref u11, .ref u12, .ref u13, .ref u14, .int 0])), (h3, .inr (6, [.ref u15, .ref u16, .ref u17, .ref u18, .ref u19, .ref u20, .ref u21, .ref u22, .int 0, .int 0, .int 0, .int 0]))]) (w1 := [(h1, .inr (9, [.ref u7, .ref u8, .int 0, .int 0]))]) hP hD [3] [0, 1, 2] rfl rfl (by decide) (by decide) hk1 hFc hP1 hD1
  generalize H1 = H at hP hS ⊢
  have hP : va_P (dC, dI) vwCl [(h0, .inr (11, [.ref h1, .ref h2, .ref u0, .ref u1, .ref h3, .ref u2, .ref u3, .ref u4, .ref u5, .ref u6, .null, .long 0])), (h2, .inr (10, [.int 400, .ref u9, .ref u10, .ref u11, .ref u12, .ref u13, .ref u14, .int 0])), (h3, .inr (6, [.ref u15, .ref u16, .ref u17, .ref u18, .ref u19, .ref u20, .ref u21, .ref u22, .int 0, .int 0, .int 0, .int 0])), (h1, .inr (9, [.ref u7, .ref u8, .int 0, .int 0]))] H := hP
  have hD : va_D A [(h0, .inr (11, [.ref h1, .ref h2, .ref u0, .ref u1, .ref h3, .ref u2, .ref u3, .ref u4, .ref u5, .ref u6, .null, .long 0])), (h2, .inr (10, [.int 400, .ref u9, .ref u10, .ref u11, .ref u12, .ref u13, .ref u14, .int 0])), (h3, .inr (6, [.ref u15, .ref u16, .ref u17, .ref u18, .ref u19, .ref u20, .ref u21, .ref u22, .int 0, .int 0, .int 0, .int 0])), (h1, .inr (9, [.ref u7, .ref u8, .int 0, .int 0]))] := hD
  refine lv_aload_n hx hb dX11_look_18 rfl (lv_at hl 0 rfl) ?_
  refine va_get (D := (dC, dI)) (ci := 11) (v := .ref h3) (C := RX11) (T := TX11) (N := 12) hx hb hG zuX11 hown hK hP 0 rfl rfl 4 (by decide) (hG _ zw69) (fun _ h9 => h9) rfl dX11_look_19 ?_
  refine lv_aload_n hx hb dX11_look_22 rfl (lv_at hl 0 rfl) ?_
  refine va_get (D := (dC, dI)) (ci := 11) (v := .ref h2) (C := RX11) (T := TX11) (N := 12) hx hb hG zuX11 hown hK hP 0 rfl rfl 1 (by decide) (hG _ zw35) (fun _ h9 => h9) rfl dX11_look_23 ?_
  refine lv_aload_n hx hb dX11_look_26 rfl (lv_at hl 0 rfl) ?_
  refine va_get (D := (dC, dI)) (ci := 11) (v := .long 0) (C := RX11) (T := TX11) (N := 12) hx hb hG zuX11 hown hK hP 0 rfl rfl 11 (by decide) (hG _ zw201) (fun _ h9 => h9) rfl dX11_look_27 ?_
  have hPc := hP.sub (ws' := [(h2, .inr (10, [.int 400, .ref u9, .ref u10, .ref u11, .ref u12, .ref u13, .ref u14, .int 0]))]) [1] rfl
  have hDc := hD.sub (ws' := [(h2, .inr (10, [.int 400, .ref u9, .ref u10, .ref u11, .ref u12, .ref u13, .ref u14, .int 0]))]) [1] (by decide) rfl
  have hKc := hK.sub (tys' := []) [] rfl
  have hFc := va_free (wc := [(h2, .inr (10, [.int 400, .ref u9, .ref u10, .ref u11, .ref u12, .ref u13, .ref u14, .int 0]))]) hD hS hA [1] rfl
  refine va_calli (va_runV (As := [.long 0]) (rest := [.ref h3]) ⟨hx, hb, hml, hown, hG⟩ (kX10_idOf_0 l dC dI h2 u9 u10 u11 u12 u13 u14 H.size) (cwV 1 hG (zgV zw524 zw525 zw526 zw20 zw527) rfl rfl rfl (by decide +kernel) ⟨Nat.le_of_ble_eq_true rfl, Nat.le_of_ble_eq_true rfl⟩) ⟨zPc_blind, va_recv hKc hPc (ci := 10) (q0 := 0) rfl rfl, zPc_pre hPc hKc hDc hE hS hFc hZ⟩ rfl rfl hl.1 rfl (lv_room (Nat.le_of_ble_eq_true rfl)) dX11_look_30 ⟨Nat.le_of_ble_eq_true rfl, Nat.le_of_ble_eq_true rfl⟩) hS (fun q _ h => hFc q h) hFc (fun r_5014 u t H1 locs ht hvm hw hB hz1 hk1 hS => ?_)
  have hw : r_5014 = (-1) := hw
  subst hw
  obtain ⟨hP1, hK1, hD1⟩ := hB
  rw [ht] at hP1
  obtain ⟨hP, hD⟩ := va_join (wr := [(h0, .inr (11, [.ref h1, .ref h2, .ref u0, .ref u1, .ref h3, .ref u2, .ref u3, .ref u4, .ref u5, .ref u6, .null, .long 0])), (h3, .inr (6, [.ref u15, .ref u16, .ref u17, .ref u18, .ref u19, .ref u20, .ref u21, .ref u22, .int 0, .int 0, .int 0, .int 0])), (h1, .inr (9, [.ref u7, .ref u8, .int 0, .int 0]))]) (w1 := [(h2, .inr (10, [.int 400, .ref u9, .ref u10, .ref u11, .ref u12, .ref u13, .ref u14, .int 0]))]) hP hD [1] [0, 2, 3] rfl rfl (by decide) (by decide) hk1 hFc hP1 hD1
  generalize H1 = H at hP hS ⊢
  have hP : va_P (dC, dI) vwCl [(h0, .inr (11, [.ref h1, .ref h2, .ref u0, .ref u1, .ref h3, .ref u2, .ref u3, .ref u4, .ref u5, .ref u6, .null, .long 0])), (h3, .inr (6, [.ref u15, .ref u16, .ref u17, .ref u18, .ref u19, .ref u20, .ref u21, .ref u22, .int 0, .int 0, .int 0, .int 0])), (h1, .inr (9, [.ref u7, .ref u8, .int 0, .int 0])), (h2, .inr (10, [.int 400, .ref u9, .ref u10, .ref u11, .ref u12, .ref u13, .ref u14, .int 0]))] H := hP
  have hD : va_D A [(h0, .inr (11, [.ref h1, .ref h2, .ref u0, .ref u1, .ref h3, .ref u2, .ref u3, .ref u4, .ref u5, .ref u6, .null, .long 0])), (h3, .inr (6, [.ref u15, .ref u16, .ref u17, .ref u18, .ref u19, .ref u20, .ref u21, .ref u22, .int 0, .int 0, .int 0, .int 0])), (h1, .inr (9, [.ref u7, .ref u8, .int 0, .int 0])), (h2, .inr (10, [.int 400, .ref u9, .ref u10, .ref u11, .ref u12, .ref u13, .ref u14, .int 0]))] := hD
  have hPc := hP.sub (ws' := []) [] rfl
  have hDc := hD.sub (ws' := []) [] (by decide) rfl
  have hKc := hK.sub (tys' := []) [] rfl
  have hFc := va_free (wc := []) hD hS hA [] rfl
  refine va_calli (va_runV (As := [.int (-1)]) (rest := []) ⟨hx, hb, hml, hown, hG⟩ (kX6_documentsOf_0 l dC dI h3 H.size) (cwV 1 hG (zgV zw531 zw532 zw533 zw53 zw534) rfl rfl rfl (by decide +kernel) ⟨Nat.le_of_ble_eq_true rfl, Nat.le_of_ble_eq_true rfl⟩) ⟨zPc_blind, va_recv hK hP (ci := 6) (q0 := 1) rfl rfl, zPc_pre hPc hKc hDc hE hS hFc hZ⟩ rfl rfl hl.1 rfl (lv_room (Nat.le_of_ble_eq_true rfl)) dX11_look_33 ⟨Nat.le_of_ble_eq_true rfl, Nat.le_of_ble_eq_true rfl⟩) hS (fun q _ h => hFc q h) hFc (fun r_5020 u t H1 locs ht hvm hw hB hz1 hk1 hS => ?_)
  have hw : r_5020 = 0 := hw
  subst hw
  obtain ⟨hP1, hK1, hD1⟩ := hB
  rw [ht] at hP1
  obtain ⟨hP, hD⟩ := va_join (wr := [(h0, .inr (11, [.ref h1, .ref h2, .ref u0, .ref u1, .ref h3, .ref u2, .ref u3, .ref u4, .ref u5, .ref u6, .null, .long 0])), (h3, .inr (6, [.ref u15, .ref u16, .ref u17, .ref u18, .ref u19, .ref u20, .ref u21, .ref u22, .int 0, .int 0, .int 0, .int 0])), (h1, .inr (9, [.ref u7, .ref u8, .int 0, .int 0])), (h2, .inr (10, [.int 400, .ref u9, .ref u10, .ref u11, .ref u12, .ref u13, .ref u14, .int 0]))]) (w1 := []) hP hD [] [0, 1, 2, 3] rfl rfl (by decide) (by decide) hk1 hFc hP1 hD1
  generalize H1 = H at hP hS ⊢
  have hP : va_P (dC, dI) vwCl [(h0, .inr (11, [.ref h1, .ref h2, .ref u0, .ref u1, .ref h3, .ref u2, .ref u3, .ref u4, .ref u5, .ref u6, .null, .long 0])), (h3, .inr (6, [.ref u15, .ref u16, .ref u17, .ref u18, .ref u19, .ref u20, .ref u21, .ref u22, .int 0, .int 0, .int 0, .int 0])), (h1, .inr (9, [.ref u7, .ref u8, .int 0, .int 0])), (h2, .inr (10, [.int 400, .ref u9, .ref u10, .ref u11, .ref u12, .ref u13, .ref u14, .int 0]))] H := hP
  have hD : va_D A [(h0, .inr (11, [.ref h1, .ref h2, .ref u0, .ref u1, .ref h3, .ref u2, .ref u3, .ref u4, .ref u5, .ref u6, .null, .long 0])), (h3, .inr (6, [.ref u15, .ref u16, .ref u17, .ref u18, .ref u19, .ref u20, .ref u21, .ref u22, .int 0, .int 0, .int 0, .int 0])), (h1, .inr (9, [.ref u7, .ref u8, .int 0, .int 0])), (h2, .inr (10, [.int 400, .ref u9, .ref u10, .ref u11, .ref u12, .ref u13, .ref u14, .int 0]))] := hD
  have hP9 := hP.sub (ws' := [(h0, .inr (11, [.ref h1, .ref h2, .ref u0, .ref u1, .ref h3, .ref u2, .ref u3, .ref u4, .ref u5, .ref u6, .null, .long 0])), (h1, .inr (9, [.ref u7, .ref u8, .int 0, .int 0])), (h2, .inr (10, [.int 400, .ref u9, .ref u10, .ref u11, .ref u12, .ref u13, .ref u14, .int 0])), (h3, .inr (6, [.ref u15, .ref u16, .ref u17, .ref u18, .ref u19, .ref u20, .ref u21, .ref u22, .int 0, .int 0, .int 0, .int 0]))]) [0, 2, 3, 1] rfl
  have hD9 := hD.sub (ws' := [(h0, .inr (11, [.ref h1, .ref h2, .ref u0, .ref u1, .ref h3, .ref u2, .ref u3, .ref u4, .ref u5, .ref u6, .null, .long 0])), (h1, .inr (9, [.ref u7, .ref u8, .int 0, .int 0])), (h2, .inr (10, [.int 400, .ref u9, .ref u10, .ref u11, .ref u12, .ref u13, .ref u14, .int 0])), (h3, .inr (6, [.ref u15, .ref u16, .ref u17, .ref u18, .ref u19, .ref u20, .ref u21, .ref u22, .int 0, .int 0, .int 0, .int 0]))]) [0, 2, 3, 1] (by decide) rfl
  have hK9 := hK.sub (tys' := []) [] rfl
  refine W.widen (k := 0) (n := 0) (by decide) (by decide) ?_
  exact W.iret (v := 0) hx hb hr (fun t ht hW => ⟨⟨0, (), rfl, rfl, by rw [ht]; exact hP9, va_K.moved hW.alike hK9, hD9⟩, hS.F ht⟩) hS.2.2 dX11_look_36
set_option maxHeartbeats 4000000 in
set_option maxRecDepth 100000 in
theorem kX13_look_0 (l : Launch) (dC : Nat → ClassId) (dI : Nat → Nat → Nat) (h0 u0 u1 u2 u3 u4 u5 u6 u7 u8 u9 u10 u11 u12 u13 u14 u15 u16 u17 u18 u19 u20 u21 u22 u23 u24 u25 u26 u27 u28 u29 u30 u31 u32 u33 u34 u35 u36 u37 u38 u39 u40 u41 u42 u43 u44 u45 u46 u47 u48 : Nat) (sz : Nat) : Met l yX13_look (zw yX13_look cX13_look 2 (some .int)) { frames := 2, cells := 0, slots := 0, locals := 45 } (zPc dC dI [.ref h0] sz [(h0, .inr (13, [.ref u0, .int 0, .ref u1, .ref u2, .int 0, .ref u3, .ref u4, .ref u5, .ref u6, .ref u7, .ref u8, .ref u9, .ref u10, .int 0, .ref u11, .ref u12, .int 0, .ref u13, .int (-1), .ref u14, .int 0, .int 0, .ref u15, .int 0, .int 0, .ref u16, .ref u17, .ref u18, .ref u19, .ref u20, .int 0, .ref u21, .int 0, .int 0, .int 0, .int 0, .int 0, .int 0, .ref u22, .ref u23, .ref u24, .ref u25, .int 0, .ref u26, .ref u27, .ref u28, .ref u29, .int 0, .ref u30, .ref u31, .int 0, .int 0, .ref u32, .int 0, .int 0, .int 0, .ref u33, .ref u34, .ref u35, .int 0, .int 0, .ref u36, .ref u37, .ref u38, .ref u39, .ref u40, .ref u41, .ref u42, .ref u43, .ref u44, .ref u45, .int 0, .ref u46, .ref u47, .ref u48]))] []) (va_Qi (fun (r : Int32) (_ : Unit) => r = 0) (fun (_ : Unit) (t : State) => va_P (dC, dI) vwCl [(h0, .inr (13, [.ref u0, .int 0, .ref u1, .ref u2, .int 0, .ref u3, .ref u4, .ref u5, .ref u6, .ref u7, .ref u8, .ref u9, .ref u10, .int 0, .ref u11, .ref u12, .int 0, .ref u13, .int 0, .ref u14, .int 0, .int 0, .ref u15, .int 0, .int 0, .ref u16, .ref u17, .ref u18, .ref u19, .ref u20, .int 0, .ref u21, .int 0, .int 0, .int 0, .int 0, .int 0, .int 0, .ref u22, .ref u23, .ref u24, .ref u25, .int 0, .ref u26, .ref u27, .ref u28, .ref u29, .int 0, .ref u30, .ref u31, .int 0, .int 0, .ref u32, .int 0, .int 0, .int 0, .ref u33, .ref u34, .ref u35, .int 0, .int 0, .ref u36, .ref u37, .ref u38, .ref u39, .ref u40, .ref u41, .ref u42, .ref u43, .ref u44, .ref u45, .int 0, .ref u46, .ref u47, .ref u48]))] t.heap ∧ va_K (dC, dI) vwCl [] t ∧ va_D (va_A [(h0, .inr (13, [.ref u0, .int 0, .ref u1, .ref u2, .int 0, .ref u3, .ref u4, .ref u5, .ref u6, .ref u7, .ref u8, .ref u9, .ref u10, .int 0, .ref u11, .ref u12, .int 0, .ref u13, .int (-1), .ref u14, .int 0, .int 0, .ref u15, .int 0, .int 0, .ref u16, .ref u17, .ref u18, .ref u19, .ref u20, .int 0, .ref u21, .int 0, .int 0, .int 0, .int 0, .int 0, .int 0, .ref u22, .ref u23, .ref u24, .ref u25, .int 0, .ref u26, .ref u27, .ref u28, .ref u29, .int 0, .ref u30, .ref u31, .int 0, .int 0, .ref u32, .int 0, .int 0, .int 0, .ref u33, .ref u34, .ref u35, .int 0, .int 0, .ref u36, .ref u37, .ref u38, .ref u39, .ref u40, .ref u41, .ref u42, .ref u43, .ref u44, .ref u45, .int 0, .ref u46, .ref u47, .ref u48]))] sz) [(h0, .inr (13, [.ref u0, .int 0, .ref u1, .ref u2, .int 0, .ref u3, .ref u4, .ref u5, .ref u6, .ref u7, .ref u8, .ref u9, .ref u10, .int 0, .ref u11, .ref u12, .int 0, .ref u13, .int 0, .ref u14, .int 0, .int 0, .ref u15, .int 0, .int 0, .ref u16, .ref u17, .ref u18, .ref u19, .ref u20, .int 0, .ref u21, .int 0, .int 0, .int 0, .int 0, .int 0, .int 0, .ref u22, .ref u23, .ref u24, .ref u25, .int 0, .ref u26, .ref u27, .ref u28, .ref u29, .int 0, .ref u30, .ref u31, .int 0, .int 0, .ref u32, .int 0, .int 0, .int 0, .ref u33, .ref u34, .ref u35, .int 0, .int 0, .ref u36, .ref u37, .ref u38, .ref u39, .ref u40, .ref u41, .ref u42, .ref u43, .ref u44, .ref u45, .int 0, .ref u46, .ref u47, .ref u48]))]) (va_A [(h0, .inr (13, [.ref u0, .int 0, .ref u1, .ref u2, .int 0, .ref u3, .ref u4, .ref u5, .ref u6, .ref u7, .ref u8, .ref u9, .ref u10, .int 0, .ref u11, .ref u12, .int 0, .ref u13, .int (-1), .ref u14, .int 0, .int 0, .ref u15, .int 0, .int 0, .ref u16, .ref u17, .ref u18, .ref u19, .ref u20, .int 0, .ref u21, .int 0, .int 0, .int 0, .int 0, .int 0, .int 0, .ref u22, .ref u23, .ref u24, .ref u25, .int 0, .ref u26, .ref u27, .ref u28, .ref u29, .int 0, .ref u30, .ref u31, .int 0, .int 0, .ref u32, .int 0, .int 0, .int 0, .ref u33, .ref u34, .ref u35, .int 0, .int 0, .ref u36, .ref u37, .ref u38, .ref u39, .ref u40, .ref u41, .ref u42, .ref u43, .ref u44, .ref u45, .int 0, .ref u46, .ref u47, .ref u48]))] sz)) 0 0 (va_A [(h0, .inr (13, [.ref u0, .int 0, .ref u1, .ref u2, .int 0, .ref u3, .ref u4, .ref u5, .ref u6, .ref u7, .ref u8, .ref u9, .ref u10, .int 0, .ref u11, .ref u12, .int 0, .ref u13, .int (-1), .ref u14, .int 0, .int 0, .ref u15, .int 0, .int 0, .ref u16, .ref u17, .ref u18, .ref u19, .ref u20, .int 0, .ref u21, .int 0, .int 0, .int 0, .int 0, .int 0, .int 0, .ref u22, .ref u23, .ref u24, .ref u25, .int 0, .ref u26, .ref u27, .ref u28, .ref u29, .int 0, .ref u30, .ref u31, .int 0, .int 0, .ref u32, .int 0, .int 0, .int 0, .ref u33, .ref u34, .ref u35, .int 0, .int 0, .ref u36, .ref u37, .ref u38, .ref u39, .ref u40, .ref u41, .ref u42, .ref u43, .ref u44, .ref u45, .int 0, .ref u46, .ref u47, .ref u48]))] sz) := by
  refine Met.ofW (cc := cX13_look) (maxL := 2) (ret := (some .int)) (by decide) rfl ?_
  intro p e s m args below meth c s₁ B hml hv
  obtain ⟨rfl, hsz, hP, hK, hD0, hE, hZ⟩ := hv
  have hx := B.exec
  have hb := B.bytes
  have hr := B.returns
  have hG : ∀ w ∈ zG, w.before _ s = true := fun w h => atoms_spec (ws := (zw yX13_look cX13_look 2 (some .int))) B.pre w (List.mem_cons_of_mem _ h)
  have hown : s.vm.findClass RX13 = some m.cls := findClass_of_methodNamed B.named
  have hlocks := B.notSynchronized
  subst hsz
  have hD := hD0.self (sz := s.heap.size)
  generalize hAe : va_A [(h0, .inr (13, [.ref u0, .int 0, .ref u1, .ref u2, .int 0, .ref u3, .ref u4, .ref u5, .ref u6, .ref u7, .ref u8, .ref u9, .ref u10, .int 0, .ref u11, .ref u12, .int 0, .ref u13, .int (-1), .ref u14, .int 0, .int 0, .ref u15, .int 0, .int 0, .ref u16, .ref u17, .ref u18, .ref u19, .ref u20, .int 0, .ref u21, .int 0, .int 0, .int 0, .int 0, .int 0, .int 0, .ref u22, .ref u23, .ref u24, .ref u25, .int 0, .ref u26, .ref u27, .ref u28, .ref u29, .int 0, .ref u30, .ref u31, .int 0, .int 0, .ref u32, .int 0, .int 0, .int 0, .ref u33, .ref u34, .ref u35, .int 0, .int 0, .ref u36, .ref u37, .ref u38, .ref u39, .ref u40, .ref u41, .ref u42, .ref u43, .ref u44, .ref u45, .int 0, .ref u46, .ref u47, .ref u48]))] s.heap.size = A at hD hZ ⊢
  have hA : ∀ q : Nat, s.heap.size ≤ q → A q := fun q h => by rw [← hAe]; exact Or.inr h
  have hS : va_S A s.heap s.heap [] := va_S.rf
  have hl := lv_entry ([.ref h0]) (n := 2) (Nat.le_of_ble_eq_true rfl)
  rw [lg_entry_eq]
  generalize (lg_sl ([.ref h0]) ++ List.replicate (2 - (lg_sl ([.ref h0])).length) Slot.unset).toArray = ls at hl ⊢
  have hl : lv_has ls 2 [(0, .ref h0)] := hl
  refine lv_aload_n hx hb dX13_look_0 rfl (lv_at hl 0 rfl) ?_
  refine lv_iconst (v := 0) hx hb dX13_look_1 (by decide) ?_
  refine va_put (D := (dC, dI)) (ci := 13) (v := .int 0) (ty := .int) (C := RX13) (T := TX13) (N := 75) hx hb hG zuX13 tyX13 tyX13_ok nmX13 hown hK hP hD hS 0 rfl rfl 21 (by decide) (hG _ zw302) (fun _ h9 => h9) rfl (by decide +kernel) rfl rfl (Nat.le_of_ble_eq_true rfl) dX13_look_2 (fun H locs hP hD hS => ?_)
  have hP : va_P (dC, dI) vwCl [(h0, .inr (13, [.ref u0, .int 0, .ref u1, .ref u2, .int 0, .ref u3, .ref u4, .ref u5, .ref u6, .ref u7, .ref u8, .ref u9, .ref u10, .int 0, .ref u11, .ref u12, .int 0, .ref u13, .int (-1), .ref u14, .int 0, .int 0, .ref u15, .int 0, .int 0, .ref u16, .ref u17, .ref u18, .ref u19, .ref u20, .int 0, .ref u21, .int 0, .int 0, .int 0, .int 0, .int 0, .int 0, .ref u22, .ref u23, .ref u24, .ref u25, .int 0, .ref u26, .ref u27, .ref u28, .ref u29, .int 0, .ref u30, .ref u31, .int 0, .int 0, .ref u32, .int 0, .int 0, .int 0, .ref u33, .ref u34, .ref u35, .int 0, .int 0, .ref u36, .ref u37, .ref u38, .ref u39, .ref u40, .ref u41, .ref u42, .ref u43, .ref u44, .ref u45, .int 0, .ref u46, .ref u47, .ref u48]))] H := hP
  have hD : va_D A [(h0, .inr (13, [.ref u0, .int 0, .ref u1, .ref u2, .int 0, .ref u3, .ref u4, .ref u5, .ref u6, .ref u7, .ref u8, .ref u9, .ref u10, .int 0, .ref u11, .ref u12, .int 0, .ref u13, .int (-1), .ref u14, .int 0, .int 0, .ref u15, .int 0, .int 0, .ref u16, .ref u17, .ref u18, .ref u19, .ref u20, .int 0, .ref u21, .int 0, .int 0, .int 0, .int 0, .int 0, .int 0, .ref u22, .ref u23, .ref u24, .ref u25, .int 0, .ref u26, .ref u27, .ref u28, .ref u29, .int 0, .ref u30, .ref u31, .int 0, .int 0, .ref u32, .int 0, .int 0, .int 0, .ref u33, .ref u34, .ref u35, .int 0, .int 0, .ref u36, .ref u37, .ref u38, .ref u39, .ref u40, .ref u41, .ref u42, .ref u43, .ref u44, .ref u45, .int 0, .ref u46, .ref u47, .ref u48]))] := hD
  refine lv_aload_n hx hb dX13_look_5 rfl (lv_at hl 0 rfl) ?_
  have hPc := hP.sub (ws' := [(h0, .inr (13, [.ref u0, .int 0, .ref u1, .ref u2, .int 0, .ref u3, .ref u4, .ref u5, .ref u6, .ref u7, .ref u8, .ref u9, .ref u10, .int 0, .ref u11, .ref u12, .int 0, .ref u13, .int (-1), .ref u14, .int 0, .int 0, .ref u15, .int 0, .int 0, .ref u16, .ref u17, .ref u18, .ref u19, .ref u20, .int 0, .ref u21, .int 0, .int 0, .int 0, .int 0, .int 0, .int 0, .ref u22, .ref u23, .ref u24, .ref u25, .int 0, .ref u26, .ref u27, .ref u28, .ref u29, .int 0, .ref u30, .ref u31, .int 0, .int 0, .ref u32, .int 0, .int 0, .int 0, .ref u33, .ref u34, .ref u35, .int 0, .int 0, .ref u36, .ref u37, .ref u38, .ref u39, .ref u40, .ref u41, .ref u42, .ref u43, .ref u44, .ref u45, .int 0, .ref u46, .ref u47, .ref u48]))]) [0] rfl
  have hDc := hD.sub (ws' := [(h0, .inr (13, [.ref u0, .int 0, .ref u1, .ref u2, .int 0, .ref u3, .ref u4, .ref u5, .ref u6, .ref u7, .ref u8, .ref u9, .ref u10, .int 0, .ref u11, .ref u12, .int 0, .ref u13, .int (-1), .ref u14, .int 0, .int 0, .ref u15, .int 0, .int 0, .ref u16, .ref u17, .ref u18, .ref u19, .ref u20, .int 0, .ref u21, .int 0, .int 0, .int 0, .int 0, .int 0, .int 0, .ref u22, .ref u23, .ref u24, .ref u25, .int 0, .ref u26, .ref u27, .ref u28, .ref u29, .int 0, .ref u30, .ref u31, .int 0, .int 0, .ref u32, .int 0, .int 0, .int 0, .ref u33, .ref u34, .ref u35, .int 0, .int 0, .ref u36, .ref u37, .ref u38, .ref u39, .ref u40, .ref u41, .ref u42, .ref u43, .ref u44, .ref u45, .int 0, .ref u46, .ref u47, .ref u48]))]) [0] (by decide) rfl
  have hKc := hK.sub (tys' := []) [] rfl
  have hFc := va_free (wc := [(h0, .inr (13, [.ref u0, .int 0, .ref u1, .ref u2, .int 0, .ref u3, .ref u4, .ref u5, .ref u6, .ref u7, .ref u8, .ref u9, .ref u10, .int 0, .ref u11, .ref u12, .int 0, .ref u13, .int (-1), .ref u14, .int 0, .int 0, .ref u15, .int 0, .int 0, .ref u16, .ref u17, .ref u18, .ref u19, .ref u20, .int 0, .ref u21, .int 0, .int 0, .int 0, .int 0, .int 0, .int 0, .ref u22, .ref u23, .ref u24, .ref u25, .int 0, .ref u26, .ref u27, .ref u28, .ref u29, .int 0, .ref u30, .ref u31, .int 0, .int 0, .ref u32, .int 0, .int 0, .int 0, .ref u33, .ref u34, .ref u35, .int 0, .int 0, .ref u36, .ref u37, .ref u38, .ref u39, .ref u40, .ref u41, .ref u42, .ref u43, .ref u44, .ref u45, .int 0, .ref u46, .ref u47, .ref u48]))]) hD hS hA [0] rfl
  refine va_calli (va_runV (As := []) (rest := []) ⟨hx, hb, hml, hown, hG⟩ (kX13_takesToken_0 l dC dI h0 u0 u1 u2 u3 u4 u5 u6 u7 u8 u9 u10 u11 u12 u13 u14 u15 u16 u17 u18 u19 u20 u21 u22 u23 u24 u25 u26 u27 u28 u29 u30 u31 u32 u33 u34 u35 u36 u37 u38 u39 u40 u41 u42 u43 u44 u45 u46 u47 u48 H.size) (cwV 0 hG (zgV zw480 zw481 zw482 zw207 zw483) rfl rfl rfl (by decide +kernel) ⟨Nat.le_of_ble_eq_true rfl, Nat.le_of_ble_eq_true rfl⟩) ⟨zPc_blind, va_recv hKc hPc (ci := 13) (q0 := 0) rfl rfl, zPc_pre hPc hKc hDc hE hS hFc hZ⟩ rfl rfl hl.1 rfl (lv_room (Nat.le_of_ble_eq_true rfl)) dX13_look_6 ⟨Nat.le_of_ble_eq_true rfl, Nat.le_of_ble_eq_true rfl⟩) hS (fun q _ h => hFc q h) hFc (fun r_5042 u t H1 locs ht hvm hw hB hz1 hk1 hS => ?_)
  have hw : r_5042 = 0 := hw
  subst hw
  obtain ⟨hP1, hK1, hD1⟩ := hB
  rw [ht] at hP1
  obtain ⟨hP, hD⟩ := va_join (wr := []) (w1 := [(h0, .inr (13, [.ref u0, .int 0, .ref u1, .ref u2, .int 0, .ref u3, .ref u4, .ref u5, .ref u6, .ref u7, .ref u8, .ref u9, .ref u10, .int 0, .ref u11, .ref u12, .int 0, .ref u13, .int (-1), .ref u14, .int 0, .int 0, .ref u15, .int 0, .int 0, .ref u16, .ref u17, .ref u18, .ref u19, .ref u20, .int 0, .ref u21, .int 0, .int 0, .int 0, .int 0, .int 0, .int 0, .ref u22, .ref u23, .ref u24, .ref u25, .int 0, .ref u26, .ref u27, .ref u28, .ref u29, .int 0, .ref u30, .ref u31, .int 0, .int 0, .ref u32, .int 0, .int 0, .int 0, .ref u33, .ref u34, .ref u35, .int 0, .int 0, .ref u36, .ref u37, .ref u38, .ref u39, .ref u40, .ref u41, .ref u42, .ref u43, .ref u44, .ref u45, .int 0, .ref u46, .ref u47, .ref u48]))]) hP hD [0] [] rfl rfl (by decide) (by decide) hk1 hFc hP1 hD1
  generalize H1 = H at hP hS ⊢
  have hP : va_P (dC, dI) vwCl [(h0, .inr (13, [.ref u0, .int 0, .ref u1, .ref u2, .int 0, .ref u3, .ref u4, .ref u5, .ref u6, .ref u7, .ref u8, .ref u9, .ref u10, .int 0, .ref u11, .ref u12, .int 0, .ref u13, .int (-1), .ref u14, .int 0, .int 0, .ref u15, .int 0, .int 0, .ref u16, .ref u17, .ref u18, .ref u19, .ref u20, .int 0, .ref u21, .int 0, .int 0, .int 0, .int 0, .int 0, .int 0, .ref u22, .ref u23, .ref u24, .ref u25, .int 0, .ref u26, .ref u27, .ref u28, .ref u29, .int 0, .ref u30, .ref u31, .int 0, .int 0, .ref u32, .int 0, .int 0, .int 0, .ref u33, .ref u34, .ref u35, .int 0, .int 0, .ref u36, .ref u37, .ref u38, .ref u39, .ref u40, .ref u41, .ref u42, .ref u43, .ref u44, .ref u45, .int 0, .ref u46, .ref u47, .ref u48]))] H := hP
  have hD : va_D A [(h0, .inr (13, [.ref u0, .int 0, .ref u1, .ref u2, .int 0, .ref u3, .ref u4, .ref u5, .ref u6, .ref u7, .ref u8, .ref u9, .ref u10, .int 0, .ref u11, .ref u12, .int 0, .ref u13, .int (-1), .ref u14, .int 0, .int 0, .ref u15, .int 0, .int 0, .ref u16, .ref u17, .ref u18, .ref u19, .ref u20, .int 0, .ref u21, .int 0, .int 0, .int 0, .int 0, .int 0, .int 0, .ref u22, .ref u23, .ref u24, .ref u25, .int 0, .ref u26, .ref u27, .ref u28, .ref u29, .int 0, .ref u30, .ref u31, .int 0, .int 0, .ref u32, .int 0, .int 0, .int 0, .ref u33, .ref u34, .ref u35, .int 0, .int 0, .ref u36, .ref u37, .ref u38, .ref u39, .ref u40, .ref u41, .ref u42, .ref u43, .ref u44, .ref u45, .int 0, .ref u46, .ref u47, .ref u48]))] := hD
  refine lv_if_ne (tgt := 19) hx hb dX13_look_9 (by decide) (fun c_5044 => absurd c_5044 (by decide)) (fun c_5044 => ?_)
  refine lv_aload_n hx hb dX13_look_12 rfl (lv_at hl 0 rfl) ?_
  refine lv_iconst (v := 0) hx hb dX13_look_13 (by decide) ?_
  refine va_put (D := (dC, dI)) (ci := 13) (v := .int 0) (ty := .int) (C := RX13) (T := TX13) (N := 75) hx hb hG zuX13 tyX13 tyX13_ok nmX13 hown hK hP hD hS 0 rfl rfl 18 (by decide) (hG _ zw225) (fun _ h9 => h9) rfl (by decide +kernel) rfl rfl (Nat.le_of_ble_eq_true rfl) dX13_look_14 (fun H locs hP hD hS => ?_)
  have hP : va_P (dC, dI) vwCl [(h0, .inr (13, [.ref u0, .int 0, .ref u1, .ref u2, .int 0, .ref u3, .ref u4, .ref u5, .ref u6, .ref u7, .ref u8, .ref u9, .ref u10, .int 0, .ref u11, .ref u12, .int 0, .ref u13, .int 0, .ref u14, .int 0, .int 0, .ref u15, .int 0, .int 0, .ref u16, .ref u17, .ref u18, .ref u19, .ref u20, .int 0, .ref u21, .int 0, .int 0, .int 0, .int 0, .int 0, .int 0, .ref u22, .ref u23, .ref u24, .ref u25, .int 0, .ref u26, .ref u27, .ref u28, .ref u29, .int 0, .ref u30, .ref u31, .int 0, .int 0, .ref u32, .int 0, .int 0, .int 0, .ref u33, .ref u34, .ref u35, .int 0, .int 0, .ref u36, .ref u37, .ref u38, .ref u39, .ref u40, .ref u41, .ref u42, .ref u43, .ref u44, .ref u45, .int 0, .ref u46, .ref u47, .ref u48]))] H := hP
  have hD : va_D A [(h0, .inr (13, [.ref u0, .int 0, .ref u1, .ref u2, .int 0, .ref u3, .ref u4, .ref u5, .ref u6, .ref u7, .ref u8, .ref u9, .ref u10, .int 0, .ref u11, .ref u12, .int 0, .ref u13, .int 0, .ref u14, .int 0, .int 0, .ref u15, .int 0, .int 0, .ref u16, .ref u17, .ref u18, .ref u19, .ref u20, .int 0, .ref u21, .int 0, .int 0, .int 0, .int 0, .int 0, .int 0, .ref u22, .ref u23, .ref u24, .ref u25, .int 0, .ref u26, .ref u27, .ref u28, .ref u29, .int 0, .ref u30, .ref u31, .int 0, .int 0, .ref u32, .int 0, .int 0, .int 0, .ref u33, .ref u34, .ref u35, .int 0, .int 0, .ref u36, .ref u37, .ref u38, .ref u39, .ref u40, .ref u41, .ref u42, .ref u43, .ref u44, .ref u45, .int 0, .ref u46, .ref u47, .ref u48]))] := hD
  refine lv_iconst (v := 0) hx hb dX13_look_17 (by decide) ?_
  have hP9 := hP.sub (ws' := [(h0, .inr (13, [.ref u0, .int 0, .ref u1, .ref u2, .int 0, .ref u3, .ref u4, .ref u5, .ref u6, .ref u7, .ref u8, .ref u9, .ref u10, .int 0, .ref u11, .ref u12, .int 0, .ref u13, .int 0, .ref u14, .int 0, .int 0, .ref u15, .int 0, .int 0, .ref u16, .ref u17, .ref u18, .ref u19, .ref u20, .int 0, .ref u21, .int 0, .int 0, .int 0, .int 0, .int 0, .int 0, .ref u22, .ref u23, .ref u24, .ref u25, .int 0, .ref u26, .ref u27, .ref u28, .ref u29, .int 0, .ref u30, .ref u31, .int 0, .int 0, .ref u32, .int 0, .int 0, .int 0, .ref u33, .ref u34, .ref u35, .int 0, .int 0, .ref u36, .ref u37, .ref u38, .ref u39, .ref u40, .ref u41, .ref u42, .ref u43, .ref u44, .ref u45, .int 0, .ref u46, .ref u47, .ref u48]))]) [0] rfl
  have hD9 := hD.sub (ws' := [(h0, .inr (13, [.ref u0, .int 0, .ref u1, .ref u2, .int 0, .ref u3, .ref u4, .ref u5, .ref u6, .ref u7, .ref u8, .ref u9, .ref u10, .int 0, .ref u11, .ref u12, .int 0, .ref u13, .int 0, .ref u14, .int 0, .int 0, .ref u15, .int 0, .int 0, .ref u16, .ref u17, .ref u18, .ref u19, .ref u20, .int 0, .ref u21, .int 0, .int 0, .int 0, .int 0, .int 0, .int 0, .ref u22, .ref u23, .ref u24, .ref u25, .int 0, .ref u26, .ref u27, .ref u28, .ref u29, .int 0, .ref u30, .ref u31, .int 0, .int 0, .ref u32, .int 0, .int 0, .int 0, .ref u33, .ref u34, .ref u35, .int 0, .int 0, .ref u36, .ref u37, .ref u38, .ref u39, .ref u40, .ref u41, .ref u42, .ref u43, .ref u44, .ref u45, .int 0, .ref u46, .ref u47, .ref u48]))]) [0] (by decide) rfl
  have hK9 := hK.sub (tys' := []) [] rfl
  refine W.widen (k := 0) (n := 0) (by decide) (by decide) ?_
  exact W.iret (v := 0) hx hb hr (fun t ht hW => ⟨⟨0, (), rfl, rfl, by rw [ht]; exact hP9, va_K.moved hW.alike hK9, hD9⟩, hS.F ht⟩) hS.2.2 dX13_look_18
set_option maxHeartbeats 4000000 in
set_option maxRecDepth 100000 in
theorem kX11_posting_0 (l : Launch) (dC : Nat → ClassId) (dI : Nat → Nat → Nat) (h0 u0 u1 u2 u3 u4 u5 u6 u7 u8 u9 : Nat) (sz : Nat) (s0 : Int32) : Met l yX11_posting (zw yX11_posting cX11_posting 4 (some .int)) { frames := 0, cells := 0, slots := 0, locals := 0 } (zPc dC dI [.ref h0, .int s0] sz [(h0, .inr (11, [.ref u0, .ref u1, .ref u2, .ref u3, .ref u4, .ref u5, .ref u6, .ref u7, .ref u8, .ref u9, .null, .long (-1)]))] []) (va_Qi (fun (r : Int32) (_ : Unit) => r = (-1)) (fun (_ : Unit) (t : State) => va_P (dC, dI) vwCl [(h0, .inr (11, [.ref u0, .ref u1, .ref u2, .ref u3, .ref u4, .ref u5, .ref u6, .ref u7, .ref u8, .ref u9, .null, .long (-1)]))] t.heap ∧ va_K (dC, dI) vwCl [] t ∧ va_D (va_A [(h0, .inr (11, [.ref u0, .ref u1, .ref u2, .ref u3, .ref u4, .ref u5, .ref u6, .ref u7, .ref u8, .ref u9, .null, .long (-1)]))] sz) [(h0, .inr (11, [.ref u0, .ref u1, .ref u2, .ref u3, .ref u4, .ref u5, .ref u6, .ref u7, .ref u8, .ref u9, .null, .long (-1)]))]) (va_A [(h0, .inr (11, [.ref u0, .ref u1, .ref u2, .ref u3, .ref u4, .ref u5, .ref u6, .ref u7, .ref u8, .ref u9, .null, .long (-1)]))] sz)) 0 0 (va_A [(h0, .inr (11, [.ref u0, .ref u1, .ref u2, .ref u3, .ref u4, .ref u5, .ref u6, .ref u7, .ref u8, .ref u9, .null, .long (-1)]))] sz) := by
  refine Met.ofW (cc := cX11_posting) (maxL := 4) (ret := (some .int)) (by decide) rfl ?_
  intro p e s m args below meth c s₁ B hml hv
  obtain ⟨rfl, hsz, hP, hK, hD0, hE, hZ⟩ := hv
  have hx := B.exec
  have hb := B.bytes
  have hr := B.returns
  have hG : ∀ w ∈ zG, w.before _ s = true := fun w h => atoms_spec (ws := (zw yX11_posting cX11_posting 4 (some .int))) B.pre w (List.mem_cons_of_mem _ h)
  have hown : s.vm.findClass RX11 = some m.cls := findClass_of_methodNamed B.named
  have hlocks := B.notSynchronized
  subst hsz
  have hD := hD0.self (sz := s.heap.size)
  generalize hAe : va_A [(h0, .inr (11, [.ref u0, .ref u1, .ref u2, .ref u3, .ref u4, .ref u5, .ref u6, .ref u7, .ref u8, .ref u9, .null, .long (-1)]))] s.heap.size = A at hD hZ ⊢
  have hA : ∀ q : Nat, s.heap.size ≤ q → A q := fun q h => by rw [← hAe]; exact Or.inr h
  have hS : va_S A s.heap s.heap [] := va_S.rf
  have hl := lv_entry ([.ref h0, .int s0]) (n := 4) (Nat.le_of_ble_eq_true rfl)
  rw [lg_entry_eq]
  generalize (lg_sl ([.ref h0, .int s0]) ++ List.replicate (4 - (lg_sl ([.ref h0, .int s0])).length) Slot.unset).toArray = ls at hl ⊢
  have hl : lv_has ls 4 [(0, .ref h0), (1, .int s0)] := hl
  refine lv_aload_n hx hb dX11_posting_0 rfl (lv_at hl 0 rfl) ?_
  refine va_get (D := (dC, dI)) (ci := 11) (v := .long (-1)) (C := RX11) (T := TX11) (N := 12) hx hb hG zuX11 hown hK hP 0 rfl rfl 11 (by decide) (hG _ zw201) (fun _ h9 => h9) rfl dX11_posting_1 ?_
  refine lv_ldc2 hx hb hown (hG _ zw200) dX11_posting_4 ?_
  refine W.lcmp hx hb dX11_posting_7 ?_
  refine lv_topi (fun z_5056 e_z_5056 => ?_)
  obtain rfl : z_5056 = (0 : Int32) := e_z_5056.trans (by decide)
  refine lv_if_eq (tgt := 20) hx hb dX11_posting_8 (by decide) (fun c_5057 => ?_) (fun c_5057 => absurd c_5057 (by decide))
  refine lv_iconst (v := (-1)) hx hb dX11_posting_20 (by decide) ?_
  have hP9 := hP.sub (ws' := [(h0, .inr (11, [.ref u0, .ref u1, .ref u2, .ref u3, .ref u4, .ref u5, .ref u6, .ref u7, .ref u8, .ref u9, .null, .long (-1)]))]) [0] rfl
  have hD9 := hD.sub (ws' := [(h0, .inr (11, [.ref u0, .ref u1, .ref u2, .ref u3, .ref u4, .ref u5, .ref u6, .ref u7, .ref u8, .ref u9, .null, .long (-1)]))]) [0] (by decide) rfl
  have hK9 := hK.sub (tys' := []) [] rfl
  refine W.widen (k := 0) (n := 0) (by decide) (by decide) ?_
  exact W.iret (v := (-1)) hx hb hr (fun t ht hW => ⟨⟨(-1), (), rfl, rfl, by rw [ht]; exact hP9, va_K.moved hW.alike hK9, hD9⟩, hS.F ht⟩) hS.2.2 dX11_posting_21
set_option maxHeartbeats 4000000 in
set_option maxRecDepth 100000 in
theorem kX13_posting_0 (l : Launch) (dC : Nat → ClassId) (dI : Nat → Nat → Nat) (h0 u0 u1 u2 u3 u4 u5 u6 u7 u8 u9 u10 u11 u12 u13 u14 u15 u16 u17 u18 u19 u20 u21 u22 u23 u24 u25 u26 u27 u28 u29 u30 u31 u32 u33 u34 u35 u36 u37 u38 u39 u40 u41 u42 u43 u44 u45 u46 u47 u48 : Nat) (sz : Nat) (s0 : Int32) : Met l yX13_posting (zw yX13_posting cX13_posting 5 (some .int)) { frames := 0, cells := 0, slots := 0, locals := 0 } (zPc dC dI [.ref h0, .int s0] sz [(h0, .inr (13, [.ref u0, .int 0, .ref u1, .ref u2, .int 0, .ref u3, .ref u4, .ref u5, .ref u6, .ref u7, .ref u8, .ref u9, .ref u10, .int 0, .ref u11, .ref u12, .int 0, .ref u13, .int (-1), .ref u14, .int 0, .int 0, .ref u15, .int 0, .int 0, .ref u16, .ref u17, .ref u18, .ref u19, .ref u20, .int 0, .ref u21, .int 0, .int 0, .int 0, .int 0, .int 0, .int 0, .ref u22, .ref u23, .ref u24, .ref u25, .int 0, .ref u26, .ref u27, .ref u28, .ref u29, .int 0, .ref u30, .ref u31, .int 0, .int 0, .ref u32, .int 0, .int 0, .int 0, .ref u33, .ref u34, .ref u35, .int 0, .int 0, .ref u36, .ref u37, .ref u38, .ref u39, .ref u40, .ref u41, .ref u42, .ref u43, .ref u44, .ref u45, .int 0, .ref u46, .ref u47, .ref u48]))] []) (va_Qi (fun (r : Int32) (_ : Unit) => r = (-1)) (fun (_ : Unit) (t : State) => va_P (dC, dI) vwCl [(h0, .inr (13, [.ref u0, .int 0, .ref u1, .ref u2, .int 0, .ref u3, .ref u4, .ref u5, .ref u6, .ref u7, .ref u8, .ref u9, .ref u10, .int 0, .ref u11, .ref u12, .int 0, .ref u13, .int (-1), .ref u14, .int 0, .int 0, .ref u15, .int 0, .int 0, .ref u16, .ref u17, .ref u18, .ref u19, .ref u20, .int 0, .ref u21, .int 0, .int 0, .int 0, .int 0, .int 0, .int 0, .ref u22, .ref u23, .ref u24, .ref u25, .int 0, .ref u26, .ref u27, .ref u28, .ref u29, .int 0, .ref u30, .ref u31, .int 0, .int 0, .ref u32, .int 0, .int 0, .int 0, .ref u33, .ref u34, .ref u35, .int 0, .int 0, .ref u36, .ref u37, .ref u38, .ref u39, .ref u40, .ref u41, .ref u42, .ref u43, .ref u44, .ref u45, .int 0, .ref u46, .ref u47, .ref u48]))] t.heap ∧ va_K (dC, dI) vwCl [] t ∧ va_D (va_A [(h0, .inr (13, [.ref u0, .int 0, .ref u1, .ref u2, .int 0, .ref u3, .ref u4, .ref u5, .ref u6, .ref u7, .ref u8, .ref u9, .ref u10, .int 0, .ref u11, .ref u12, .int 0, .ref u13, .int (-1), .ref u14, .int 0, .int 0, .ref u15, .int 0, .int 0, .ref u16, .ref u17, .ref u18, .ref u19, .ref u20, .int 0, .ref u21, .int 0, .int 0, .int 0, .int 0, .int 0, .int 0, .ref u22, .ref u23, .ref u24, .ref u25, .int 0, .ref u26, .ref u27, .ref u28, .ref u29, .int 0, .ref u30, .ref u31, .int 0, .int 0, .ref u32, .int 0, .int 0, .int 0, .ref u33, .ref u34, .ref u35, .int 0, .int 0, .ref u36, .ref u37, .ref u38, .ref u39, .ref u40, .ref u41, .ref u42, .ref u43, .ref u44, .ref u45, .int 0, .ref u46, .ref u47, .ref u48]))] sz) [(h0, .inr (13, [.ref u0, .int 0, .ref u1, .ref u2, .int 0, .ref u3, .ref u4, .ref u5, .ref u6, .ref u7, .ref u8, .ref u9, .ref u10, .int 0, .ref u11, .ref u12, .int 0, .ref u13, .int (-1), .ref u14, .int 0, .int 0, .ref u15, .int 0, .int 0, .ref u16, .ref u17, .ref u18, .ref u19, .ref u20, .int 0, .ref u21, .int 0, .int 0, .int 0, .int 0, .int 0, .int 0, .ref u22, .ref u23, .ref u24, .ref u25, .int 0, .ref u26, .ref u27, .ref u28, .ref u29, .int 0, .ref u30, .ref u31, .int 0, .int 0, .ref u32, .int 0, .int 0, .int 0, .ref u33, .ref u34, .ref u35, .int 0, .int 0, .ref u36, .ref u37, .ref u38, .ref u39, .ref u40, .ref u41, .ref u42, .ref u43, .ref u44, .ref u45, .int 0, .ref u46, .ref u47, .ref u48]))]) (va_A [(h0, .inr (13, [.ref u0, .int 0, .ref u1, .ref u2, .int 0, .ref u3, .ref u4, .ref u5, .ref u6, .ref u7, .ref u8, .ref u9, .ref u10, .int 0, .ref u11, .ref u12, .int 0, .ref u13, .int (-1), .ref u14, .int 0, .int 0, .ref u15, .int 0, .int 0, .ref u16, .ref u17, .ref u18, .ref u19, .ref u20, .int 0, .ref u21, .int 0, .int 0, .int 0, .int 0, .int 0, .int 0, .ref u22, .ref u23, .ref u24, .ref u25, .int 0, .ref u26, .ref u27, .ref u28, .ref u29, .int 0, .ref u30, .ref u31, .int 0, .int 0, .ref u32, .int 0, .int 0, .int 0, .ref u33, .ref u34, .ref u35, .int 0, .int 0, .ref u36, .ref u37, .ref u38, .ref u39, .ref u40, .ref u41, .ref u42, .ref u43, .ref u44, .ref u45, .int 0, .ref u46, .ref u47, .ref u48]))] sz)) 0 0 (va_A [(h0, .inr (13, [.ref u0, .int 0, .ref u1, .ref u2, .int 0, .ref u3, .ref u4, .ref u5, .ref u6, .ref u7, .ref u8, .ref u9, .ref u10, .int 0, .ref u11, .ref u12, .int 0, .ref u13, .int (-1), .ref u14, .int 0, .int 0, .ref u15, .int 0, .int 0, .ref u16, .ref u17, .ref u18, .ref u19, .ref u20, .int 0, .ref u21, .int 0, .int 0, .int 0, .int 0, .int 0, .int 0, .ref u22, .ref u23, .ref u24, .ref u25, .int 0, .ref u26, .ref u27, .ref u28, .ref u29, .int 0, .ref u30, .ref u31, .int 0, .int 0, .ref u32, .int 0, .int 0, .int 0, .ref u33, .ref u34, .ref u35, .int 0, .int 0, .ref u36, .ref u37, .ref u38, .ref u39, .ref u40, .ref u41, .ref u42, .ref u43, .ref u44, .ref u45, .int 0, .ref u46, .ref u47, .ref u48]))] sz) := by
  refine Met.ofW (cc := cX13_posting) (maxL := 5) (ret := (some .int)) (by decide) rfl ?_
  intro p e s m args below meth c s₁ B hml hv
  obtain ⟨rfl, hsz, hP, hK, hD0, hE, hZ⟩ := hv
  have hx := B.exec
  have hb := B.bytes
  have hr := B.returns
  have hG : ∀ w ∈ zG, w.before _ s = true := fun w h => atoms_spec (ws := (zw yX13_posting cX13_posting 5 (some .int))) B.pre w (List.mem_cons_of_mem _ h)
  have hown : s.vm.findClass RX13 = some m.cls := findClass_of_methodNamed B.named
  have hlocks := B.notSynchronized
  subst hsz
  have hD := hD0.self (sz := s.heap.size)
  generalize hAe : va_A [(h0, .inr (13, [.ref u0, .int 0, .ref u1, .ref u2, .int 0, .ref u3, .ref u4, .ref u5, .ref u6, .ref u7, .ref u8, .ref u9, .ref u10, .int 0, .ref u11, .ref u12, .int 0, .ref u13, .int (-1), .ref u14, .int 0, .int 0, .ref u15, .int 0, .int 0, .ref u16, .ref u17, .ref u18, .ref u19, .ref u20, .int 0, .ref u21, .int 0, .int 0, .int 0, .int 0, .int 0, .int 0, .ref u22, .ref u23, .ref u24, .ref u25, .int 0, .ref u26, .ref u27, .ref u28, .ref u29, .int 0, .ref u30, .ref u31, .int 0, .int 0, .ref u32, .int 0, .int 0, .int 0, .ref u33, .ref u34, .ref u35, .int 0, .int 0, .ref u36, .ref u37, .ref u38, .ref u39, .ref u40, .ref u41, .ref u42, .ref u43, .ref u44, .ref u45, .int 0, .ref u46, .ref u47, .ref u48]))] s.heap.size = A at hD hZ ⊢
  have hA : ∀ q : Nat, s.heap.size ≤ q → A q := fun q h => by rw [← hAe]; exact Or.inr h
  have hS : va_S A s.heap s.heap [] := va_S.rf
  have hl := lv_entry ([.ref h0, .int s0]) (n := 5) (Nat.le_of_ble_eq_true rfl)
  rw [lg_entry_eq]
  generalize (lg_sl ([.ref h0, .int s0]) ++ List.replicate (5 - (lg_sl ([.ref h0, .int s0])).length) Slot.unset).toArray = ls at hl ⊢
  have hl : lv_has ls 5 [(0, .ref h0), (1, .int s0)] := hl
  refine lv_aload_n hx hb dX13_posting_0 rfl (lv_at hl 0 rfl) ?_
  refine lv_iconst (v := 0) hx hb dX13_posting_1 (by decide) ?_
  refine va_put (D := (dC, dI)) (ci := 13) (v := .int 0) (ty := .int) (C := RX13) (T := TX13) (N := 75) hx hb hG zuX13 tyX13 tyX13_ok nmX13 hown hK hP hD hS 0 rfl rfl 21 (by decide) (hG _ zw302) (fun _ h9 => h9) rfl (by decide +kernel) rfl rfl (Nat.le_of_ble_eq_true rfl) dX13_posting_2 (fun H locs hP hD hS => ?_)
  have hP : va_P (dC, dI) vwCl [(h0, .inr (13, [.ref u0, .int 0, .ref u1, .ref u2, .int 0, .ref u3, .ref u4, .ref u5, .ref u6, .ref u7, .ref u8, .ref u9, .ref u10, .int 0, .ref u11, .ref u12, .int 0, .ref u13, .int (-1), .ref u14, .int 0, .int 0, .ref u15, .int 0, .int 0, .ref u16, .ref u17, .ref u18, .ref u19, .ref u20, .int 0, .ref u21, .int 0, .int 0, .int 0, .int 0, .int 0, .int 0, .ref u22, .ref u23, .ref u24, .ref u25, .int 0, .ref u26, .ref u27, .ref u28, .ref u29, .int 0, .ref u30, .ref u31, .int 0, .int 0, .ref u32, .int 0, .int 0, .int 0, .ref u33, .ref u34, .ref u35, .int 0, .int 0, .ref u36, .ref u37, .ref u38, .ref u39, .ref u40, .ref u41, .ref u42, .ref u43, .ref u44, .ref u45, .int 0, .ref u46, .ref u47, .ref u48]))] H := hP
  have hD : va_D A [(h0, .inr (13, [.ref u0, .int 0, .ref u1, .ref u2, .int 0, .ref u3, .ref u4, .ref u5, .ref u6, .ref u7, .ref u8, .ref u9, .ref u10, .int 0, .ref u11, .ref u12, .int 0, .ref u13, .int (-1), .ref u14, .int 0, .int 0, .ref u15, .int 0, .int 0, .ref u16, .ref u17, .ref u18, .ref u19, .ref u20, .int 0, .ref u21, .int 0, .int 0, .int 0, .int 0, .int 0, .int 0, .ref u22, .ref u23, .ref u24, .ref u25, .int 0, .ref u26, .ref u27, .ref u28, .ref u29, .int 0, .ref u30, .ref u31, .int 0, .int 0, .ref u32, .int 0, .int 0, .int 0, .ref u33, .ref u34, .ref u35, .int 0, .int 0, .ref u36, .ref u37, .ref u38, .ref u39, .ref u40, .ref u41, .ref u42, .ref u43, .ref u44, .ref u45, .int 0, .ref u46, .ref u47, .ref u48]))] := hD
  refine lv_aload_n hx hb dX13_posting_5 rfl (lv_at hl 0 rfl) ?_
  refine va_get (D := (dC, dI)) (ci := 13) (v := .int (-1)) (C := RX13) (T := TX13) (N := 75) hx hb hG zuX13 hown hK hP 0 rfl rfl 18 (by decide) (hG _ zw225) (fun _ h9 => h9) rfl dX13_posting_6 ?_
  refine lv_iconst (v := (-1)) hx hb dX13_posting_9 (by decide) ?_
  refine lv_icmp_eq (tgt := 22) hx hb dX13_posting_10 (by decide) (fun c_5063 => ?_) (fun c_5063 => absurd c_5063 (by decide))
  refine lv_iconst (v := (-1)) hx hb dX13_posting_22 (by decide) ?_
  have hP9 := hP.sub (ws' := [(h0, .inr (13, [.ref u0, .int 0, .ref u1, .ref u2, .int 0, .ref u3, .ref u4, .ref u5, .ref u6, .ref u7, .ref u8, .ref u9, .ref u10, .int 0, .ref u11, .ref u12, .int 0, .ref u13, .int (-1), .ref u14, .int 0, .int 0, .ref u15, .int 0, .int 0, .ref u16, .ref u17, .ref u18, .ref u19, .ref u20, .int 0, .ref u21, .int 0, .int 0, .int 0, .int 0, .int 0, .int 0, .ref u22, .ref u23, .ref u24, .ref u25, .int 0, .ref u26, .ref u27, .ref u28, .ref u29, .int 0, .ref u30, .ref u31, .int 0, .int 0, .ref u32, .int 0, .int 0, .int 0, .ref u33, .ref u34, .ref u35, .int 0, .int 0, .ref u36, .ref u37, .ref u38, .ref u39, .ref u40, .ref u41, .ref u42, .ref u43, .ref u44, .ref u45, .int 0, .ref u46, .ref u47, .ref u48]))]) [0] rfl
  have hD9 := hD.sub (ws' := [(h0, .inr (13, [.ref u0, .int 0, .ref u1, .ref u2, .int 0, .ref u3, .ref u4, .ref u5, .ref u6, .ref u7, .ref u8, .ref u9, .ref u10, .int 0, .ref u11, .ref u12, .int 0, .ref u13, .int (-1), .ref u14, .int 0, .int 0, .ref u15, .int 0, .int 0, .ref u16, .ref u17, .ref u18, .ref u19, .ref u20, .int 0, .ref u21, .int 0, .int 0, .int 0, .int 0, .int 0, .int 0, .ref u22, .ref u23, .ref u24, .ref u25, .int 0, .ref u26, .ref u27, .ref u28, .ref u29, .int 0, .ref u30, .ref u31, .int 0, .int 0, .ref u32, .int 0, .int 0, .int 0, .ref u33, .ref u34, .ref u35, .int 0, .int 0, .ref u36, .ref u37, .ref u38, .ref u39, .ref u40, .ref u41, .ref u42, .ref u43, .ref u44, .ref u45, .int 0, .ref u46, .ref u47, .ref u48]))]) [0] (by decide) rfl
  have hK9 := hK.sub (tys' := []) [] rfl
  refine W.widen (k := 0) (n := 0) (by decide) (by decide) ?_
  exact W.iret (v := (-1)) hx hb hr (fun t ht hW => ⟨⟨(-1), (), rfl, rfl, by rw [ht]; exact hP9, va_K.moved hW.alike hK9, hD9⟩, hS.F ht⟩) hS.2.2 dX13_posting_23
set_option maxHeartbeats 4000000 in
set_option maxRecDepth 100000 in
theorem kX10_rankAhead_1 (l : Launch) (dC : Nat → ClassId) (dI : Nat → Nat → Nat) (h0 u0 u1 u2 u3 u4 u5 : Nat) (sz : Nat) : Met l yX10_rankAhead (zw yX10_rankAhead cX10_rankAhead 6 (some .int)) { frames := 0, cells := 0, slots := 0, locals := 0 } (zPc dC dI [.ref h0, .long (-1)] sz [(h0, .inr (10, [.int 400, .ref u0, .ref u1, .ref u2, .ref u3, .ref u4, .ref u5, .int 0]))] []) (va_Qi (fun (r : Int32) (_ : Unit) => r = 0) (fun (_ : Unit) (t : State) => va_P (dC, dI) vwCl [(h0, .inr (10, [.int 400, .ref u0, .ref u1, .ref u2, .ref u3, .ref u4, .ref u5, .int 0]))] t.heap ∧ va_K (dC, dI) vwCl [] t ∧ va_D (va_A [(h0, .inr (10, [.int 400, .ref u0, .ref u1, .ref u2, .ref u3, .ref u4, .ref u5, .int 0]))] sz) [(h0, .inr (10, [.int 400, .ref u0, .ref u1, .ref u2, .ref u3, .ref u4, .ref u5, .int 0]))]) (va_A [(h0, .inr (10, [.int 400, .ref u0, .ref u1, .ref u2, .ref u3, .ref u4, .ref u5, .int 0]))] sz)) 0 0 (va_A [(h0, .inr (10, [.int 400, .ref u0, .ref u1, .ref u2, .ref u3, .ref u4, .ref u5, .int 0]))] sz) := by
  refine Met.ofW (cc := cX10_rankAhead) (maxL := 6) (ret := (some .int)) (by decide) rfl ?_
  intro p e s m args below meth c s₁ B hml hv
  obtain ⟨rfl, hsz, hP, hK, hD0, hE, hZ⟩ := hv
  have hx := B.exec
  have hb := B.bytes
  have hr := B.returns
  have hG : ∀ w ∈ zG, w.before _ s = true := fun w h => atoms_spec (ws := (zw yX10_rankAhead cX10_rankAhead 6 (some .int))) B.pre w (List.mem_cons_of_mem _ h)
  have hown : s.vm.findClass RX10 = some m.cls := findClass_of_methodNamed B.named
  have hlocks := B.notSynchronized
  subst hsz
  have hD := hD0.self (sz := s.heap.size)
  generalize hAe : va_A [(h0, .inr (10, [.int 400, .ref u0, .ref u1, .ref u2, .ref u3, .ref u4, .ref u5, .int 0]))] s.heap.size = A at hD hZ ⊢
  have hA : ∀ q : Nat, s.heap.size ≤ q → A q := fun q h => by rw [← hAe]; exact Or.inr h
  have hS : va_S A s.heap s.heap [] := va_S.rf
  have hl := lv_entry ([.ref h0, .long (-1)]) (n := 6) (Nat.le_of_ble_eq_true rfl)
  rw [lg_entry_eq]
  generalize (lg_sl ([.ref h0, .long (-1)]) ++ List.replicate (6 - (lg_sl ([.ref h0, .long (-1)])).length) Slot.unset).toArray = ls at hl ⊢
  have hl : lv_has ls 6 [(0, .ref h0), (1, .long (-1))] := hl
  refine lv_iconst (v := 0) hx hb dX10_rankAhead_0 (by decide) ?_
  refine lv_istore_n (lv' := [(3, .int 0), (0, .ref h0), (1, .long (-1))]) hx hb dX10_rankAhead_1 rfl hl (by decide) rfl (fun ls hl => ?_)
  refine lv_aload_n hx hb dX10_rankAhead_2 rfl (lv_at hl 1 rfl) ?_
  refine va_get (D := (dC, dI)) (ci := 10) (v := .int 0) (C := RX10) (T := TX10) (N := 8) hx hb hG zuX10 hown hK hP 0 rfl rfl 7 (by decide) (hG _ zw26) (fun _ h9 => h9) rfl dX10_rankAhead_3 ?_
  refine lv_istore (lv' := [(4, .int 0), (3, .int 0), (0, .ref h0), (1, .long (-1))]) hx hb dX10_rankAhead_6 hl (by decide) rfl (fun ls hl => ?_)
  refine lv_iload_n hx hb dX10_rankAhead_8 rfl (lv_at hl 1 rfl) ?_
  refine lv_iload hx hb dX10_rankAhead_9 (lv_at hl 0 rfl) ?_
  refine lv_icmp_ge (tgt := 49) hx hb dX10_rankAhead_11 (by decide) (fun c_5073 => ?_) (fun c_5073 => absurd c_5073 (by decide))
  refine lv_iload_n hx hb dX10_rankAhead_49 rfl (lv_at hl 1 rfl) ?_
  have hP9 := hP.sub (ws' := [(h0, .inr (10, [.int 400, .ref u0, .ref u1, .ref u2, .ref u3, .ref u4, .ref u5, .int 0]))]) [0] rfl
  have hD9 := hD.sub (ws' := [(h0, .inr (10, [.int 400, .ref u0, .ref u1, .ref u2, .ref u3, .ref u4, .ref u5, .int 0]))]) [0] (by decide) rfl
  have hK9 := hK.sub (tys' := []) [] rfl
  refine W.widen (k := 0) (n := 0) (by decide) (by decide) ?_
  exact W.iret (v := 0) hx hb hr (fun t ht hW => ⟨⟨0, (), rfl, rfl, by rw [ht]; exact hP9, va_K.moved hW.alike hK9, hD9⟩, hS.F ht⟩) hS.2.2 dX10_rankAhead_50
set_option maxHeartbeats 4000000 in
set_option maxRecDepth 100000 in
theorem kX10_rankOf_1 (l : Launch) (dC : Nat → ClassId) (dI : Nat → Nat → Nat) (h0 u0 u1 u2 u3 u4 u5 : Nat) (sz : Nat) : Met l yX10_rankOf (zw yX10_rankOf cX10_rankOf 4 (some .int)) { frames := 1, cells := 0, slots := 0, locals := 25 } (zPc dC dI [.ref h0, .long (-1)] sz [(h0, .inr (10, [.int 400, .ref u0, .ref u1, .ref u2, .ref u3, .ref u4, .ref u5, .int 0]))] []) (va_Qi (fun (r : Int32) (_ : Unit) => r = (-1)) (fun (_ : Unit) (t : State) => va_P (dC, dI) vwCl [(h0, .inr (10, [.int 400, .ref u0, .ref u1, .ref u2, .ref u3, .ref u4, .ref u5, .int 0]))] t.heap ∧ va_K (dC, dI) vwCl [] t ∧ va_D (va_A [(h0, .inr (10, [.int 400, .ref u0, .ref u1, .ref u2, .ref u3, .ref u4, .ref u5, .int 0]))] sz) [(h0, .inr (10, [.int 400, .ref u0, .ref u1, .ref u2, .ref u3, .ref u4, .ref u5, .int 0]))]) (va_A [(h0, .inr (10, [.int 400, .ref u0, .ref u1, .ref u2, .ref u3, .ref u4, .ref u5, .int 0]))] sz)) 0 0 (va_A [(h0, .inr (10, [.int 400, .ref u0, .ref u1, .ref u2, .ref u3, .ref u4, .ref u5, .int 0]))] sz) := by
  refine Met.ofW (cc := cX10_rankOf) (maxL := 4) (ret := (some .int)) (by decide) rfl ?_
  intro p e s m args below meth c s₁ B hml hv
  obtain ⟨rfl, hsz, hP, hK, hD0, hE, hZ⟩ := hv
  have hx := B.exec
  have hb := B.bytes
  have hr := B.returns
  have hG : ∀ w ∈ zG, w.before _ s = true := fun w h => atoms_spec (ws := (zw yX10_rankOf cX10_rankOf 4 (some .int))) B.pre w (List.mem_cons_of_mem _ h)
  have hown : s.vm.findClass RX10 = some m.cls := findClass_of_methodNamed B.named
  have hlocks := B.notSynchronized
  subst hsz
  have hD := hD0.self (sz := s.heap.size)
  generalize hAe : va_A [(h0, .inr (10, [.int 400, .ref u0, .ref u1, .ref u2, .ref u3, .ref u4, .ref u5, .int 0]))] s.heap.size = A at hD hZ ⊢
  have hA : ∀ q : Nat, s.heap.size ≤ q → A q := fun q h => by rw [← hAe]; exact Or.inr h
  have hS : va_S A s.heap s.heap [] := va_S.rf
  have hl := lv_entry ([.ref h0, .long (-1)]) (n := 4) (Nat.le_of_ble_eq_true rfl)
  rw [lg_entry_eq]
  generalize (lg_sl ([.ref h0, .long (-1)]) ++ List.replicate (4 - (lg_sl ([.ref h0, .long (-1)])).length) Slot.unset).toArray = ls at hl ⊢
  have hl : lv_has ls 4 [(0, .ref h0), (1, .long (-1))] := hl
  refine lv_aload_n hx hb dX10_rankOf_0 rfl (lv_at hl 0 rfl) ?_
  refine lv_lload_n hx hb dX10_rankOf_1 rfl (lv_at hl 1 rfl) ?_
  have hPc := hP.sub (ws' := [(h0, .inr (10, [.int 400, .ref u0, .ref u1, .ref u2, .ref u3, .ref u4, .ref u5, .int 0]))]) [0] rfl
  have hDc := hD.sub (ws' := [(h0, .inr (10, [.int 400, .ref u0, .ref u1, .ref u2, .ref u3, .ref u4, .ref u5, .int 0]))]) [0] (by decide) rfl
  have hKc := hK.sub (tys' := []) [] rfl
  have hFc := va_free (wc := [(h0, .inr (10, [.int 400, .ref u0, .ref u1, .ref u2, .ref u3, .ref u4, .ref u5, .int 0]))]) hD hS hA [0] rfl
  refine va_calli (va_runV (As := [.long (-1)]) (rest := []) ⟨hx, hb, hml, hown, hG⟩ (kX10_rankAhead_1 l dC dI h0 u0 u1 u2 u3 u4 u5 s.heap.size) (cwV 1 hG (zgV zw512 zw513 zw514 zw20 zw515) rfl rfl rfl (by decide +kernel) ⟨Nat.le_of_ble_eq_true rfl, Nat.le_of_ble_eq_true rfl⟩) ⟨zPc_blind, va_recv hKc hPc (ci := 10) (q0 := 0) rfl rfl, zPc_pre hPc hKc hDc hE hS hFc hZ⟩ rfl rfl hl.1 rfl (lv_room (Nat.le_of_ble_eq_true rfl)) dX10_rankOf_2 ⟨Nat.le_of_ble_eq_true rfl, Nat.le_of_ble_eq_true rfl⟩) hS (fun q _ h => hFc q h) hFc (fun r_5082 u t H1 locs ht hvm hw hB hz1 hk1 hS => ?_)
  have hw : r_5082 = 0 := hw
  subst hw
  obtain ⟨hP1, hK1, hD1⟩ := hB
  rw [ht] at hP1
  obtain ⟨hP, hD⟩ := va_join (wr := []) (w1 := [(h0, .inr (10, [.int 400, .ref u0, .ref u1, .ref u2, .ref u3, .ref u4, .ref u5, .int 0]))]) hP hD [0] [] rfl rfl (by decide) (by decide) hk1 hFc hP1 hD1
  generalize H1 = H at hP hS ⊢
  have hP : va_P (dC, dI) vwCl [(h0, .inr (10, [.int 400, .ref u0, .ref u1, .ref u2, .ref u3, .ref u4, .ref u5, .int 0]))] H := hP
  have hD : va_D A [(h0, .inr (10, [.int 400, .ref u0, .ref u1, .ref u2, .ref u3, .ref u4, .ref u5, .int 0]))] := hD
  refine lv_istore_n (lv' := [(3, .int 0), (0, .ref h0), (1, .long (-1))]) hx hb dX10_rankOf_5 rfl hl (by decide) rfl (fun ls hl => ?_)
  refine lv_iload_n hx hb dX10_rankOf_6 rfl (lv_at hl 0 rfl) ?_
  refine lv_aload_n hx hb dX10_rankOf_7 rfl (lv_at hl 1 rfl) ?_
  refine va_get (D := (dC, dI)) (ci := 10) (v := .int 0) (C := RX10) (T := TX10) (N := 8) hx hb hG zuX10 hown hK hP 0 rfl rfl 7 (by decide) (hG _ zw26) (fun _ h9 => h9) rfl dX10_rankOf_8 ?_
  refine lv_icmp_ge (tgt := 29) hx hb dX10_rankOf_11 (by decide) (fun c_5084 => ?_) (fun c_5084 => absurd c_5084 (by decide))
  refine lv_iconst (v := (-1)) hx hb dX10_rankOf_29 (by decide) ?_
  have hP9 := hP.sub (ws' := [(h0, .inr (10, [.int 400, .ref u0, .ref u1, .ref u2, .ref u3, .ref u4, .ref u5, .int 0]))]) [0] rfl
  have hD9 := hD.sub (ws' := [(h0, .inr (10, [.int 400, .ref u0, .ref u1, .ref u2, .ref u3, .ref u4, .ref u5, .int 0]))]) [0] (by decide) rfl
  have hK9 := hK.sub (tys' := []) [] rfl
  refine W.widen (k := 0) (n := 0) (by decide) (by decide) ?_
  exact W.iret (v := (-1)) hx hb hr (fun t ht hW => ⟨⟨(-1), (), rfl, rfl, by rw [ht]; exact hP9, va_K.moved hW.alike hK9, hD9⟩, hS.F ht⟩) hS.2.2 dX10_rankOf_30
set_option maxHeartbeats 4000000 in
set_option maxRecDepth 100000 in
theorem kX10_idOf_1 (l : Launch) (dC : Nat → ClassId) (dI : Nat → Nat → Nat) (h0 u0 u1 u2 u3 u4 u5 : Nat) (sz : Nat) : Met l yX10_idOf (zw yX10_idOf cX10_idOf 3 (some .int)) { frames := 2, cells := 0, slots := 0, locals := 48 } (zPc dC dI [.ref h0, .long (-1)] sz [(h0, .inr (10, [.int 400, .ref u0, .ref u1, .ref u2, .ref u3, .ref u4, .ref u5, .int 0]))] []) (va_Qi (fun (r : Int32) (_ : Unit) => r = (-1)) (fun (_ : Unit) (t : State) => va_P (dC, dI) vwCl [(h0, .inr (10, [.int 400, .ref u0, .ref u1, .ref u2, .ref u3, .ref u4, .ref u5, .int 0]))] t.heap ∧ va_K (dC, dI) vwCl [] t ∧ va_D (va_A [(h0, .inr (10, [.int 400, .ref u0, .ref u1, .ref u2, .ref u3, .ref u4, .ref u5, .int 0]))] sz) [(h0, .inr (10, [.int 400, .ref u0, .ref u1, .ref u2, .ref u3, .ref u4, .ref u5, .int 0]))]) (va_A [(h0, .inr (10, [.int 400, .ref u0, .ref u1, .ref u2, .ref u3, .ref u4, .ref u5, .int 0]))] sz)) 0 0 (va_A [(h0, .inr (10, [.int 400, .ref u0, .ref u1, .ref u2, .ref u3, .ref u4, .ref u5, .int 0]))] sz) := by
  refine Met.ofW (cc := cX10_idOf) (maxL := 3) (ret := (some .int)) (by decide) rfl ?_
  intro p e s m args below meth c s₁ B hml hv
  obtain ⟨rfl, hsz, hP, hK, hD0, hE, hZ⟩ := hv
  have hx := B.exec
  have hb := B.bytes
  have hr := B.returns
  have hG : ∀ w ∈ zG, w.before _ s = true := fun w h => atoms_spec (ws := (zw yX10_idOf cX10_idOf 3 (some .int))) B.pre w (List.mem_cons_of_mem _ h)
  have hown : s.vm.findClass RX10 = some m.cls := findClass_of_methodNamed B.named
  have hlocks := B.notSynchronized
  subst hsz
  have hD := hD0.self (sz := s.heap.size)
  generalize hAe : va_A [(h0, .inr (10, [.int 400, .ref u0, .ref u1, .ref u2, .ref u3, .ref u4, .ref u5, .int 0]))] s.heap.size = A at hD hZ ⊢
  have hA : ∀ q : Nat, s.heap.size ≤ q → A q := fun q h => by rw [← hAe]; exact Or.inr h
  have hS : va_S A s.heap s.heap [] := va_S.rf
  have hl := lv_entry ([.ref h0, .long (-1)]) (n := 3) (Nat.le_of_ble_eq_true rfl)
  rw [lg_entry_eq]
  generalize (lg_sl ([.ref h0, .long (-1)]) ++ List.replicate (3 - (lg_sl ([.ref h0, .long (-1)])).length) Slot.unset).toArray = ls at hl ⊢
  have hl : lv_has ls 3 [(0, .ref h0), (1, .long (-1))] := hl
  refine lv_aload_n hx hb dX10_idOf_0 rfl (lv_at hl 0 rfl) ?_
  refine lv_aload_n hx hb dX10_idOf_1 rfl (lv_at hl 0 rfl) ?_
  refine lv_lload_n hx hb dX10_idOf_2 rfl (lv_at hl 1 rfl) ?_
  have hPc := hP.sub (ws' := [(h0, .inr (10, [.int 400, .ref u0, .ref u1, .ref u2, .ref u3, .ref u4, .ref u5, .int 0]))]) [0] rfl
  have hDc := hD.sub (ws' := [(h0, .inr (10, [.int 400, .ref u0, .ref u1, .ref u2, .ref u3, .ref u4, .ref u5, .int 0]))]) [0] (by decide) rfl
  have hKc := hK.sub (tys' := []) [] rfl
  have hFc := va_free (wc := [(h0, .inr (10, [.int 400, .ref u0, .ref u1, .ref u2, .ref u3, .ref u4, .ref u5, .int 0]))]) hD hS hA [0] rfl
  refine va_calli (va_runV (As := [.long (-1)]) (rest := [.ref h0]) ⟨hx, hb, hml, hown, hG⟩ (kX10_rankOf_1 l dC dI h0 u0 u1 u2 u3 u4 u5 s.heap.size) (cwV 1 hG (zgV zw516 zw517 zw518 zw20 zw519) rfl rfl rfl (by decide +kernel) ⟨Nat.le_of_ble_eq_true rfl, Nat.le_of_ble_eq_true rfl⟩) ⟨zPc_blind, va_recv hKc hPc (ci := 10) (q0 := 0) rfl rfl, zPc_pre hPc hKc hDc hE hS hFc hZ⟩ rfl rfl hl.1 rfl (lv_room (Nat.le_of_ble_eq_true rfl)) dX10_idOf_3 ⟨Nat.le_of_ble_eq_true rfl, Nat.le_of_ble_eq_true rfl⟩) hS (fun q _ h => hFc q h) hFc (fun r_5103 u t H1 locs ht hvm hw hB hz1 hk1 hS => ?_)
  have hw : r_5103 = (-1) := hw
  subst hw
  obtain ⟨hP1, hK1, hD1⟩ := hB
  rw [ht] at hP1
  obtain ⟨hP, hD⟩ := va_join (wr := []) (w1 := [(h0, .inr (10, [.int 400, .ref u0, .ref u1, .ref u2, .ref u3, .ref u4, .ref u5, .int 0]))]) hP hD [0] [] rfl rfl (by decide) (by decide) hk1 hFc hP1 hD1
  generalize H1 = H at hP hS ⊢
  have hP : va_P (dC, dI) vwCl [(h0, .inr (10, [.int 400, .ref u0, .ref u1, .ref u2, .ref u3, .ref u4, .ref u5, .int 0]))] H := hP
  have hD : va_D A [(h0, .inr (10, [.int 400, .ref u0, .ref u1, .ref u2, .ref u3, .ref u4, .ref u5, .int 0]))] := hD
  have hPc := hP.sub (ws' := []) [] rfl
  have hDc := hD.sub (ws' := []) [] (by decide) rfl
  have hKc := hK.sub (tys' := []) [] rfl
  have hFc := va_free (wc := []) hD hS hA [] rfl
  refine va_calli (va_runV (As := [.int (-1)]) (rest := []) ⟨hx, hb, hml, hown, hG⟩ (kX10_idAt_0 l dC dI h0 H.size) (cwV 1 hG (zgV zw520 zw521 zw522 zw20 zw523) rfl rfl rfl (by decide +kernel) ⟨Nat.le_of_ble_eq_true rfl, Nat.le_of_ble_eq_true rfl⟩) ⟨zPc_blind, va_recv hK hP (ci := 10) (q0 := 0) rfl rfl, zPc_pre hPc hKc hDc hE hS hFc hZ⟩ rfl rfl hl.1 rfl (lv_room (Nat.le_of_ble_eq_true rfl)) dX10_idOf_6 ⟨Nat.le_of_ble_eq_true rfl, Nat.le_of_ble_eq_true rfl⟩) hS (fun q _ h => hFc q h) hFc (fun r_5106 u t H1 locs ht hvm hw hB hz1 hk1 hS => ?_)
  have hw : r_5106 = (-1) := hw
  subst hw
  obtain ⟨hP1, hK1, hD1⟩ := hB
  rw [ht] at hP1
  obtain ⟨hP, hD⟩ := va_join (wr := [(h0, .inr (10, [.int 400, .ref u0, .ref u1, .ref u2, .ref u3, .ref u4, .ref u5, .int 0]))]) (w1 := []) hP hD [] [0] rfl rfl (by decide) (by decide) hk1 hFc hP1 hD1
  generalize H1 = H at hP hS ⊢
  have hP : va_P (dC, dI) vwCl [(h0, .inr (10, [.int 400, .ref u0, .ref u1, .ref u2, .ref u3, .ref u4, .ref u5, .int 0]))] H := hP
  have hD : va_D A [(h0, .inr (10, [.int 400, .ref u0, .ref u1, .ref u2, .ref u3, .ref u4, .ref u5, .int 0]))] := hD
  have hP9 := hP.sub (ws' := [(h0, .inr (10, [.int 400, .ref u0, .ref u1, .ref u2, .ref u3, .ref u4, .ref u5, .int 0]))]) [0] rfl
  have hD9 := hD.sub (ws' := [(h0, .inr (10, [.int 400, .ref u0, .ref u1, .ref u2, .ref u3, .ref u4, .ref u5, .int 0]))]) [0] (by decide) rfl
  have hK9 := hK.sub (tys' := []) [] rfl
  refine W.widen (k := 0) (n := 0) (by decide) (by decide) ?_
  exact W.iret (v := (-1)) hx hb hr (fun t ht hW => ⟨⟨(-1), (), rfl, rfl, by rw [ht]; exact hP9, va_K.moved hW.alike hK9, hD9⟩, hS.F ht⟩) hS.2.2 dX10_idOf_9
set_option maxHeartbeats 4000000 in
set_option maxRecDepth 100000 in
theorem kX6_bitsOf_0 (l : Launch) (dC : Nat → ClassId) (dI : Nat → Nat → Nat) (u0 : Nat) (sz : Nat) : Met l yX6_bitsOf (zw yX6_bitsOf cX6_bitsOf 2 (some .int)) { frames := 1, cells := 0, slots := 0, locals := 20 } (zPc dC dI [.ref u0, .int (-1)] sz [] []) (va_Qi (fun (r : Int32) (_ : Unit) => r = 0) (fun (_ : Unit) (t : State) => va_P (dC, dI) vwCl [] t.heap ∧ va_K (dC, dI) vwCl [] t ∧ va_D (va_A [] sz) []) (va_A [] sz)) 0 0 (va_A [] sz) := by
  refine Met.ofW (cc := cX6_bitsOf) (maxL := 2) (ret := (some .int)) (by decide) rfl ?_
  intro p e s m args below meth c s₁ B hml hv
  obtain ⟨rfl, hsz, hP, hK, hD0, hE, hZ⟩ := hv
  have hx := B.exec
  have hb := B.bytes
  have hr := B.returns
  have hG : ∀ w ∈ zG, w.before _ s = true := fun w h => atoms_spec (ws := (zw yX6_bitsOf cX6_bitsOf 2 (some .int))) B.pre w (List.mem_cons_of_mem _ h)
  have hown : s.vm.findClass RX6 = some m.cls := findClass_of_methodNamed B.named
  have hlocks := B.notSynchronized
  subst hsz
  have hD := hD0.self (sz := s.heap.size)
  generalize hAe : va_A [] s.heap.size = A at hD hZ ⊢
  have hA : ∀ q : Nat, s.heap.size ≤ q → A q := fun q h => by rw [← hAe]; exact Or.inr h
  have hS : va_S A s.heap s.heap [] := va_S.rf
  have hl := lv_entry ([.ref u0, .int (-1)]) (n := 2) (Nat.le_of_ble_eq_true rfl)
  rw [lg_entry_eq]
  generalize (lg_sl ([.ref u0, .int (-1)]) ++ List.replicate (2 - (lg_sl ([.ref u0, .int (-1)])).length) Slot.unset).toArray = ls at hl ⊢
  have hl : lv_has ls 2 [(0, .ref u0), (1, .int (-1))] := hl
  refine lv_iload_n hx hb dX6_bitsOf_0 rfl (lv_at hl 1 rfl) ?_
  have hPc := hP.sub (ws' := []) [] rfl
  have hDc := hD.sub (ws' := []) [] (by decide) rfl
  have hKc := hK.sub (tys' := []) [] rfl
  have hFc := va_free (wc := []) hD hS hA [] rfl
  refine va_calli (va_runS (As := [.int (-1)]) (rest := []) ⟨hx, hb, hml, hown, hG⟩ (kX6_isId_0 l dC dI s.heap.size) (va_cwS 1 hG (zgS zw528 zw529 zw53 zw530) rfl rfl rfl (by decide +kernel) ⟨Nat.le_of_ble_eq_true rfl, Nat.le_of_ble_eq_true rfl⟩) ⟨zPc_blind, zPc_pre hPc hKc hDc hE hS hFc hZ⟩ rfl rfl hl.1 rfl (lv_room (Nat.le_of_ble_eq_true rfl)) dX6_bitsOf_1 ⟨Nat.le_of_ble_eq_true rfl, Nat.le_of_ble_eq_true rfl⟩) hS (fun q _ h => hFc q h) hFc (fun r_5120 u t H1 locs ht hvm hw hB hz1 hk1 hS => ?_)
  have hw : r_5120 = 0 := hw
  subst hw
  obtain ⟨hP1, hK1, hD1⟩ := hB
  rw [ht] at hP1
  obtain ⟨hP, hD⟩ := va_join (wr := []) (w1 := []) hP hD [] [] rfl rfl (by decide) (by decide) hk1 hFc hP1 hD1
  generalize H1 = H at hP hS ⊢
  have hP : va_P (dC, dI) vwCl [] H := hP
  have hD : va_D A [] := hD
  refine lv_if_eq (tgt := 16) hx hb dX6_bitsOf_4 (by decide) (fun c_5122 => ?_) (fun c_5122 => absurd c_5122 (by decide))
  refine lv_iconst (v := 0) hx hb dX6_bitsOf_16 (by decide) ?_
  have hP9 := hP.sub (ws' := []) [] rfl
  have hD9 := hD.sub (ws' := []) [] (by decide) rfl
  have hK9 := hK.sub (tys' := []) [] rfl
  refine W.widen (k := 0) (n := 0) (by decide) (by decide) ?_
  exact W.iret (v := 0) hx hb hr (fun t ht hW => ⟨⟨0, (), rfl, rfl, by rw [ht]; exact hP9, va_K.moved hW.alike hK9, hD9⟩, hS.F ht⟩) hS.2.2 dX6_bitsOf_17
set_option maxHeartbeats 4000000 in
set_option maxRecDepth 100000 in
theorem kX11_bit_0 (l : Launch) (hl0 : l.stackTraces = false) (dC : Nat → ClassId) (dI : Nat → Nat → Nat) (h0 h1 h2 u0 u1 u2 u3 u4 u5 u6 u7 u8 u9 u10 u11 u12 u13 u14 u15 u16 u17 u18 u19 u20 u21 : Nat) (sz : Nat) (s0 : Int32) : vx_Met l yX11_bit (zw yX11_bit cX11_bit 3 (some .int)) { frames := 8, cells := 1, slots := 6, locals := 120 } (zPc dC dI [.ref h0, .int s0] sz [(h0, .inr (11, [.ref u0, .ref h1, .ref u1, .ref u2, .ref h2, .ref u3, .ref u4, .ref u5, .ref u6, .ref u7, .null, .long (-1)])), (h1, .inr (10, [.int 400, .ref u8, .ref u9, .ref u10, .ref u11, .ref u12, .ref u13, .int 0])), (h2, .inr (6, [.ref u14, .ref u15, .ref u16, .ref u17, .ref u18, .ref u19, .ref u20, .ref u21, .int 0, .int 0, .int 0, .int 0]))] []) (va_Qi (fun (_ : Int32) (_ : Unit) => False) (fun (_ : Unit) (_ : State) => True) (va_A [(h0, .inr (11, [.ref u0, .ref h1, .ref u1, .ref u2, .ref h2, .ref u3, .ref u4, .ref u5, .ref u6, .ref u7, .null, .long (-1)])), (h1, .inr (10, [.int 400, .ref u8, .ref u9, .ref u10, .ref u11, .ref u12, .ref u13, .int 0])), (h2, .inr (6, [.ref u14, .ref u15, .ref u16, .ref u17, .ref u18, .ref u19, .ref u20, .ref u21, .int 0, .int 0, .int 0, .int 0]))] sz)) (vx_X (fun _ : Unit => True) (fun (E : String) (_ : Unit) (t : State) => E = "java/lang/IndexOutOfBoundsException" ∧ va_P (dC, dI) vwCl [(h0, .inr (11, [.ref u0, .ref h1, .ref u1, .ref u2, .ref h2, .ref u3, .ref u4, .ref u5, .ref u6, .ref u7, .null, .long (-1)])), (h1, .inr (10, [.int 400, .ref u8, .ref u9, .ref u10, .ref u11, .ref u12, .ref u13, .int 0])), (h2, .inr (6, [.ref u14, .ref u15, .ref u16, .ref u17, .ref u18, .ref u19, .ref u20, .ref u21, .int 0, .int 0, .int 0, .int 0]))] t.heap ∧ va_K (dC, dI) vwCl [] t ∧ va_D (va_A [(h0, .inr (11, [.ref u0, .ref h1, .ref u1, .ref u2, .ref h2, .ref u3, .ref u4, .ref u5, .ref u6, .ref u7, .null, .long (-1)])), (h1, .inr (10, [.int 400, .ref u8, .ref u9, .ref u10, .ref u11, .ref u12, .ref u13, .int 0])), (h2, .inr (6, [.ref u14, .ref u15, .ref u16, .ref u17, .ref u18, .ref u19, .ref u20, .ref u21, .int 0, .int 0, .int 0, .int 0]))] sz) [(h0, .inr (11, [.ref u0, .ref h1, .ref u1, .ref u2, .ref h2, .ref u3, .ref u4, .ref u5, .ref u6, .ref u7, .null, .long (-1)])), (h1, .inr (10, [.int 400, .ref u8, .ref u9, .ref u10, .ref u11, .ref u12, .ref u13, .int 0])), (h2, .inr (6, [.ref u14, .ref u15, .ref u16, .ref u17, .ref u18, .ref u19, .ref u20, .ref u21, .int 0, .int 0, .int 0, .int 0]))]) (va_A [(h0, .inr (11, [.ref u0, .ref h1, .ref u1, .ref u2, .ref h2, .ref u3, .ref u4, .ref u5, .ref u6, .ref u7, .null, .long (-1)])), (h1, .inr (10, [.int 400, .ref u8, .ref u9, .ref u10, .ref u11, .ref u12, .ref u13, .int 0])), (h2, .inr (6, [.ref u14, .ref u15, .ref u16, .ref u17, .ref u18, .ref u19, .ref u20, .ref u21, .int 0, .int 0, .int 0, .int 0]))] sz)) 1 6 (va_A [(h0, .inr (11, [.ref u0, .ref h1, .ref u1, .ref u2, .ref h2, .ref u3, .ref u4, .ref u5, .ref u6, .ref u7, .null, .long (-1)])), (h1, .inr (10, [.int 400, .ref u8, .ref u9, .ref u10, .ref u11, .ref u12, .ref u13, .int 0])), (h2, .inr (6, [.ref u14, .ref u15, .ref u16, .ref u17, .ref u18, .ref u19, .ref u20, .ref u21, .int 0, .int 0, .int 0, .int 0]))] sz) := by
  refine vx_ofW (cc := cX11_bit) (maxL := 3) (ret := (some .int)) (by decide) rfl ?_
  intro p e s m args below meth c s₁ B hml hout hv
  obtain ⟨rfl, hsz, hP, hK, hD0, hE, hZ⟩ := hv
  have hx := B.exec
  have hb := B.bytes
  have hr := B.returns
  have hG : ∀ w ∈ zG, w.before _ s = true := fun w h => atoms_spec (ws := (zw yX11_bit cX11_bit 3 (some .int))) B.pre w (List.mem_cons_of_mem _ h)
  have hown : s.vm.findClass RX11 = some m.cls := findClass_of_methodNamed B.named
  have hlocks := B.notSynchronized
  subst hsz
  have hD := hD0.self (sz := s.heap.size)
  generalize hAe : va_A [(h0, .inr (11, [.ref u0, .ref h1, .ref u1, .ref u2, .ref h2, .ref u3, .ref u4, .ref u5, .ref u6, .ref u7, .null, .long (-1)])), (h1, .inr (10, [.int 400, .ref u8, .ref u9, .ref u10, .ref u11, .ref u12, .ref u13, .int 0])), (h2, .inr (6, [.ref u14, .ref u15, .ref u16, .ref u17, .ref u18, .ref u19, .ref u20, .ref u21, .int 0, .int 0, .int 0, .int 0]))] s.heap.size = A at hD hZ ⊢
  have hA : ∀ q : Nat, s.heap.size ≤ q → A q := fun q h => by rw [← hAe]; exact Or.inr h
  have hS : va_S A s.heap s.heap [] := va_S.rf
  have hl := lv_entry ([.ref h0, .int s0]) (n := 3) (Nat.le_of_ble_eq_true rfl)
  rw [lg_entry_eq]
  generalize (lg_sl ([.ref h0, .int s0]) ++ List.replicate (3 - (lg_sl ([.ref h0, .int s0])).length) Slot.unset).toArray = ls at hl ⊢
  have hl : lv_has ls 3 [(0, .ref h0), (1, .int s0)] := hl
  refine lv_aload_n hx hb dX11_bit_0 rfl (lv_at hl 0 rfl) ?_
  refine va_get (D := (dC, dI)) (ci := 11) (v := .ref h1) (C := RX11) (T := TX11) (N := 12) hx hb hG zuX11 hown hK hP 0 rfl rfl 1 (by decide) (hG _ zw35) (fun _ h9 => h9) rfl dX11_bit_1 ?_
  refine lv_aload_n hx hb dX11_bit_4 rfl (lv_at hl 0 rfl) ?_
  refine va_get (D := (dC, dI)) (ci := 11) (v := .long (-1)) (C := RX11) (T := TX11) (N := 12) hx hb hG zuX11 hown hK hP 0 rfl rfl 11 (by decide) (hG _ zw201) (fun _ h9 => h9) rfl dX11_bit_5 ?_
  have hPc := hP.sub (ws' := [(h1, .inr (10, [.int 400, .ref u8, .ref u9, .ref u10, .ref u11, .ref u12, .ref u13, .int 0]))]) [1] rfl
  have hDc := hD.sub (ws' := [(h1, .inr (10, [.int 400, .ref u8, .ref u9, .ref u10, .ref u11, .ref u12, .ref u13, .int 0]))]) [1] (by decide) rfl
  have hKc := hK.sub (tys' := []) [] rfl
  have hFc := va_free (wc := [(h1, .inr (10, [.int 400, .ref u8, .ref u9, .ref u10, .ref u11, .ref u12, .ref u13, .int 0]))]) hD hS hA [1] rfl
  refine va_calli (va_runV (As := [.long (-1)]) (rest := []) ⟨hx, hb, hml, hown, hG⟩ (kX10_idOf_1 l dC dI h1 u8 u9 u10 u11 u12 u13 s.heap.size) (cwV 1 hG (zgV zw524 zw525 zw526 zw20 zw527) rfl rfl rfl (by decide +kernel) ⟨Nat.le_of_ble_eq_true rfl, Nat.le_of_ble_eq_true rfl⟩) ⟨zPc_blind, va_recv hKc hPc (ci := 10) (q0 := 0) rfl rfl, zPc_pre hPc hKc hDc hE hS hFc hZ⟩ rfl rfl hl.1 rfl (lv_room (Nat.le_of_ble_eq_true rfl)) dX11_bit_8 ⟨Nat.le_of_ble_eq_true rfl, Nat.le_of_ble_eq_true rfl⟩) hS (fun q _ h => hFc q h) hFc (fun r_5154 u t H1 locs ht hvm hw hB hz1 hk1 hS => ?_)
  have hw : r_5154 = (-1) := hw
  subst hw
  obtain ⟨hP1, hK1, hD1⟩ := hB
  rw [ht] at hP1
  obtain ⟨hP, hD⟩ := va_join (wr := [(h0, .inr (11, [.ref u0, .ref h1, .ref u1, .ref u2, .ref h2, .ref u3, .ref u4, .ref u5, .ref u6, .ref u7, .null, .long (-1)])), (h2, .inr (6, [.ref u14, .ref u15, .ref u16, .ref u17, .ref u18, .ref u19, .ref u20, .ref u21, .int 0, .int 0, .int 0, .int 0]))]) (w1 := [(h1, .inr (10, [.int 400, .ref u8, .ref u9, .ref u10, .ref u11, .ref u12, .ref u13, .int 0]))]) hP hD [1] [0, 2] rfl rfl (by decide) (by decide) hk1 hFc hP1 hD1
  generalize H1 = H at hP hS ⊢
  have hP : va_P (dC, dI) vwCl [(h0, .inr (11, [.ref u0, .ref h1, .ref u1, .ref u2, .ref h2, .ref u3, .ref u4, .ref u5, .ref u6, .ref u7, .null, .long (-1)])), (h2, .inr (6, [.ref u14, .ref u15, .ref u16, .ref u17, .ref u18, .ref u19, .ref u20, .ref u21, .int 0, .int 0, .int 0, .int 0])), (h1, .inr (10, [.int 400, .ref u8, .ref u9, .ref u10, .ref u11, .ref u12, .ref u13, .int 0]))] H := hP
  have hD : va_D A [(h0, .inr (11, [.ref u0, .ref h1, .ref u1, .ref u2, .ref h2, .ref u3, .ref u4, .ref u5, .ref u6, .ref u7, .null, .long (-1)])), (h2, .inr (6, [.ref u14, .ref u15, .ref u16, .ref u17, .ref u18, .ref u19, .ref u20, .ref u21, .int 0, .int 0, .int 0, .int 0])), (h1, .inr (10, [.int 400, .ref u8, .ref u9, .ref u10, .ref u11, .ref u12, .ref u13, .int 0]))] := hD
  refine lv_istore_n (lv' := [(2, .int (-1)), (0, .ref h0), (1, .int s0)]) hx hb dX11_bit_11 rfl hl (by decide) rfl (fun ls hl => ?_)
  refine lv_iload_n hx hb dX11_bit_12 rfl (lv_at hl 2 rfl) ?_
  refine lv_if_lt (tgt := 28) hx hb dX11_bit_13 (by decide) (fun c_5156 => ?_) (fun c_5156 => ?_)
  · skip
    have hP9 := hP.sub (ws' := [(h0, .inr (11, [.ref u0, .ref h1, .ref u1, .ref u2, .ref h2, .ref u3, .ref u4, .ref u5, .ref u6, .ref u7, .null, .long (-1)])), (h1, .inr (10, [.int 400, .ref u8, .ref u9, .ref u10, .ref u11, .ref u12, .ref u13, .int 0])), (h2, .inr (6, [.ref u14, .ref u15, .ref u16, .ref u17, .ref u18, .ref u19, .ref u20, .ref u21, .int 0, .int 0, .int 0, .int 0]))]) [0, 2, 1] rfl
    have hD9 := hD.sub (ws' := [(h0, .inr (11, [.ref u0, .ref h1, .ref u1, .ref u2, .ref h2, .ref u3, .ref u4, .ref u5, .ref u6, .ref u7, .null, .long (-1)])), (h1, .inr (10, [.int 400, .ref u8, .ref u9, .ref u10, .ref u11, .ref u12, .ref u13, .int 0])), (h2, .inr (6, [.ref u14, .ref u15, .ref u16, .ref u17, .ref u18, .ref u19, .ref u20, .ref u21, .int 0, .int 0, .int 0, .int 0]))]) [0, 2, 1] (by decide) rfl
    have hK9 := hK.sub (tys' := []) [] rfl
    obtain ⟨sa, hstr⟩ := zE_S220 hE
    exact vx_throwS (names := ["java/lang/RuntimeException", "java/lang/Exception"]) (A := A) hx hb hl0 hown (by decide +kernel) (by decide +kernel) (hG _ zw489) (hG _ zw490) hstr (zhat hG hE) zAT_ot hZ.1 hZ.2 hS (hl.1.trans hml.symm) dX11_bit_28 dX11_bit_31 dX11_bit_32 dX11_bit_34 dX11_bit_37 (fun x h => (hout x h).elim) (by decide) (by decide +kernel) (Nat.le_of_ble_eq_true rfl) (Nat.le_of_ble_eq_true rfl) hlocks (fun t hvm hz hk => ⟨(), trivial, ⟨rfl, zkeepP hP9 hk, va_K.moved hvm hK9, hD9⟩, zkeepF hS hz hk⟩) hS.2.2 (Nat.le_of_ble_eq_true rfl) (Nat.le_of_ble_eq_true rfl)
  · skip
    refine lv_iload_n hx hb dX11_bit_16 rfl (lv_at hl 2 rfl) ?_
    refine lv_aload_n hx hb dX11_bit_17 rfl (lv_at hl 1 rfl) ?_
    refine va_get (D := (dC, dI)) (ci := 11) (v := .ref h2) (C := RX11) (T := TX11) (N := 12) hx hb hG zuX11 hown hK hP 0 rfl rfl 4 (by decide) (hG _ zw69) (fun _ h9 => h9) rfl dX11_bit_18 ?_
    refine lv_iload_n hx hb dX11_bit_21 rfl (lv_at hl 0 rfl) ?_
    have hPc := hP.sub (ws' := []) [] rfl
    have hDc := hD.sub (ws' := []) [] (by decide) rfl
    have hKc := hK.sub (tys' := []) [] rfl
    have hFc := va_free (wc := []) hD hS hA [] rfl
    refine va_calli (va_runV (As := [.int (-1)]) (rest := [.int s0]) ⟨hx, hb, hml, hown, hG⟩ (kX6_bitsOf_0 l dC dI h2 H.size) (cwV 1 hG (zgV zw551 zw552 zw553 zw53 zw554) rfl rfl rfl (by decide +kernel) ⟨Nat.le_of_ble_eq_true rfl, Nat.le_of_ble_eq_true rfl⟩) ⟨zPc_blind, va_recv hK hP (ci := 6) (q0 := 1) rfl rfl, zPc_pre hPc hKc hDc hE hS hFc hZ⟩ rfl rfl hl.1 rfl (lv_room (Nat.le_of_ble_eq_true rfl)) dX11_bit_22 ⟨Nat.le_of_ble_eq_true rfl, Nat.le_of_ble_eq_true rfl⟩) hS (fun q _ h => hFc q h) hFc (fun r_5161 u t H1 locs ht hvm hw hB hz1 hk1 hS => ?_)
    have hw : r_5161 = 0 := hw
    subst hw
    obtain ⟨hP1, hK1, hD1⟩ := hB
    rw [ht] at hP1
    obtain ⟨hP, hD⟩ := va_join (wr := [(h0, .inr (11, [.ref u0, .ref h1, .ref u1, .ref u2, .ref h2, .ref u3, .ref u4, .ref u5, .ref u6, .ref u7, .null, .long (-1)])), (h2, .inr (6, [.ref u14, .ref u15, .ref u16, .ref u17, .ref u18, .ref u19, .ref u20, .ref u21, .int 0, .int 0, .int 0, .int 0])), (h1, .inr (10, [.int 400, .ref u8, .ref u9, .ref u10, .ref u11, .ref u12, .ref u13, .int 0]))]) (w1 := []) hP hD [] [0, 1, 2] rfl rfl (by decide) (by decide) hk1 hFc hP1 hD1
    generalize H1 = H at hP hS ⊢
    have hP : va_P (dC, dI) vwCl [(h0, .inr (11, [.ref u0, .ref h1, .ref u1, .ref u2, .ref h2, .ref u3, .ref u4, .ref u5, .ref u6, .ref u7, .null, .long (-1)])), (h2, .inr (6, [.ref u14, .ref u15, .ref u16, .ref u17, .ref u18, .ref u19, .ref u20, .ref u21, .int 0, .int 0, .int 0, .int 0])), (h1, .inr (10, [.int 400, .ref u8, .ref u9, .ref u10, .ref u11, .ref u12, .ref u13, .int 0]))] H := hP
    have hD : va_D A [(h0, .inr (11, [.ref u0, .ref h1, .ref u1, .ref u2, .ref h2, .ref u3, .ref u4, .ref u5, .ref u6, .ref u7, .null, .long (-1)])), (h2, .inr (6, [.ref u14, .ref u15, .ref u16, .ref u17, .ref u18, .ref u19, .ref u20, .ref u21, .int 0, .int 0, .int 0, .int 0])), (h1, .inr (10, [.int 400, .ref u8, .ref u9, .ref u10, .ref u11, .ref u12, .ref u13, .int 0]))] := hD
    refine lv_icmp_lt (tgt := 38) hx hb dX11_bit_25 (by decide) (fun c_5163 => False.elim (by simp only [Int32.lt_iff_toInt_lt, Int32.le_iff_toInt_le, zeqi, zlit] at c_5156 c_5163; omega)) (fun c_5163 => ?_)
    have hP9 := hP.sub (ws' := [(h0, .inr (11, [.ref u0, .ref h1, .ref u1, .ref u2, .ref h2, .ref u3, .ref u4, .ref u5, .ref u6, .ref u7, .null, .long (-1)])), (h1, .inr (10, [.int 400, .ref u8, .ref u9, .ref u10, .ref u11, .ref u12, .ref u13, .int 0])), (h2, .inr (6, [.ref u14, .ref u15, .ref u16, .ref u17, .ref u18, .ref u19, .ref u20, .ref u21, .int 0, .int 0, .int 0, .int 0]))]) [0, 2, 1] rfl
    have hD9 := hD.sub (ws' := [(h0, .inr (11, [.ref u0, .ref h1, .ref u1, .ref u2, .ref h2, .ref u3, .ref u4, .ref u5, .ref u6, .ref u7, .null, .long (-1)])), (h1, .inr (10, [.int 400, .ref u8, .ref u9, .ref u10, .ref u11, .ref u12, .ref u13, .int 0])), (h2, .inr (6, [.ref u14, .ref u15, .ref u16, .ref u17, .ref u18, .ref u19, .ref u20, .ref u21, .int 0, .int 0, .int 0, .int 0]))]) [0, 2, 1] (by decide) rfl
    have hK9 := hK.sub (tys' := []) [] rfl
    obtain ⟨sa, hstr⟩ := zE_S220 hE
    exact vx_throwS (names := ["java/lang/RuntimeException", "java/lang/Exception"]) (A := A) hx hb hl0 hown (by decide +kernel) (by decide +kernel) (hG _ zw489) (hG _ zw490) hstr (zhat hG hE) zAT_ot hZ.1 hZ.2 hS (hl.1.trans hml.symm) dX11_bit_28 dX11_bit_31 dX11_bit_32 dX11_bit_34 dX11_bit_37 (fun x h => (hout x h).elim) (by decide) (by decide +kernel) (Nat.le_of_ble_eq_true rfl) (Nat.le_of_ble_eq_true rfl) hlocks (fun t hvm hz hk => ⟨(), trivial, ⟨rfl, zkeepP hP9 hk, va_K.moved hvm hK9, hD9⟩, zkeepF hS hz hk⟩) hS.2.2 (Nat.le_of_ble_eq_true rfl) (Nat.le_of_ble_eq_true rfl)
set_option maxHeartbeats 4000000 in
set_option maxRecDepth 100000 in
theorem kL_bit_0 (l : Launch) (hl0 : l.stackTraces = false) (dC : Nat → ClassId) (dI : Nat → Nat → Nat) (h0 h1 h2 u0 u1 u2 u3 u4 u5 u6 u7 u8 u9 u10 u11 u12 u13 u14 u15 u16 u17 u18 u19 u20 u21 u22 : Nat) (sz : Nat) (s0 : Int32) : Met l yL_bit (.codeWith yL_bit cL_bit 4 (some .int) [(0, 9, 12, 13)] :: zG) { frames := 9, cells := 1, slots := 6, locals := 142 } (zPc dC dI [.ref h0, .int s0, .ref u0] sz [(h0, .inr (11, [.ref u1, .ref h1, .ref u2, .ref u3, .ref h2, .ref u4, .ref u5, .ref u6, .ref u7, .ref u8, .null, .long (-1)])), (h1, .inr (10, [.int 400, .ref u9, .ref u10, .ref u11, .ref u12, .ref u13, .ref u14, .int 0])), (h2, .inr (6, [.ref u15, .ref u16, .ref u17, .ref u18, .ref u19, .ref u20, .ref u21, .ref u22, .int 0, .int 0, .int 0, .int 0]))] []) (va_Qi (fun (r : Int32) (_ : Unit) => r = 1) (fun (_ : Unit) (t : State) => va_P (dC, dI) vwCl [(h0, .inr (11, [.ref u1, .ref h1, .ref u2, .ref u3, .ref h2, .ref u4, .ref u5, .ref u6, .ref u7, .ref u8, .null, .long (-1)])), (h1, .inr (10, [.int 400, .ref u9, .ref u10, .ref u11, .ref u12, .ref u13, .ref u14, .int 0])), (h2, .inr (6, [.ref u15, .ref u16, .ref u17, .ref u18, .ref u19, .ref u20, .ref u21, .ref u22, .int 0, .int 0, .int 0, .int 0]))] t.heap ∧ va_K (dC, dI) vwCl [] t ∧ va_D (va_A [(h0, .inr (11, [.ref u1, .ref h1, .ref u2, .ref u3, .ref h2, .ref u4, .ref u5, .ref u6, .ref u7, .ref u8, .null, .long (-1)])), (h1, .inr (10, [.int 400, .ref u9, .ref u10, .ref u11, .ref u12, .ref u13, .ref u14, .int 0])), (h2, .inr (6, [.ref u15, .ref u16, .ref u17, .ref u18, .ref u19, .ref u20, .ref u21, .ref u22, .int 0, .int 0, .int 0, .int 0]))] sz) [(h0, .inr (11, [.ref u1, .ref h1, .ref u2, .ref u3, .ref h2, .ref u4, .ref u5, .ref u6, .ref u7, .ref u8, .null, .long (-1)])), (h1, .inr (10, [.int 400, .ref u9, .ref u10, .ref u11, .ref u12, .ref u13, .ref u14, .int 0])), (h2, .inr (6, [.ref u15, .ref u16, .ref u17, .ref u18, .ref u19, .ref u20, .ref u21, .ref u22, .int 0, .int 0, .int 0, .int 0]))]) (va_A [(h0, .inr (11, [.ref u1, .ref h1, .ref u2, .ref u3, .ref h2, .ref u4, .ref u5, .ref u6, .ref u7, .ref u8, .null, .long (-1)])), (h1, .inr (10, [.int 400, .ref u9, .ref u10, .ref u11, .ref u12, .ref u13, .ref u14, .int 0])), (h2, .inr (6, [.ref u15, .ref u16, .ref u17, .ref u18, .ref u19, .ref u20, .ref u21, .ref u22, .int 0, .int 0, .int 0, .int 0]))] sz)) 1 6 (va_A [(h0, .inr (11, [.ref u1, .ref h1, .ref u2, .ref u3, .ref h2, .ref u4, .ref u5, .ref u6, .ref u7, .ref u8, .null, .long (-1)])), (h1, .inr (10, [.int 400, .ref u9, .ref u10, .ref u11, .ref u12, .ref u13, .ref u14, .int 0])), (h2, .inr (6, [.ref u15, .ref u16, .ref u17, .ref u18, .ref u19, .ref u20, .ref u21, .ref u22, .int 0, .int 0, .int 0, .int 0]))] sz) := by
  refine zmet_of (vx_ofWH (cc := cL_bit) (maxL := 4) (ret := (some .int)) (hh := [(0, 9, 12, 13)]) (by decide) rfl ?_)
  intro p e s m args below meth c s₁ B hml hv
  obtain ⟨rfl, hsz, hP, hK, hD0, hE, hZ⟩ := hv
  have hx := B.exec
  have hb := B.bytes
  have hr := B.returns
  have hG : ∀ w ∈ zG, w.before _ s = true := fun w h => atoms_spec (ws := (.codeWith yL_bit cL_bit 4 (some .int) [(0, 9, 12, 13)] :: zG)) B.pre w (List.mem_cons_of_mem _ h)
  have hown : s.vm.findClass RL = some m.cls := findClass_of_methodNamed B.named
  have hlocks := B.notSynchronized
  have htab : c.exceptionTable.toList = tableOf [(0, 9, 12, 13)] := vx_table (x := yL_law) B (atoms_spec (ws := (.codeWith yL_bit cL_bit 4 (some .int) [(0, 9, 12, 13)] :: zG)) B.pre _ List.mem_cons_self)
  subst hsz
  have hD := hD0.self (sz := s.heap.size)
  generalize hAe : va_A [(h0, .inr (11, [.ref u1, .ref h1, .ref u2, .ref u3, .ref h2, .ref u4, .ref u5, .ref u6, .ref u7, .ref u8, .null, .long (-1)])), (h1, .inr (10, [.int 400, .ref u9, .ref u10, .ref u11, .ref u12, .ref u13, .ref u14, .int 0])), (h2, .inr (6, [.ref u15, .ref u16, .ref u17, .ref u18, .ref u19, .ref u20, .ref u21, .ref u22, .int 0, .int 0, .int 0, .int 0]))] s.heap.size = A at hD hZ ⊢
  have hA : ∀ q : Nat, s.heap.size ≤ q → A q := fun q h => by rw [← hAe]; exact Or.inr h
  have hS : va_S A s.heap s.heap [] := va_S.rf
  have hl := lv_entry ([.ref h0, .int s0, .ref u0]) (n := 4) (Nat.le_of_ble_eq_true rfl)
  rw [lg_entry_eq]
  generalize (lg_sl ([.ref h0, .int s0, .ref u0]) ++ List.replicate (4 - (lg_sl ([.ref h0, .int s0, .ref u0])).length) Slot.unset).toArray = ls at hl ⊢
  have hl : lv_has ls 4 [(0, .ref h0), (1, .int s0), (2, .ref u0)] := hl
  refine lv_aload_n hx hb dL_bit_0 rfl (lv_at hl 2 rfl) ?_
  refine lv_iconst (v := 0) hx hb dL_bit_1 (by decide) ?_
  refine lv_aload_n hx hb dL_bit_2 rfl (lv_at hl 0 rfl) ?_
  refine lv_iload_n hx hb dL_bit_3 rfl (lv_at hl 1 rfl) ?_
  have hPc := hP.sub (ws' := [(h0, .inr (11, [.ref u1, .ref h1, .ref u2, .ref u3, .ref h2, .ref u4, .ref u5, .ref u6, .ref u7, .ref u8, .null, .long (-1)])), (h1, .inr (10, [.int 400, .ref u9, .ref u10, .ref u11, .ref u12, .ref u13, .ref u14, .int 0])), (h2, .inr (6, [.ref u15, .ref u16, .ref u17, .ref u18, .ref u19, .ref u20, .ref u21, .ref u22, .int 0, .int 0, .int 0, .int 0]))]) [0, 1, 2] rfl
  have hDc := hD.sub (ws' := [(h0, .inr (11, [.ref u1, .ref h1, .ref u2, .ref u3, .ref h2, .ref u4, .ref u5, .ref u6, .ref u7, .ref u8, .null, .long (-1)])), (h1, .inr (10, [.int 400, .ref u9, .ref u10, .ref u11, .ref u12, .ref u13, .ref u14, .int 0])), (h2, .inr (6, [.ref u15, .ref u16, .ref u17, .ref u18, .ref u19, .ref u20, .ref u21, .ref u22, .int 0, .int 0, .int 0, .int 0]))]) [0, 1, 2] (by decide) rfl
  have hKc := hK.sub (tys' := []) [] rfl
  have hFc := va_free (wc := [(h0, .inr (11, [.ref u1, .ref h1, .ref u2, .ref u3, .ref h2, .ref u4, .ref u5, .ref u6, .ref u7, .ref u8, .null, .long (-1)])), (h1, .inr (10, [.int 400, .ref u9, .ref u10, .ref u11, .ref u12, .ref u13, .ref u14, .int 0])), (h2, .inr (6, [.ref u15, .ref u16, .ref u17, .ref u18, .ref u19, .ref u20, .ref u21, .ref u22, .int 0, .int 0, .int 0, .int 0]))]) hD hS hA [0, 1, 2] rfl
  refine vx_calli (vx_runV (As := [.int s0]) (rest := [.int 0, .ref u0]) ⟨hx, hb, hml, hown, hG⟩ (kX11_bit_0 l hl0 dC dI h0 h1 h2 u1 u2 u3 u4 u5 u6 u7 u8 u9 u10 u11 u12 u13 u14 u15 u16 u17 u18 u19 u20 u21 u22 s.heap.size s0) (cwV 1 hG (zgV zw555 zw556 zw557 zw2 zw558) rfl rfl rfl (by decide +kernel) ⟨Nat.le_of_ble_eq_true rfl, Nat.le_of_ble_eq_true rfl⟩) ⟨zPc_blind, va_recv hKc hPc (ci := 11) (q0 := 0) rfl rfl, zPc_pre hPc hKc hDc hE hS hFc hZ⟩ rfl rfl hl.1 rfl (lv_room (Nat.le_of_ble_eq_true rfl)) dL_bit_4 ⟨Nat.le_of_ble_eq_true rfl, Nat.le_of_ble_eq_true rfl⟩) hS (fun q _ h => hFc q h) hFc (fun q _ h => hFc q h) (fun E ce q9 u t H1 locs ht hvm hpx hBX hz1 hk1 hS hce hcv hcl => ?_) (fun r u t H1 locs ht hvm hw => (hw : False).elim)
  obtain ⟨rfl, hP1, hK1, hD1⟩ := hBX
  rw [ht] at hP1
  obtain ⟨hP, hD⟩ := va_join (wr := []) (w1 := [(h0, .inr (11, [.ref u1, .ref h1, .ref u2, .ref u3, .ref h2, .ref u4, .ref u5, .ref u6, .ref u7, .ref u8, .null, .long (-1)])), (h1, .inr (10, [.int 400, .ref u9, .ref u10, .ref u11, .ref u12, .ref u13, .ref u14, .int 0])), (h2, .inr (6, [.ref u15, .ref u16, .ref u17, .ref u18, .ref u19, .ref u20, .ref u21, .ref u22, .int 0, .int 0, .int 0, .int 0]))]) hP hD [0, 1, 2] [] rfl rfl (by decide) (by decide) hk1 hFc hP1 hD1
  have hP : va_P (dC, dI) vwCl [(h0, .inr (11, [.ref u1, .ref h1, .ref u2, .ref u3, .ref h2, .ref u4, .ref u5, .ref u6, .ref u7, .ref u8, .null, .long (-1)])), (h1, .inr (10, [.int 400, .ref u9, .ref u10, .ref u11, .ref u12, .ref u13, .ref u14, .int 0])), (h2, .inr (6, [.ref u15, .ref u16, .ref u17, .ref u18, .ref u19, .ref u20, .ref u21, .ref u22, .int 0, .int 0, .int 0, .int 0]))] H1 := hP
  have hD : va_D A [(h0, .inr (11, [.ref u1, .ref h1, .ref u2, .ref u3, .ref h2, .ref u4, .ref u5, .ref u6, .ref u7, .ref u8, .null, .long (-1)])), (h1, .inr (10, [.int 400, .ref u9, .ref u10, .ref u11, .ref u12, .ref u13, .ref u14, .int 0])), (h2, .inr (6, [.ref u15, .ref u16, .ref u17, .ref u18, .ref u19, .ref u20, .ref u21, .ref u22, .int 0, .int 0, .int 0, .int 0]))] := hD
  refine z_catch (x := _) (suf := []) hown htab (by decide) (by decide) (hG _ zw495) (va_Nw.use rfl (zE_castI hE)) hce hcv hcl ?_
  refine W.widen (k := 1) (n := 6) (by decide) (by decide) ?_
  refine W.eq (g2 := F0 m 12 ls [.ref q9]) rfl ?_
  generalize H1 = H at hP hS ⊢
  have hP : va_P (dC, dI) vwCl [(h0, .inr (11, [.ref u1, .ref h1, .ref u2, .ref u3, .ref h2, .ref u4, .ref u5, .ref u6, .ref u7, .ref u8, .null, .long (-1)])), (h1, .inr (10, [.int 400, .ref u9, .ref u10, .ref u11, .ref u12, .ref u13, .ref u14, .int 0])), (h2, .inr (6, [.ref u15, .ref u16, .ref u17, .ref u18, .ref u19, .ref u20, .ref u21, .ref u22, .int 0, .int 0, .int 0, .int 0]))] H := hP
  refine lv_astore_n (lv' := [(3, .ref q9), (0, .ref h0), (1, .int s0), (2, .ref u0)]) hx hb dL_bit_12 rfl hl (by decide) rfl (fun ls hl => ?_)
  refine lv_iconst (v := 1) hx hb dL_bit_13 (by decide) ?_
  have hP9 := hP.sub (ws' := [(h0, .inr (11, [.ref u1, .ref h1, .ref u2, .ref u3, .ref h2, .ref u4, .ref u5, .ref u6, .ref u7, .ref u8, .null, .long (-1)])), (h1, .inr (10, [.int 400, .ref u9, .ref u10, .ref u11, .ref u12, .ref u13, .ref u14, .int 0])), (h2, .inr (6, [.ref u15, .ref u16, .ref u17, .ref u18, .ref u19, .ref u20, .ref u21, .ref u22, .int 0, .int 0, .int 0, .int 0]))]) [0, 1, 2] rfl
  have hD9 := hD.sub (ws' := [(h0, .inr (11, [.ref u1, .ref h1, .ref u2, .ref u3, .ref h2, .ref u4, .ref u5, .ref u6, .ref u7, .ref u8, .null, .long (-1)])), (h1, .inr (10, [.int 400, .ref u9, .ref u10, .ref u11, .ref u12, .ref u13, .ref u14, .int 0])), (h2, .inr (6, [.ref u15, .ref u16, .ref u17, .ref u18, .ref u19, .ref u20, .ref u21, .ref u22, .int 0, .int 0, .int 0, .int 0]))]) [0, 1, 2] (by decide) rfl
  have hK9 := hK.sub (tys' := []) [] rfl
  refine W.widen (k := 1) (n := 6) (by decide) (by decide) ?_
  exact vx_ret (W.iret (v := 1) hx hb hr (fun t ht hW => ⟨⟨1, (), rfl, rfl, by rw [ht]; exact hP9, va_K.moved hW.alike hK9, hD9⟩, hS.F ht⟩) hS.2.2 dL_bit_14)
set_option maxHeartbeats 4000000 in
set_option maxRecDepth 100000 in
theorem kX13_lookedWord_0 (l : Launch) (dC : Nat → ClassId) (dI : Nat → Nat → Nat) (h0 u0 u1 u2 u3 u4 u5 u6 u7 u8 u9 u10 u11 u12 u13 u14 u15 u16 u17 u18 u19 u20 u21 u22 u23 u24 u25 u26 u27 u28 u29 u30 u31 u32 u33 u34 u35 u36 u37 u38 u39 u40 u41 u42 u43 u44 u45 u46 u47 u48 : Nat) (sz : Nat) : Met l yX13_lookedWord (zw yX13_lookedWord cX13_lookedWord 2 (some .int)) { frames := 0, cells := 0, slots := 0, locals := 0 } (zPc dC dI [.ref h0] sz [(h0, .inr (13, [.ref u0, .int 0, .ref u1, .ref u2, .int 0, .ref u3, .ref u4, .ref u5, .ref u6, .ref u7, .ref u8, .ref u9, .ref u10, .int 0, .ref u11, .ref u12, .int 0, .ref u13, .int (-1), .ref u14, .int 0, .int 0, .ref u15, .int 0, .int 0, .ref u16, .ref u17, .ref u18, .ref u19, .ref u20, .int 0, .ref u21, .int 0, .int 0, .int 0, .int 0, .int 0, .int 0, .ref u22, .ref u23, .ref u24, .ref u25, .int 0, .ref u26, .ref u27, .ref u28, .ref u29, .int 0, .ref u30, .ref u31, .int 0, .int 0, .ref u32, .int 0, .int 0, .int 0, .ref u33, .ref u34, .ref u35, .int 0, .int 0, .ref u36, .ref u37, .ref u38, .ref u39, .ref u40, .ref u41, .ref u42, .ref u43, .ref u44, .ref u45, .int 0, .ref u46, .ref u47, .ref u48]))] []) (va_Qi (fun (r : Int32) (_ : Unit) => r = (-1)) (fun (_ : Unit) (t : State) => va_P (dC, dI) vwCl [(h0, .inr (13, [.ref u0, .int 0, .ref u1, .ref u2, .int 0, .ref u3, .ref u4, .ref u5, .ref u6, .ref u7, .ref u8, .ref u9, .ref u10, .int 0, .ref u11, .ref u12, .int 0, .ref u13, .int (-1), .ref u14, .int 0, .int 0, .ref u15, .int 0, .int 0, .ref u16, .ref u17, .ref u18, .ref u19, .ref u20, .int 0, .ref u21, .int 0, .int 0, .int 0, .int 0, .int 0, .int 0, .ref u22, .ref u23, .ref u24, .ref u25, .int 0, .ref u26, .ref u27, .ref u28, .ref u29, .int 0, .ref u30, .ref u31, .int 0, .int 0, .ref u32, .int 0, .int 0, .int 0, .ref u33, .ref u34, .ref u35, .int 0, .int 0, .ref u36, .ref u37, .ref u38, .ref u39, .ref u40, .ref u41, .ref u42, .ref u43, .ref u44, .ref u45, .int 0, .ref u46, .ref u47, .ref u48]))] t.heap ∧ va_K (dC, dI) vwCl [] t ∧ va_D (va_A [(h0, .inr (13, [.ref u0, .int 0, .ref u1, .ref u2, .int 0, .ref u3, .ref u4, .ref u5, .ref u6, .ref u7, .ref u8, .ref u9, .ref u10, .int 0, .ref u11, .ref u12, .int 0, .ref u13, .int (-1), .ref u14, .int 0, .int 0, .ref u15, .int 0, .int 0, .ref u16, .ref u17, .ref u18, .ref u19, .ref u20, .int 0, .ref u21, .int 0, .int 0, .int 0, .int 0, .int 0, .int 0, .ref u22, .ref u23, .ref u24, .ref u25, .int 0, .ref u26, .ref u27, .ref u28, .ref u29, .int 0, .ref u30, .ref u31, .int 0, .int 0, .ref u32, .int 0, .int 0, .int 0, .ref u33, .ref u34, .ref u35, .int 0, .int 0, .ref u36, .ref u37, .ref u38, .ref u39, .ref u40, .ref u41, .ref u42, .ref u43, .ref u44, .ref u45, .int 0, .ref u46, .ref u47, .ref u48]))] sz) [(h0, .inr (13, [.ref u0, .int 0, .ref u1, .ref u2, .int 0, .ref u3, .ref u4, .ref u5, .ref u6, .ref u7, .ref u8, .ref u9, .ref u10, .int 0, .ref u11, .ref u12, .int 0, .ref u13, .int (-1), .ref u14, .int 0, .int 0, .ref u15, .int 0, .int 0, .ref u16, .ref u17, .ref u18, .ref u19, .ref u20, .int 0, .ref u21, .int 0, .int 0, .int 0, .int 0, .int 0, .int 0, .ref u22, .ref u23, .ref u24, .ref u25, .int 0, .ref u26, .ref u27, .ref u28, .ref u29, .int 0, .ref u30, .ref u31, .int 0, .int 0, .ref u32, .int 0, .int 0, .int 0, .ref u33, .ref u34, .ref u35, .int 0, .int 0, .ref u36, .ref u37, .ref u38, .ref u39, .ref u40, .ref u41, .ref u42, .ref u43, .ref u44, .ref u45, .int 0, .ref u46, .ref u47, .ref u48]))]) (va_A [(h0, .inr (13, [.ref u0, .int 0, .ref u1, .ref u2, .int 0, .ref u3, .ref u4, .ref u5, .ref u6, .ref u7, .ref u8, .ref u9, .ref u10, .int 0, .ref u11, .ref u12, .int 0, .ref u13, .int (-1), .ref u14, .int 0, .int 0, .ref u15, .int 0, .int 0, .ref u16, .ref u17, .ref u18, .ref u19, .ref u20, .int 0, .ref u21, .int 0, .int 0, .int 0, .int 0, .int 0, .int 0, .ref u22, .ref u23, .ref u24, .ref u25, .int 0, .ref u26, .ref u27, .ref u28, .ref u29, .int 0, .ref u30, .ref u31, .int 0, .int 0, .ref u32, .int 0, .int 0, .int 0, .ref u33, .ref u34, .ref u35, .int 0, .int 0, .ref u36, .ref u37, .ref u38, .ref u39, .ref u40, .ref u41, .ref u42, .ref u43, .ref u44, .ref u45, .int 0, .ref u46, .ref u47, .ref u48]))] sz)) 0 0 (va_A [(h0, .inr (13, [.ref u0, .int 0, .ref u1, .ref u2, .int 0, .ref u3, .ref u4, .ref u5, .ref u6, .ref u7, .ref u8, .ref u9, .ref u10, .int 0, .ref u11, .ref u12, .int 0, .ref u13, .int (-1), .ref u14, .int 0, .int 0, .ref u15, .int 0, .int 0, .ref u16, .ref u17, .ref u18, .ref u19, .ref u20, .int 0, .ref u21, .int 0, .int 0, .int 0, .int 0, .int 0, .int 0, .ref u22, .ref u23, .ref u24, .ref u25, .int 0, .ref u26, .ref u27, .ref u28, .ref u29, .int 0, .ref u30, .ref u31, .int 0, .int 0, .ref u32, .int 0, .int 0, .int 0, .ref u33, .ref u34, .ref u35, .int 0, .int 0, .ref u36, .ref u37, .ref u38, .ref u39, .ref u40, .ref u41, .ref u42, .ref u43, .ref u44, .ref u45, .int 0, .ref u46, .ref u47, .ref u48]))] sz) := by
  refine Met.ofW (cc := cX13_lookedWord) (maxL := 2) (ret := (some .int)) (by decide) rfl ?_
  intro p e s m args below meth c s₁ B hml hv
  obtain ⟨rfl, hsz, hP, hK, hD0, hE, hZ⟩ := hv
  have hx := B.exec
  have hb := B.bytes
  have hr := B.returns
  have hG : ∀ w ∈ zG, w.before _ s = true := fun w h => atoms_spec (ws := (zw yX13_lookedWord cX13_lookedWord 2 (some .int))) B.pre w (List.mem_cons_of_mem _ h)
  have hown : s.vm.findClass RX13 = some m.cls := findClass_of_methodNamed B.named
  have hlocks := B.notSynchronized
  subst hsz
  have hD := hD0.self (sz := s.heap.size)
  generalize hAe : va_A [(h0, .inr (13, [.ref u0, .int 0, .ref u1, .ref u2, .int 0, .ref u3, .ref u4, .ref u5, .ref u6, .ref u7, .ref u8, .ref u9, .ref u10, .int 0, .ref u11, .ref u12, .int 0, .ref u13, .int (-1), .ref u14, .int 0, .int 0, .ref u15, .int 0, .int 0, .ref u16, .ref u17, .ref u18, .ref u19, .ref u20, .int 0, .ref u21, .int 0, .int 0, .int 0, .int 0, .int 0, .int 0, .ref u22, .ref u23, .ref u24, .ref u25, .int 0, .ref u26, .ref u27, .ref u28, .ref u29, .int 0, .ref u30, .ref u31, .int 0, .int 0, .ref u32, .int 0, .int 0, .int 0, .ref u33, .ref u34, .ref u35, .int 0, .int 0, .ref u36, .ref u37, .ref u38, .ref u39, .ref u40, .ref u41, .ref u42, .ref u43, .ref u44, .ref u45, .int 0, .ref u46, .ref u47, .ref u48]))] s.heap.size = A at hD hZ ⊢
  have hA : ∀ q : Nat, s.heap.size ≤ q → A q := fun q h => by rw [← hAe]; exact Or.inr h
  have hS : va_S A s.heap s.heap [] := va_S.rf
  have hl := lv_entry ([.ref h0]) (n := 2) (Nat.le_of_ble_eq_true rfl)
  rw [lg_entry_eq]
  generalize (lg_sl ([.ref h0]) ++ List.replicate (2 - (lg_sl ([.ref h0])).length) Slot.unset).toArray = ls at hl ⊢
  have hl : lv_has ls 2 [(0, .ref h0)] := hl
  refine lv_aload_n hx hb dX13_lookedWord_0 rfl (lv_at hl 0 rfl) ?_
  refine va_get (D := (dC, dI)) (ci := 13) (v := .int (-1)) (C := RX13) (T := TX13) (N := 75) hx hb hG zuX13 hown hK hP 0 rfl rfl 18 (by decide) (hG _ zw225) (fun _ h9 => h9) rfl dX13_lookedWord_1 ?_
  refine lv_if_gt (tgt := 9) hx hb dX13_lookedWord_4 (by decide) (fun c_5207 => absurd c_5207 (by decide)) (fun c_5207 => ?_)
  refine lv_iconst (v := (-1)) hx hb dX13_lookedWord_7 (by decide) ?_
  have hP9 := hP.sub (ws' := [(h0, .inr (13, [.ref u0, .int 0, .ref u1, .ref u2, .int 0, .ref u3, .ref u4, .ref u5, .ref u6, .ref u7, .ref u8, .ref u9, .ref u10, .int 0, .ref u11, .ref u12, .int 0, .ref u13, .int (-1), .ref u14, .int 0, .int 0, .ref u15, .int 0, .int 0, .ref u16, .ref u17, .ref u18, .ref u19, .ref u20, .int 0, .ref u21, .int 0, .int 0, .int 0, .int 0, .int 0, .int 0, .ref u22, .ref u23, .ref u24, .ref u25, .int 0, .ref u26, .ref u27, .ref u28, .ref u29, .int 0, .ref u30, .ref u31, .int 0, .int 0, .ref u32, .int 0, .int 0, .int 0, .ref u33, .ref u34, .ref u35, .int 0, .int 0, .ref u36, .ref u37, .ref u38, .ref u39, .ref u40, .ref u41, .ref u42, .ref u43, .ref u44, .ref u45, .int 0, .ref u46, .ref u47, .ref u48]))]) [0] rfl
  have hD9 := hD.sub (ws' := [(h0, .inr (13, [.ref u0, .int 0, .ref u1, .ref u2, .int 0, .ref u3, .ref u4, .ref u5, .ref u6, .ref u7, .ref u8, .ref u9, .ref u10, .int 0, .ref u11, .ref u12, .int 0, .ref u13, .int (-1), .ref u14, .int 0, .int 0, .ref u15, .int 0, .int 0, .ref u16, .ref u17, .ref u18, .ref u19, .ref u20, .int 0, .ref u21, .int 0, .int 0, .int 0, .int 0, .int 0, .int 0, .ref u22, .ref u23, .ref u24, .ref u25, .int 0, .ref u26, .ref u27, .ref u28, .ref u29, .int 0, .ref u30, .ref u31, .int 0, .int 0, .ref u32, .int 0, .int 0, .int 0, .ref u33, .ref u34, .ref u35, .int 0, .int 0, .ref u36, .ref u37, .ref u38, .ref u39, .ref u40, .ref u41, .ref u42, .ref u43, .ref u44, .ref u45, .int 0, .ref u46, .ref u47, .ref u48]))]) [0] (by decide) rfl
  have hK9 := hK.sub (tys' := []) [] rfl
  refine W.widen (k := 0) (n := 0) (by decide) (by decide) ?_
  exact W.iret (v := (-1)) hx hb hr (fun t ht hW => ⟨⟨(-1), (), rfl, rfl, by rw [ht]; exact hP9, va_K.moved hW.alike hK9, hD9⟩, hS.F ht⟩) hS.2.2 dX13_lookedWord_8
set_option maxHeartbeats 4000000 in
set_option maxRecDepth 100000 in
theorem kX13_bit_0 (l : Launch) (dC : Nat → ClassId) (dI : Nat → Nat → Nat) (h0 u0 u1 u2 u3 u4 u5 u6 u7 u8 u9 u10 u11 u12 u13 u14 u15 u16 u17 u18 u19 u20 u21 u22 u23 u24 u25 u26 u27 u28 u29 u30 u31 u32 u33 u34 u35 u36 u37 u38 u39 u40 u41 u42 u43 u44 u45 u46 u47 u48 : Nat) (sz : Nat) (s0 : Int32) : Met l yX13_bit (zw yX13_bit cX13_bit 3 (some .int)) { frames := 1, cells := 0, slots := 0, locals := 21 } (zPc dC dI [.ref h0, .int s0] sz [(h0, .inr (13, [.ref u0, .int 0, .ref u1, .ref u2, .int 0, .ref u3, .ref u4, .ref u5, .ref u6, .ref u7, .ref u8, .ref u9, .ref u10, .int 0, .ref u11, .ref u12, .int 0, .ref u13, .int (-1), .ref u14, .int 0, .int 0, .ref u15, .int 0, .int 0, .ref u16, .ref u17, .ref u18, .ref u19, .ref u20, .int 0, .ref u21, .int 0, .int 0, .int 0, .int 0, .int 0, .int 0, .ref u22, .ref u23, .ref u24, .ref u25, .int 0, .ref u26, .ref u27, .ref u28, .ref u29, .int 0, .ref u30, .ref u31, .int 0, .int 0, .ref u32, .int 0, .int 0, .int 0, .ref u33, .ref u34, .ref u35, .int 0, .int 0, .ref u36, .ref u37, .ref u38, .ref u39, .ref u40, .ref u41, .ref u42, .ref u43, .ref u44, .ref u45, .int 0, .ref u46, .ref u47, .ref u48]))] []) (va_Qi (fun (r : Int32) (_ : Unit) => r = 0) (fun (_ : Unit) (t : State) => va_P (dC, dI) vwCl [(h0, .inr (13, [.ref u0, .int 0, .ref u1, .ref u2, .int 0, .ref u3, .ref u4, .ref u5, .ref u6, .ref u7, .ref u8, .ref u9, .ref u10, .int 0, .ref u11, .ref u12, .int 0, .ref u13, .int (-1), .ref u14, .int 0, .int 1, .ref u15, .int 0, .int 0, .ref u16, .ref u17, .ref u18, .ref u19, .ref u20, .int 0, .ref u21, .int 0, .int 0, .int 0, .int 0, .int 0, .int 0, .ref u22, .ref u23, .ref u24, .ref u25, .int 0, .ref u26, .ref u27, .ref u28, .ref u29, .int 0, .ref u30, .ref u31, .int 0, .int 0, .ref u32, .int 0, .int 0, .int 0, .ref u33, .ref u34, .ref u35, .int 0, .int 0, .ref u36, .ref u37, .ref u38, .ref u39, .ref u40, .ref u41, .ref u42, .ref u43, .ref u44, .ref u45, .int 0, .ref u46, .ref u47, .ref u48]))] t.heap ∧ va_K (dC, dI) vwCl [] t ∧ va_D (va_A [(h0, .inr (13, [.ref u0, .int 0, .ref u1, .ref u2, .int 0, .ref u3, .ref u4, .ref u5, .ref u6, .ref u7, .ref u8, .ref u9, .ref u10, .int 0, .ref u11, .ref u12, .int 0, .ref u13, .int (-1), .ref u14, .int 0, .int 0, .ref u15, .int 0, .int 0, .ref u16, .ref u17, .ref u18, .ref u19, .ref u20, .int 0, .ref u21, .int 0, .int 0, .int 0, .int 0, .int 0, .int 0, .ref u22, .ref u23, .ref u24, .ref u25, .int 0, .ref u26, .ref u27, .ref u28, .ref u29, .int 0, .ref u30, .ref u31, .int 0, .int 0, .ref u32, .int 0, .int 0, .int 0, .ref u33, .ref u34, .ref u35, .int 0, .int 0, .ref u36, .ref u37, .ref u38, .ref u39, .ref u40, .ref u41, .ref u42, .ref u43, .ref u44, .ref u45, .int 0, .ref u46, .ref u47, .ref u48]))] sz) [(h0, .inr (13, [.ref u0, .int 0, .ref u1, .ref u2, .int 0, .ref u3, .ref u4, .ref u5, .ref u6, .ref u7, .ref u8, .ref u9, .ref u10, .int 0, .ref u11, .ref u12, .int 0, .ref u13, .int (-1), .ref u14, .int 0, .int 1, .ref u15, .int 0, .int 0, .ref u16, .ref u17, .ref u18, .ref u19, .ref u20, .int 0, .ref u21, .int 0, .int 0, .int 0, .int 0, .int 0, .int 0, .ref u22, .ref u23, .ref u24, .ref u25, .int 0, .ref u26, .ref u27, .ref u28, .ref u29, .int 0, .ref u30, .ref u31, .int 0, .int 0, .ref u32, .int 0, .int 0, .int 0, .ref u33, .ref u34, .ref u35, .int 0, .int 0, .ref u36, .ref u37, .ref u38, .ref u39, .ref u40, .ref u41, .ref u42, .ref u43, .ref u44, .ref u45, .int 0, .ref u46, .ref u47, .ref u48]))]) (va_A [(h0, .inr (13, [.ref u0, .int 0, .ref u1, .ref u2, .int 0, .ref u3, .ref u4, .ref u5, .ref u6, .ref u7, .ref u8, .ref u9, .ref u10, .int 0, .ref u11, .ref u12, .int 0, .ref u13, .int (-1), .ref u14, .int 0, .int 0, .ref u15, .int 0, .int 0, .ref u16, .ref u17, .ref u18, .ref u19, .ref u20, .int 0, .ref u21, .int 0, .int 0, .int 0, .int 0, .int 0, .int 0, .ref u22, .ref u23, .ref u24, .ref u25, .int 0, .ref u26, .ref u27, .ref u28, .ref u29, .int 0, .ref u30, .ref u31, .int 0, .int 0, .ref u32, .int 0, .int 0, .int 0, .ref u33, .ref u34, .ref u35, .int 0, .int 0, .ref u36, .ref u37, .ref u38, .ref u39, .ref u40, .ref u41, .ref u42, .ref u43, .ref u44, .ref u45, .int 0, .ref u46, .ref u47, .ref u48]))] sz)) 0 0 (va_A [(h0, .inr (13, [.ref u0, .int 0, .ref u1, .ref u2, .int 0, .ref u3, .ref u4, .ref u5, .ref u6, .ref u7, .ref u8, .ref u9, .ref u10, .int 0, .ref u11, .ref u12, .int 0, .ref u13, .int (-1), .ref u14, .int 0, .int 0, .ref u15, .int 0, .int 0, .ref u16, .ref u17, .ref u18, .ref u19, .ref u20, .int 0, .ref u21, .int 0, .int 0, .int 0, .int 0, .int 0, .int 0, .ref u22, .ref u23, .ref u24, .ref u25, .int 0, .ref u26, .ref u27, .ref u28, .ref u29, .int 0, .ref u30, .ref u31, .int 0, .int 0, .ref u32, .int 0, .int 0, .int 0, .ref u33, .ref u34, .ref u35, .int 0, .int 0, .ref u36, .ref u37, .ref u38, .ref u39, .ref u40, .ref u41, .ref u42, .ref u43, .ref u44, .ref u45, .int 0, .ref u46, .ref u47, .ref u48]))] sz) := by
  refine Met.ofW (cc := cX13_bit) (maxL := 3) (ret := (some .int)) (by decide) rfl ?_
  intro p e s m args below meth c s₁ B hml hv
  obtain ⟨rfl, hsz, hP, hK, hD0, hE, hZ⟩ := hv
  have hx := B.exec
  have hb := B.bytes
  have hr := B.returns
  have hG : ∀ w ∈ zG, w.before _ s = true := fun w h => atoms_spec (ws := (zw yX13_bit cX13_bit 3 (some .int))) B.pre w (List.mem_cons_of_mem _ h)
  have hown : s.vm.findClass RX13 = some m.cls := findClass_of_methodNamed B.named
  have hlocks := B.notSynchronized
  subst hsz
  have hD := hD0.self (sz := s.heap.size)
  generalize hAe : va_A [(h0, .inr (13, [.ref u0, .int 0, .ref u1, .ref u2, .int 0, .ref u3, .ref u4, .ref u5, .ref u6, .ref u7, .ref u8, .ref u9, .ref u10, .int 0, .ref u11, .ref u12, .int 0, .ref u13, .int (-1), .ref u14, .int 0, .int 0, .ref u15, .int 0, .int 0, .ref u16, .ref u17, .ref u18, .ref u19, .ref u20, .int 0, .ref u21, .int 0, .int 0, .int 0, .int 0, .int 0, .int 0, .ref u22, .ref u23, .ref u24, .ref u25, .int 0, .ref u26, .ref u27, .ref u28, .ref u29, .int 0, .ref u30, .ref u31, .int 0, .int 0, .ref u32, .int 0, .int 0, .int 0, .ref u33, .ref u34, .ref u35, .int 0, .int 0, .ref u36, .ref u37, .ref u38, .ref u39, .ref u40, .ref u41, .ref u42, .ref u43, .ref u44, .ref u45, .int 0, .ref u46, .ref u47, .ref u48]))] s.heap.size = A at hD hZ ⊢
  have hA : ∀ q : Nat, s.heap.size ≤ q → A q := fun q h => by rw [← hAe]; exact Or.inr h
  have hS : va_S A s.heap s.heap [] := va_S.rf
  have hl := lv_entry ([.ref h0, .int s0]) (n := 3) (Nat.le_of_ble_eq_true rfl)
  rw [lg_entry_eq]
  generalize (lg_sl ([.ref h0, .int s0]) ++ List.replicate (3 - (lg_sl ([.ref h0, .int s0])).length) Slot.unset).toArray = ls at hl ⊢
  have hl : lv_has ls 3 [(0, .ref h0), (1, .int s0)] := hl
  refine lv_aload_n hx hb dX13_bit_0 rfl (lv_at hl 0 rfl) ?_
  refine lv_iconst (v := 0) hx hb dX13_bit_1 (by decide) ?_
  refine va_put (D := (dC, dI)) (ci := 13) (v := .int 0) (ty := .int) (C := RX13) (T := TX13) (N := 75) hx hb hG zuX13 tyX13 tyX13_ok nmX13 hown hK hP hD hS 0 rfl rfl 21 (by decide) (hG _ zw302) (fun _ h9 => h9) rfl (by decide +kernel) rfl rfl (Nat.le_of_ble_eq_true rfl) dX13_bit_2 (fun H locs hP hD hS => ?_)
  have hP : va_P (dC, dI) vwCl [(h0, .inr (13, [.ref u0, .int 0, .ref u1, .ref u2, .int 0, .ref u3, .ref u4, .ref u5, .ref u6, .ref u7, .ref u8, .ref u9, .ref u10, .int 0, .ref u11, .ref u12, .int 0, .ref u13, .int (-1), .ref u14, .int 0, .int 0, .ref u15, .int 0, .int 0, .ref u16, .ref u17, .ref u18, .ref u19, .ref u20, .int 0, .ref u21, .int 0, .int 0, .int 0, .int 0, .int 0, .int 0, .ref u22, .ref u23, .ref u24, .ref u25, .int 0, .ref u26, .ref u27, .ref u28, .ref u29, .int 0, .ref u30, .ref u31, .int 0, .int 0, .ref u32, .int 0, .int 0, .int 0, .ref u33, .ref u34, .ref u35, .int 0, .int 0, .ref u36, .ref u37, .ref u38, .ref u39, .ref u40, .ref u41, .ref u42, .ref u43, .ref u44, .ref u45, .int 0, .ref u46, .ref u47, .ref u48]))] H := hP
  have hD : va_D A [(h0, .inr (13, [.ref u0, .int 0, .ref u1, .ref u2, .int 0, .ref u3, .ref u4, .ref u5, .ref u6, .ref u7, .ref u8, .ref u9, .ref u10, .int 0, .ref u11, .ref u12, .int 0, .ref u13, .int (-1), .ref u14, .int 0, .int 0, .ref u15, .int 0, .int 0, .ref u16, .ref u17, .ref u18, .ref u19, .ref u20, .int 0, .ref u21, .int 0, .int 0, .int 0, .int 0, .int 0, .int 0, .ref u22, .ref u23, .ref u24, .ref u25, .int 0, .ref u26, .ref u27, .ref u28, .ref u29, .int 0, .ref u30, .ref u31, .int 0, .int 0, .ref u32, .int 0, .int 0, .int 0, .ref u33, .ref u34, .ref u35, .int 0, .int 0, .ref u36, .ref u37, .ref u38, .ref u39, .ref u40, .ref u41, .ref u42, .ref u43, .ref u44, .ref u45, .int 0, .ref u46, .ref u47, .ref u48]))] := hD
  refine lv_aload_n hx hb dX13_bit_5 rfl (lv_at hl 0 rfl) ?_
  have hPc := hP.sub (ws' := [(h0, .inr (13, [.ref u0, .int 0, .ref u1, .ref u2, .int 0, .ref u3, .ref u4, .ref u5, .ref u6, .ref u7, .ref u8, .ref u9, .ref u10, .int 0, .ref u11, .ref u12, .int 0, .ref u13, .int (-1), .ref u14, .int 0, .int 0, .ref u15, .int 0, .int 0, .ref u16, .ref u17, .ref u18, .ref u19, .ref u20, .int 0, .ref u21, .int 0, .int 0, .int 0, .int 0, .int 0, .int 0, .ref u22, .ref u23, .ref u24, .ref u25, .int 0, .ref u26, .ref u27, .ref u28, .ref u29, .int 0, .ref u30, .ref u31, .int 0, .int 0, .ref u32, .int 0, .int 0, .int 0, .ref u33, .ref u34, .ref u35, .int 0, .int 0, .ref u36, .ref u37, .ref u38, .ref u39, .ref u40, .ref u41, .ref u42, .ref u43, .ref u44, .ref u45, .int 0, .ref u46, .ref u47, .ref u48]))]) [0] rfl
  have hDc := hD.sub (ws' := [(h0, .inr (13, [.ref u0, .int 0, .ref u1, .ref u2, .int 0, .ref u3, .ref u4, .ref u5, .ref u6, .ref u7, .ref u8, .ref u9, .ref u10, .int 0, .ref u11, .ref u12, .int 0, .ref u13, .int (-1), .ref u14, .int 0, .int 0, .ref u15, .int 0, .int 0, .ref u16, .ref u17, .ref u18, .ref u19, .ref u20, .int 0, .ref u21, .int 0, .int 0, .int 0, .int 0, .int 0, .int 0, .ref u22, .ref u23, .ref u24, .ref u25, .int 0, .ref u26, .ref u27, .ref u28, .ref u29, .int 0, .ref u30, .ref u31, .int 0, .int 0, .ref u32, .int 0, .int 0, .int 0, .ref u33, .ref u34, .ref u35, .int 0, .int 0, .ref u36, .ref u37, .ref u38, .ref u39, .ref u40, .ref u41, .ref u42, .ref u43, .ref u44, .ref u45, .int 0, .ref u46, .ref u47, .ref u48]))]) [0] (by decide) rfl
  have hKc := hK.sub (tys' := []) [] rfl
  have hFc := va_free (wc := [(h0, .inr (13, [.ref u0, .int 0, .ref u1, .ref u2, .int 0, .ref u3, .ref u4, .ref u5, .ref u6, .ref u7, .ref u8, .ref u9, .ref u10, .int 0, .ref u11, .ref u12, .int 0, .ref u13, .int (-1), .ref u14, .int 0, .int 0, .ref u15, .int 0, .int 0, .ref u16, .ref u17, .ref u18, .ref u19, .ref u20, .int 0, .ref u21, .int 0, .int 0, .int 0, .int 0, .int 0, .int 0, .ref u22, .ref u23, .ref u24, .ref u25, .int 0, .ref u26, .ref u27, .ref u28, .ref u29, .int 0, .ref u30, .ref u31, .int 0, .int 0, .ref u32, .int 0, .int 0, .int 0, .ref u33, .ref u34, .ref u35, .int 0, .int 0, .ref u36, .ref u37, .ref u38, .ref u39, .ref u40, .ref u41, .ref u42, .ref u43, .ref u44, .ref u45, .int 0, .ref u46, .ref u47, .ref u48]))]) hD hS hA [0] rfl
  refine va_calli (va_runV (As := []) (rest := []) ⟨hx, hb, hml, hown, hG⟩ (kX13_lookedWord_0 l dC dI h0 u0 u1 u2 u3 u4 u5 u6 u7 u8 u9 u10 u11 u12 u13 u14 u15 u16 u17 u18 u19 u20 u21 u22 u23 u24 u25 u26 u27 u28 u29 u30 u31 u32 u33 u34 u35 u36 u37 u38 u39 u40 u41 u42 u43 u44 u45 u46 u47 u48 H.size) (cwV 0 hG (zgV zw562 zw563 zw564 zw207 zw565) rfl rfl rfl (by decide +kernel) ⟨Nat.le_of_ble_eq_true rfl, Nat.le_of_ble_eq_true rfl⟩) ⟨zPc_blind, va_recv hKc hPc (ci := 13) (q0 := 0) rfl rfl, zPc_pre hPc hKc hDc hE hS hFc hZ⟩ rfl rfl hl.1 rfl (lv_room (Nat.le_of_ble_eq_true rfl)) dX13_bit_6 ⟨Nat.le_of_ble_eq_true rfl, Nat.le_of_ble_eq_true rfl⟩) hS (fun q _ h => hFc q h) hFc (fun r_5220 u t H1 locs ht hvm hw hB hz1 hk1 hS => ?_)
  have hw : r_5220 = (-1) := hw
  subst hw
  obtain ⟨hP1, hK1, hD1⟩ := hB
  rw [ht] at hP1
  obtain ⟨hP, hD⟩ := va_join (wr := []) (w1 := [(h0, .inr (13, [.ref u0, .int 0, .ref u1, .ref u2, .int 0, .ref u3, .ref u4, .ref u5, .ref u6, .ref u7, .ref u8, .ref u9, .ref u10, .int 0, .ref u11, .ref u12, .int 0, .ref u13, .int (-1), .ref u14, .int 0, .int 0, .ref u15, .int 0, .int 0, .ref u16, .ref u17, .ref u18, .ref u19, .ref u20, .int 0, .ref u21, .int 0, .int 0, .int 0, .int 0, .int 0, .int 0, .ref u22, .ref u23, .ref u24, .ref u25, .int 0, .ref u26, .ref u27, .ref u28, .ref u29, .int 0, .ref u30, .ref u31, .int 0, .int 0, .ref u32, .int 0, .int 0, .int 0, .ref u33, .ref u34, .ref u35, .int 0, .int 0, .ref u36, .ref u37, .ref u38, .ref u39, .ref u40, .ref u41, .ref u42, .ref u43, .ref u44, .ref u45, .int 0, .ref u46, .ref u47, .ref u48]))]) hP hD [0] [] rfl rfl (by decide) (by decide) hk1 hFc hP1 hD1
  generalize H1 = H at hP hS ⊢
  have hP : va_P (dC, dI) vwCl [(h0, .inr (13, [.ref u0, .int 0, .ref u1, .ref u2, .int 0, .ref u3, .ref u4, .ref u5, .ref u6, .ref u7, .ref u8, .ref u9, .ref u10, .int 0, .ref u11, .ref u12, .int 0, .ref u13, .int (-1), .ref u14, .int 0, .int 0, .ref u15, .int 0, .int 0, .ref u16, .ref u17, .ref u18, .ref u19, .ref u20, .int 0, .ref u21, .int 0, .int 0, .int 0, .int 0, .int 0, .int 0, .ref u22, .ref u23, .ref u24, .ref u25, .int 0, .ref u26, .ref u27, .ref u28, .ref u29, .int 0, .ref u30, .ref u31, .int 0, .int 0, .ref u32, .int 0, .int 0, .int 0, .ref u33, .ref u34, .ref u35, .int 0, .int 0, .ref u36, .ref u37, .ref u38, .ref u39, .ref u40, .ref u41, .ref u42, .ref u43, .ref u44, .ref u45, .int 0, .ref u46, .ref u47, .ref u48]))] H := hP
  have hD : va_D A [(h0, .inr (13, [.ref u0, .int 0, .ref u1, .ref u2, .int 0, .ref u3, .ref u4, .ref u5, .ref u6, .ref u7, .ref u8, .ref u9, .ref u10, .int 0, .ref u11, .ref u12, .int 0, .ref u13, .int (-1), .ref u14, .int 0, .int 0, .ref u15, .int 0, .int 0, .ref u16, .ref u17, .ref u18, .ref u19, .ref u20, .int 0, .ref u21, .int 0, .int 0, .int 0, .int 0, .int 0, .int 0, .ref u22, .ref u23, .ref u24, .ref u25, .int 0, .ref u26, .ref u27, .ref u28, .ref u29, .int 0, .ref u30, .ref u31, .int 0, .int 0, .ref u32, .int 0, .int 0, .int 0, .ref u33, .ref u34, .ref u35, .int 0, .int 0, .ref u36, .ref u37, .ref u38, .ref u39, .ref u40, .ref u41, .ref u42, .ref u43, .ref u44, .ref u45, .int 0, .ref u46, .ref u47, .ref u48]))] := hD
  refine lv_istore_n (lv' := [(2, .int (-1)), (0, .ref h0), (1, .int s0)]) hx hb dX13_bit_9 rfl hl (by decide) rfl (fun ls hl => ?_)
  refine lv_iload_n hx hb dX13_bit_10 rfl (lv_at hl 0 rfl) ?_
  refine lv_iconst (v := (-1)) hx hb dX13_bit_11 (by decide) ?_
  refine lv_icmp_eq (tgt := 29) hx hb dX13_bit_12 (by decide) (fun c_5222 => ?_) (fun c_5222 => absurd c_5222 (by decide))
  refine lv_aload_n hx hb dX13_bit_29 rfl (lv_at hl 1 rfl) ?_
  have hPc := hP.sub (ws' := [(h0, .inr (13, [.ref u0, .int 0, .ref u1, .ref u2, .int 0, .ref u3, .ref u4, .ref u5, .ref u6, .ref u7, .ref u8, .ref u9, .ref u10, .int 0, .ref u11, .ref u12, .int 0, .ref u13, .int (-1), .ref u14, .int 0, .int 0, .ref u15, .int 0, .int 0, .ref u16, .ref u17, .ref u18, .ref u19, .ref u20, .int 0, .ref u21, .int 0, .int 0, .int 0, .int 0, .int 0, .int 0, .ref u22, .ref u23, .ref u24, .ref u25, .int 0, .ref u26, .ref u27, .ref u28, .ref u29, .int 0, .ref u30, .ref u31, .int 0, .int 0, .ref u32, .int 0, .int 0, .int 0, .ref u33, .ref u34, .ref u35, .int 0, .int 0, .ref u36, .ref u37, .ref u38, .ref u39, .ref u40, .ref u41, .ref u42, .ref u43, .ref u44, .ref u45, .int 0, .ref u46, .ref u47, .ref u48]))]) [0] rfl
  have hDc := hD.sub (ws' := [(h0, .inr (13, [.ref u0, .int 0, .ref u1, .ref u2, .int 0, .ref u3, .ref u4, .ref u5, .ref u6, .ref u7, .ref u8, .ref u9, .ref u10, .int 0, .ref u11, .ref u12, .int 0, .ref u13, .int (-1), .ref u14, .int 0, .int 0, .ref u15, .int 0, .int 0, .ref u16, .ref u17, .ref u18, .ref u19, .ref u20, .int 0, .ref u21, .int 0, .int 0, .int 0, .int 0, .int 0, .int 0, .ref u22, .ref u23, .ref u24, .ref u25, .int 0, .ref u26, .ref u27, .ref u28, .ref u29, .int 0, .ref u30, .ref u31, .int 0, .int 0, .ref u32, .int 0, .int 0, .int 0, .ref u33, .ref u34, .ref u35, .int 0, .int 0, .ref u36, .ref u37, .ref u38, .ref u39, .ref u40, .ref u41, .ref u42, .ref u43, .ref u44, .ref u45, .int 0, .ref u46, .ref u47, .ref u48]))]) [0] (by decide) rfl
  have hKc := hK.sub (tys' := []) [] rfl
  have hFc := va_free (wc := [(h0, .inr (13, [.ref u0, .int 0, .ref u1, .ref u2, .int 0, .ref u3, .ref u4, .ref u5, .ref u6, .ref u7, .ref u8, .ref u9, .ref u10, .int 0, .ref u11, .ref u12, .int 0, .ref u13, .int (-1), .ref u14, .int 0, .int 0, .ref u15, .int 0, .int 0, .ref u16, .ref u17, .ref u18, .ref u19, .ref u20, .int 0, .ref u21, .int 0, .int 0, .int 0, .int 0, .int 0, .int 0, .ref u22, .ref u23, .ref u24, .ref u25, .int 0, .ref u26, .ref u27, .ref u28, .ref u29, .int 0, .ref u30, .ref u31, .int 0, .int 0, .ref u32, .int 0, .int 0, .int 0, .ref u33, .ref u34, .ref u35, .int 0, .int 0, .ref u36, .ref u37, .ref u38, .ref u39, .ref u40, .ref u41, .ref u42, .ref u43, .ref u44, .ref u45, .int 0, .ref u46, .ref u47, .ref u48]))]) hD hS hA [0] rfl
  refine va_calli (va_runV (As := []) (rest := []) ⟨hx, hb, hml, hown, hG⟩ (kX13_refuse_0 l dC dI h0 u0 u1 u2 u3 u4 u5 u6 u7 u8 u9 u10 u11 u12 u13 u14 u15 u16 u17 u18 u19 u20 u21 u22 u23 u24 u25 u26 u27 u28 u29 u30 u31 u32 u33 u34 u35 u36 u37 u38 u39 u40 u41 u42 u43 u44 u45 u46 u47 u48 H.size) (cwV 0 hG (zgV zw500 zw501 zw502 zw207 zw503) rfl rfl rfl (by decide +kernel) ⟨Nat.le_of_ble_eq_true rfl, Nat.le_of_ble_eq_true rfl⟩) ⟨zPc_blind, va_recv hKc hPc (ci := 13) (q0 := 0) rfl rfl, zPc_pre hPc hKc hDc hE hS hFc hZ⟩ rfl rfl hl.1 rfl (lv_room (Nat.le_of_ble_eq_true rfl)) dX13_bit_30 ⟨Nat.le_of_ble_eq_true rfl, Nat.le_of_ble_eq_true rfl⟩) hS (fun q _ h => hFc q h) hFc (fun r_5223 u t H1 locs ht hvm hw hB hz1 hk1 hS => ?_)
  have hw : r_5223 = 0 := hw
  subst hw
  obtain ⟨hP1, hK1, hD1⟩ := hB
  rw [ht] at hP1
  obtain ⟨hP, hD⟩ := va_join (wr := []) (w1 := [(h0, .inr (13, [.ref u0, .int 0, .ref u1, .ref u2, .int 0, .ref u3, .ref u4, .ref u5, .ref u6, .ref u7, .ref u8, .ref u9, .ref u10, .int 0, .ref u11, .ref u12, .int 0, .ref u13, .int (-1), .ref u14, .int 0, .int 1, .ref u15, .int 0, .int 0, .ref u16, .ref u17, .ref u18, .ref u19, .ref u20, .int 0, .ref u21, .int 0, .int 0, .int 0, .int 0, .int 0, .int 0, .ref u22, .ref u23, .ref u24, .ref u25, .int 0, .ref u26, .ref u27, .ref u28, .ref u29, .int 0, .ref u30, .ref u31, .int 0, .int 0, .ref u32, .int 0, .int 0, .int 0, .ref u33, .ref u34, .ref u35, .int 0, .int 0, .ref u36, .ref u37, .ref u38, .ref u39, .ref u40, .ref u41, .ref u42, .ref u43, .ref u44, .ref u45, .int 0, .ref u46, .ref u47, .ref u48]))]) hP hD [0] [] rfl rfl (by decide) (by decide) hk1 hFc hP1 hD1
  generalize H1 = H at hP hS ⊢
  have hP : va_P (dC, dI) vwCl [(h0, .inr (13, [.ref u0, .int 0, .ref u1, .ref u2, .int 0, .ref u3, .ref u4, .ref u5, .ref u6, .ref u7, .ref u8, .ref u9, .ref u10, .int 0, .ref u11, .ref u12, .int 0, .ref u13, .int (-1), .ref u14, .int 0, .int 1, .ref u15, .int 0, .int 0, .ref u16, .ref u17, .ref u18, .ref u19, .ref u20, .int 0, .ref u21, .int 0, .int 0, .int 0, .int 0, .int 0, .int 0, .ref u22, .ref u23, .ref u24, .ref u25, .int 0, .ref u26, .ref u27, .ref u28, .ref u29, .int 0, .ref u30, .ref u31, .int 0, .int 0, .ref u32, .int 0, .int 0, .int 0, .ref u33, .ref u34, .ref u35, .int 0, .int 0, .ref u36, .ref u37, .ref u38, .ref u39, .ref u40, .ref u41, .ref u42, .ref u43, .ref u44, .ref u45, .int 0, .ref u46, .ref u47, .ref u48]))] H := hP
  have hD : va_D A [(h0, .inr (13, [.ref u0, .int 0, .ref u1, .ref u2, .int 0, .ref u3, .ref u4, .ref u5, .ref u6, .ref u7, .ref u8, .ref u9, .ref u10, .int 0, .ref u11, .ref u12, .int 0, .ref u13, .int (-1), .ref u14, .int 0, .int 1, .ref u15, .int 0, .int 0, .ref u16, .ref u17, .ref u18, .ref u19, .ref u20, .int 0, .ref u21, .int 0, .int 0, .int 0, .int 0, .int 0, .int 0, .ref u22, .ref u23, .ref u24, .ref u25, .int 0, .ref u26, .ref u27, .ref u28, .ref u29, .int 0, .ref u30, .ref u31, .int 0, .int 0, .ref u32, .int 0, .int 0, .int 0, .ref u33, .ref u34, .ref u35, .int 0, .int 0, .ref u36, .ref u37, .ref u38, .ref u39, .ref u40, .ref u41, .ref u42, .ref u43, .ref u44, .ref u45, .int 0, .ref u46, .ref u47, .ref u48]))] := hD
  have hP9 := hP.sub (ws' := [(h0, .inr (13, [.ref u0, .int 0, .ref u1, .ref u2, .int 0, .ref u3, .ref u4, .ref u5, .ref u6, .ref u7, .ref u8, .ref u9, .ref u10, .int 0, .ref u11, .ref u12, .int 0, .ref u13, .int (-1), .ref u14, .int 0, .int 1, .ref u15, .int 0, .int 0, .ref u16, .ref u17, .ref u18, .ref u19, .ref u20, .int 0, .ref u21, .int 0, .int 0, .int 0, .int 0, .int 0, .int 0, .ref u22, .ref u23, .ref u24, .ref u25, .int 0, .ref u26, .ref u27, .ref u28, .ref u29, .int 0, .ref u30, .ref u31, .int 0, .int 0, .ref u32, .int 0, .int 0, .int 0, .ref u33, .ref u34, .ref u35, .int 0, .int 0, .ref u36, .ref u37, .ref u38, .ref u39, .ref u40, .ref u41, .ref u42, .ref u43, .ref u44, .ref u45, .int 0, .ref u46, .ref u47, .ref u48]))]) [0] rfl
  have hD9 := hD.sub (ws' := [(h0, .inr (13, [.ref u0, .int 0, .ref u1, .ref u2, .int 0, .ref u3, .ref u4, .ref u5, .ref u6, .ref u7, .ref u8, .ref u9, .ref u10, .int 0, .ref u11, .ref u12, .int 0, .ref u13, .int (-1), .ref u14, .int 0, .int 1, .ref u15, .int 0, .int 0, .ref u16, .ref u17, .ref u18, .ref u19, .ref u20, .int 0, .ref u21, .int 0, .int 0, .int 0, .int 0, .int 0, .int 0, .ref u22, .ref u23, .ref u24, .ref u25, .int 0, .ref u26, .ref u27, .ref u28, .ref u29, .int 0, .ref u30, .ref u31, .int 0, .int 0, .ref u32, .int 0, .int 0, .int 0, .ref u33, .ref u34, .ref u35, .int 0, .int 0, .ref u36, .ref u37, .ref u38, .ref u39, .ref u40, .ref u41, .ref u42, .ref u43, .ref u44, .ref u45, .int 0, .ref u46, .ref u47, .ref u48]))]) [0] (by decide) rfl
  have hK9 := hK.sub (tys' := []) [] rfl
  refine W.widen (k := 0) (n := 0) (by decide) (by decide) ?_
  exact W.iret (v := 0) hx hb hr (fun t ht hW => ⟨⟨0, (), rfl, rfl, by rw [ht]; exact hP9, va_K.moved hW.alike hK9, hD9⟩, hS.F ht⟩) hS.2.2 dX13_bit_33
