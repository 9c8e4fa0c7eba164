set_option maxHeartbeats 4000000 in
set_option maxRecDepth 100000 in
theorem kX9_hasRoom_0 (l : Launch) (dC : Nat → ClassId) (dI : Nat → Nat → Nat) (h0 u0 u1 : Nat) (sz : Nat) : Met l yX9_hasRoom (zw yX9_hasRoom cX9_hasRoom 2 (some .boolean)) { frames := 0, cells := 0, slots := 0, locals := 0 } (zPc dC dI [.ref h0, .int 20] sz [(h0, .inr (9, [.ref u0, .ref u1, .int 0, .int 0]))] []) (va_Qi (fun (r : Int32) (_ : Unit) => r = 1) (fun (_ : Unit) (t : State) => va_P (dC, dI) vwCl [(h0, .inr (9, [.ref u0, .ref u1, .int 0, .int 0]))] t.heap ∧ va_K (dC, dI) vwCl [] t ∧ va_D (va_A [(h0, .inr (9, [.ref u0, .ref u1, .int 0, .int 0]))] sz) [(h0, .inr (9, [.ref u0, .ref u1, .int 0, .int 0]))]) (va_A [(h0, .inr (9, [.ref u0, .ref u1, .int 0, .int 0]))] sz)) 0 0 (va_A [(h0, .inr (9, [.ref u0, .ref u1, .int 0, .int 0]))] sz) := by
  refine Met.ofW (cc := cX9_hasRoom) (maxL := 2) (ret := (some .boolean)) (by decide) rfl ?_
  intro p e s m args below meth c s₁ B hml hv
  obtain ⟨rfl, hsz, hP, hK, hD0, hE, hZ⟩ := hv
  have hx := B.exec
  have hb := B.bytes
  have hr := B.returns
  have hG : ∀ w ∈ zG, w.before _ s = true := fun w h => atoms_spec (ws := (zw yX9_hasRoom cX9_hasRoom 2 (some .boolean))) B.pre w (List.mem_cons_of_mem _ h)
  have hown : s.vm.findClass RX9 = some m.cls := findClass_of_methodNamed B.named
  have hlocks := B.notSynchronized
  subst hsz
  have hD := hD0.self (sz := s.heap.size)
  generalize hAe : va_A [(h0, .inr (9, [.ref u0, .ref u1, .int 0, .int 0]))] s.heap.size = A at hD hZ ⊢
  have hA : ∀ q : Nat, s.heap.size ≤ q → A q := fun q h => by rw [← hAe]; exact Or.inr h
  have hS : va_S A s.heap s.heap [] := va_S.rf
  have hl := lv_entry ([.ref h0, .int 20]) (n := 2) (Nat.le_of_ble_eq_true rfl)
  rw [lg_entry_eq]
  generalize (lg_sl ([.ref h0, .int 20]) ++ List.replicate (2 - (lg_sl ([.ref h0, .int 20])).length) Slot.unset).toArray = ls at hl ⊢
  have hl : lv_has ls 2 [(0, .ref h0), (1, .int 20)] := hl
  refine lv_aload_n hx hb dX9_hasRoom_0 rfl (lv_at hl 0 rfl) ?_
  refine va_get (D := (dC, dI)) (ci := 9) (v := .int 0) (C := RX9) (T := TX9) (N := 4) hx hb hG zuX9 hown hK hP 0 rfl rfl 2 (by decide) (hG _ zw13) (fun _ h9 => h9) rfl dX9_hasRoom_1 ?_
  refine lv_iload_n hx hb dX9_hasRoom_4 rfl (lv_at hl 1 rfl) ?_
  refine lv_iadd hx hb dX9_hasRoom_5 ?_
  refine lv_topi (fun z_2497 e_z_2497 => ?_)
  obtain rfl : z_2497 = (20 : Int32) := e_z_2497.trans (by decide)
  refine lv_sipush (v := 600) hx hb dX9_hasRoom_6 (by decide) ?_
  refine lv_icmp_gt (tgt := 16) hx hb dX9_hasRoom_9 (by decide) (fun c_2498 => absurd c_2498 (by decide)) (fun c_2498 => ?_)
  refine lv_iconst (v := 1) hx hb dX9_hasRoom_12 (by decide) ?_
  refine lv_goto (tgt := 17) hx hb dX9_hasRoom_13 (by decide) ?_
  have hP9 := hP.sub (ws' := [(h0, .inr (9, [.ref u0, .ref u1, .int 0, .int 0]))]) [0] rfl
  have hD9 := hD.sub (ws' := [(h0, .inr (9, [.ref u0, .ref u1, .int 0, .int 0]))]) [0] (by decide) rfl
  have hK9 := hK.sub (tys' := []) [] rfl
  refine W.widen (k := 0) (n := 0) (by decide) (by decide) ?_
  exact W.zret (v := 1) hx hb hr rfl (fun t ht hW => ⟨⟨1, (), rfl, rfl, by rw [ht]; exact hP9, va_K.moved hW.alike hK9, hD9⟩, hS.F ht⟩) hS.2.2 dX9_hasRoom_17
set_option maxHeartbeats 4000000 in
set_option maxRecDepth 100000 in
theorem kX9_put_0 (l : Launch) (dC : Nat → ClassId) (dI : Nat → Nat → Nat) (h0 h1 u0 : Nat) (k1 : ClassId) (sz : Nat) (s0 : Int32) : Met l yX9_put (zw yX9_put cX9_put 3 none) { frames := 0, cells := 0, slots := 0, locals := 0 } (zPc dC dI [.ref h0, .int s0] sz [(h0, .inr (9, [.ref h1, .ref u0, .int 0, .int 0])), (h1, .inl (k1, 600, .inl (fun _ => 0)))] [(k1, .byte)]) (va_Qv (fun _ : Unit => True) (fun (_ : Unit) (t : State) => ∃ (f0 : Nat → Int32), va_P (dC, dI) vwCl [(h0, .inr (9, [.ref h1, .ref u0, .int 4, .int 0])), (h1, .inl (k1, 600, .inl f0))] t.heap ∧ va_K (dC, dI) vwCl [(k1, .byte)] t ∧ va_D (va_A [(h0, .inr (9, [.ref h1, .ref u0, .int 0, .int 0])), (h1, .inl (k1, 600, .inl (fun _ => 0)))] sz) [(h0, .inr (9, [.ref h1, .ref u0, .int 4, .int 0])), (h1, .inl (k1, 600, .inl f0))]) (va_A [(h0, .inr (9, [.ref h1, .ref u0, .int 0, .int 0])), (h1, .inl (k1, 600, .inl (fun _ => 0)))] sz)) 0 0 (va_A [(h0, .inr (9, [.ref h1, .ref u0, .int 0, .int 0])), (h1, .inl (k1, 600, .inl (fun _ => 0)))] sz) := by
  refine Met.ofW (cc := cX9_put) (maxL := 3) (ret := none) (by decide) rfl ?_
  intro p e s m args below meth c s₁ B hml hv
  obtain ⟨rfl, hsz, hP, hK, hD0, hE, hZ⟩ := hv
  have hx := B.exec
  have hb := B.bytes
  have hr := B.returns
  have hG : ∀ w ∈ zG, w.before _ s = true := fun w h => atoms_spec (ws := (zw yX9_put cX9_put 3 none)) B.pre w (List.mem_cons_of_mem _ h)
  have hown : s.vm.findClass RX9 = some m.cls := findClass_of_methodNamed B.named
  have hlocks := B.notSynchronized
  subst hsz
  have hD := hD0.self (sz := s.heap.size)
  generalize hAe : va_A [(h0, .inr (9, [.ref h1, .ref u0, .int 0, .int 0])), (h1, .inl (k1, 600, .inl (fun _ => 0)))] s.heap.size = A at hD hZ ⊢
  have hA : ∀ q : Nat, s.heap.size ≤ q → A q := fun q h => by rw [← hAe]; exact Or.inr h
  have hS : va_S A s.heap s.heap [] := va_S.rf
  have hl := lv_entry ([.ref h0, .int s0]) (n := 3) (Nat.le_of_ble_eq_true rfl)
  rw [lg_entry_eq]
  generalize (lg_sl ([.ref h0, .int s0]) ++ List.replicate (3 - (lg_sl ([.ref h0, .int s0])).length) Slot.unset).toArray = ls at hl ⊢
  have hl : lv_has ls 3 [(0, .ref h0), (1, .int s0)] := hl
  refine lv_bipush (v := 24) hx hb dX9_put_0 (by decide) ?_
  refine lv_istore_n (lv' := [(2, .int 24), (0, .ref h0), (1, .int s0)]) hx hb dX9_put_2 rfl hl (by decide) rfl (fun ls hl => ?_)
  refine lv_iload_n hx hb dX9_put_3 rfl (lv_at hl 0 rfl) ?_
  refine lv_if_lt (tgt := 46) hx hb dX9_put_4 (by decide) (fun c_2551 => absurd c_2551 (by decide)) (fun c_2551 => ?_)
  refine lv_aload_n hx hb dX9_put_7 rfl (lv_at hl 1 rfl) ?_
  refine va_get (D := (dC, dI)) (ci := 9) (v := .int 0) (C := RX9) (T := TX9) (N := 4) hx hb hG zuX9 hown hK hP 0 rfl rfl 2 (by decide) (hG _ zw13) (fun _ h9 => h9) rfl dX9_put_8 ?_
  refine lv_sipush (v := 600) hx hb dX9_put_11 (by decide) ?_
  refine lv_icmp_ge (tgt := 46) hx hb dX9_put_14 (by decide) (fun c_2552 => absurd c_2552 (by decide)) (fun c_2552 => ?_)
  refine lv_aload_n hx hb dX9_put_17 rfl (lv_at hl 1 rfl) ?_
  refine va_get (D := (dC, dI)) (ci := 9) (v := .ref h1) (C := RX9) (T := TX9) (N := 4) hx hb hG zuX9 hown hK hP 0 rfl rfl 0 (by decide) (hG _ zw11) (fun _ h9 => h9) rfl dX9_put_18 ?_
  refine lv_aload_n hx hb dX9_put_21 rfl (lv_at hl 1 rfl) ?_
  refine va_get (D := (dC, dI)) (ci := 9) (v := .int 0) (C := RX9) (T := TX9) (N := 4) hx hb hG zuX9 hown hK hP 0 rfl rfl 2 (by decide) (hG _ zw13) (fun _ h9 => h9) rfl dX9_put_22 ?_
  refine lv_iload_n hx hb dX9_put_25 rfl (lv_at hl 2 rfl) ?_
  refine lv_iload_n hx hb dX9_put_26 rfl (lv_at hl 0 rfl) ?_
  refine lv_iushr hx hb dX9_put_27 rfl ?_
  refine lv_topi (fun z_2553 e_z_2553 => ?_)
  refine lv_i2b hx hb dX9_put_28 rfl ?_
  refine lv_topi (fun z_2554 e_z_2554 => ?_)
  refine va_bast hx hb hK hP hD hS 1 0 rfl rfl (zin_lit (by decide)) dX9_put_29 (fun H locs hP hD hS => ?_)
  obtain ⟨f_2555, e_f_2555⟩ : ∃ z : Nat → Int32, z = upd (fun _ => 0) 0 (vp_nar .byte z_2554) := ⟨_, rfl⟩
  have hP : va_P (dC, dI) vwCl [(h0, .inr (9, [.ref h1, .ref u0, .int 0, .int 0])), (h1, .inl (k1, 600, .inl f_2555))] H := by rw [e_f_2555]; exact hP
  have hD : va_D A [(h0, .inr (9, [.ref h1, .ref u0, .int 0, .int 0])), (h1, .inl (k1, 600, .inl f_2555))] := by rw [e_f_2555]; exact hD
  refine lv_aload_n hx hb dX9_put_30 rfl (lv_at hl 1 rfl) ?_
  refine lv_dup hx hb dX9_put_31 rfl ?_
  refine va_get (D := (dC, dI)) (ci := 9) (v := .int 0) (C := RX9) (T := TX9) (N := 4) hx hb hG zuX9 hown hK hP 0 rfl rfl 2 (by decide) (hG _ zw13) (fun _ h9 => h9) rfl dX9_put_32 ?_
  refine lv_iconst (v := 1) hx hb dX9_put_35 (by decide) ?_
  refine lv_iadd hx hb dX9_put_36 ?_
  refine lv_topi (fun z_2556 e_z_2556 => ?_)
  obtain rfl : z_2556 = (1 : Int32) := e_z_2556.trans (by decide)
  refine va_put (D := (dC, dI)) (ci := 9) (v := .int 1) (ty := .int) (C := RX9) (T := TX9) (N := 4) hx hb hG zuX9 tyX9 tyX9_ok nmX9 hown hK hP hD hS 0 rfl rfl 2 (by decide) (hG _ zw13) (fun _ h9 => h9) rfl (by decide +kernel) rfl rfl (Nat.le_of_ble_eq_true rfl) dX9_put_37 (fun H locs hP hD hS => ?_)
  have hP : va_P (dC, dI) vwCl [(h0, .inr (9, [.ref h1, .ref u0, .int 1, .int 0])), (h1, .inl (k1, 600, .inl f_2555))] H := hP
  have hD : va_D A [(h0, .inr (9, [.ref h1, .ref u0, .int 1, .int 0])), (h1, .inl (k1, 600, .inl f_2555))] := hD
  refine lv_iinc (v := 16) (lv' := [(2, .int 16), (0, .ref h0), (1, .int s0)]) hx hb dX9_put_40 hl (k := 0) rfl (by decide) (by decide) rfl (fun ls hl => ?_)
  refine lv_goto (tgt := 3) hx hb dX9_put_43 (by decide) ?_
  refine lv_iload_n hx hb dX9_put_3 rfl (lv_at hl 0 rfl) ?_
  refine lv_if_lt (tgt := 46) hx hb dX9_put_4 (by decide) (fun c_2557 => absurd c_2557 (by decide)) (fun c_2557 => ?_)
  refine lv_aload_n hx hb dX9_put_7 rfl (lv_at hl 1 rfl) ?_
  refine va_get (D := (dC, dI)) (ci := 9) (v := .int 1) (C := RX9) (T := TX9) (N := 4) hx hb hG zuX9 hown hK hP 0 rfl rfl 2 (by decide) (hG _ zw13) (fun _ h9 => h9) rfl dX9_put_8 ?_
  refine lv_sipush (v := 600) hx hb dX9_put_11 (by decide) ?_
  refine lv_icmp_ge (tgt := 46) hx hb dX9_put_14 (by decide) (fun c_2558 => absurd c_2558 (by decide)) (fun c_2558 => ?_)
  refine lv_aload_n hx hb dX9_put_17 rfl (lv_at hl 1 rfl) ?_
  refine va_get (D := (dC, dI)) (ci := 9) (v := .ref h1) (C := RX9) (T := TX9) (N := 4) hx hb hG zuX9 hown hK hP 0 rfl rfl 0 (by decide) (hG _ zw11) (fun _ h9 => h9) rfl dX9_put_18 ?_
  refine lv_aload_n hx hb dX9_put_21 rfl (lv_at hl 1 rfl) ?_
  refine va_get (D := (dC, dI)) (ci := 9) (v := .int 1) (C := RX9) (T := TX9) (N := 4) hx hb hG zuX9 hown hK hP 0 rfl rfl 2 (by decide) (hG _ zw13) (fun _ h9 => h9) rfl dX9_put_22 ?_
  refine lv_iload_n hx hb dX9_put_25 rfl (lv_at hl 2 rfl) ?_
  refine lv_iload_n hx hb dX9_put_26 rfl (lv_at hl 0 rfl) ?_
  refine lv_iushr hx hb dX9_put_27 rfl ?_
  refine lv_topi (fun z_2559 e_z_2559 => ?_)
  refine lv_i2b hx hb dX9_put_28 rfl ?_
  refine lv_topi (fun z_2560 e_z_2560 => ?_)
  refine va_bast hx hb hK hP hD hS 1 0 rfl rfl (zin_lit (by decide)) dX9_put_29 (fun H locs hP hD hS => ?_)
  obtain ⟨f_2561, e_f_2561⟩ : ∃ z : Nat → Int32, z = upd f_2555 1 (vp_nar .byte z_2560) := ⟨_, rfl⟩
  have hP : va_P (dC, dI) vwCl [(h0, .inr (9, [.ref h1, .ref u0, .int 1, .int 0])), (h1, .inl (k1, 600, .inl f_2561))] H := by rw [e_f_2561]; exact hP
  have hD : va_D A [(h0, .inr (9, [.ref h1, .ref u0, .int 1, .int 0])), (h1, .inl (k1, 600, .inl f_2561))] := by rw [e_f_2561]; exact hD
  refine lv_aload_n hx hb dX9_put_30 rfl (lv_at hl 1 rfl) ?_
  refine lv_dup hx hb dX9_put_31 rfl ?_
  refine va_get (D := (dC, dI)) (ci := 9) (v := .int 1) (C := RX9) (T := TX9) (N := 4) hx hb hG zuX9 hown hK hP 0 rfl rfl 2 (by decide) (hG _ zw13) (fun _ h9 => h9) rfl dX9_put_32 ?_
  refine lv_iconst (v := 1) hx hb dX9_put_35 (by decide) ?_
  refine lv_iadd hx hb dX9_put_36 ?_
  refine lv_topi (fun z_2562 e_z_2562 => ?_)
  obtain rfl : z_2562 = (2 : Int32) := e_z_2562.trans (by decide)
  refine va_put (D := (dC, dI)) (ci := 9) (v := .int 2) (ty := .int) (C := RX9) (T := TX9) (N := 4) hx hb hG zuX9 tyX9 tyX9_ok nmX9 hown hK hP hD hS 0 rfl rfl 2 (by decide) (hG _ zw13) (fun _ h9 => h9) rfl (by decide +kernel) rfl rfl (Nat.le_of_ble_eq_true rfl) dX9_put_37 (fun H locs hP hD hS => ?_)
  have hP : va_P (dC, dI) vwCl [(h0, .inr (9, [.ref h1, .ref u0, .int 2, .int 0])), (h1, .inl (k1, 600, .inl f_2561))] H := hP
  have hD : va_D A [(h0, .inr (9, [.ref h1, .ref u0, .int 2, .int 0])), (h1, .inl (k1, 600, .inl f_2561))] := hD
  refine lv_iinc (v := 8) (lv' := [(2, .int 8), (0, .ref h0), (1, .int s0)]) hx hb dX9_put_40 hl (k := 0) rfl (by decide) (by decide) rfl (fun ls hl => ?_)
  refine lv_goto (tgt := 3) hx hb dX9_put_43 (by decide) ?_
  refine lv_iload_n hx hb dX9_put_3 rfl (lv_at hl 0 rfl) ?_
  refine lv_if_lt (tgt := 46) hx hb dX9_put_4 (by decide) (fun c_2563 => absurd c_2563 (by decide)) (fun c_2563 => ?_)
  refine lv_aload_n hx hb dX9_put_7 rfl (lv_at hl 1 rfl) ?_
  refine va_get (D := (dC, dI)) (ci := 9) (v := .int 2) (C := RX9) (T := TX9) (N := 4) hx hb hG zuX9 hown hK hP 0 rfl rfl 2 (by decide) (hG _ zw13) (fun _ h9 => h9) rfl dX9_put_8 ?_
  refine lv_sipush (v := 600) hx hb dX9_put_11 (by decide) ?_
  refine lv_icmp_ge (tgt := 46) hx hb dX9_put_14 (by decide) (fun c_2564 => absurd c_2564 (by decide)) (fun c_2564 => ?_)
  refine lv_aload_n hx hb dX9_put_17 rfl (lv_at hl 1 rfl) ?_
  refine va_get (D := (dC, dI)) (ci := 9) (v := .ref h1) (C := RX9) (T := TX9) (N := 4) hx hb hG zuX9 hown hK hP 0 rfl rfl 0 (by decide) (hG _ zw11) (fun _ h9 => h9) rfl dX9_put_18 ?_
  refine lv_aload_n hx hb dX9_put_21 rfl (lv_at hl 1 rfl) ?_
  refine va_get (D := (dC, dI)) (ci := 9) (v := .int 2) (C := RX9) (T := TX9) (N := 4) hx hb hG zuX9 hown hK hP 0 rfl rfl 2 (by decide) (hG _ zw13) (fun _ h9 => h9) rfl dX9_put_22 ?_
  refine lv_iload_n hx hb dX9_put_25 rfl (lv_at hl 2 rfl) ?_
  refine lv_iload_n hx hb dX9_put_26 rfl (lv_at hl 0 rfl) ?_
  refine lv_iushr hx hb dX9_put_27 rfl ?_
  refine lv_topi (fun z_2565 e_z_2565 => ?_)
  refine lv_i2b hx hb dX9_put_28 rfl ?_
  refine lv_topi (fun z_2566 e_z_2566 => ?_)
  refine va_bast hx hb hK hP hD hS 1 0 rfl rfl (zin_lit (by decide)) dX9_put_29 (fun H locs hP hD hS => ?_)
  obtain ⟨f_2567, e_f_2567⟩ : ∃ z : Nat → Int32, z = upd f_2561 2 (vp_nar .byte z_2566) := ⟨_, rfl⟩
  have hP : va_P (dC, dI) vwCl [(h0, .inr (9, [.ref h1, .ref u0, .int 2, .int 0])), (h1, .inl (k1, 600, .inl f_2567))] H := by rw [e_f_2567]; exact hP
  have hD : va_D A [(h0, .inr (9, [.ref h1, .ref u0, .int 2, .int 0])), (h1, .inl (k1, 600, .inl f_2567))] := by rw [e_f_2567]; exact hD
  refine lv_aload_n hx hb dX9_put_30 rfl (lv_at hl 1 rfl) ?_
  refine lv_dup hx hb dX9_put_31 rfl ?_
  refine va_get (D := (dC, dI)) (ci := 9) (v := .int 2) (C := RX9) (T := TX9) (N := 4) hx hb hG zuX9 hown hK hP 0 rfl rfl 2 (by decide) (hG _ zw13) (fun _ h9 => h9) rfl dX9_put_32 ?_
  refine lv_iconst (v := 1) hx hb dX9_put_35 (by decide) ?_
  refine lv_iadd hx hb dX9_put_36 ?_
  refine lv_topi (fun z_2568 e_z_2568 => ?_)
  obtain rfl : z_2568 = (3 : Int32) := e_z_2568.trans (by decide)
  refine va_put (D := (dC, dI)) (ci := 9) (v := .int 3) (ty := .int) (C := RX9) (T := TX9) (N := 4) hx hb hG zuX9 tyX9 tyX9_ok nmX9 hown hK hP hD hS 0 rfl rfl 2 (by decide) (hG _ zw13) (fun _ h9 => h9) rfl (by decide +kernel) rfl rfl (Nat.le_of_ble_eq_true rfl) dX9_put_37 (fun H locs hP hD hS => ?_)
  have hP : va_P (dC, dI) vwCl [(h0, .inr (9, [.ref h1, .ref u0, .int 3, .int 0])), (h1, .inl (k1, 600, .inl f_2567))] H := hP
  have hD : va_D A [(h0, .inr (9, [.ref h1, .ref u0, .int 3, .int 0])), (h1, .inl (k1, 600, .inl f_2567))] := hD
  refine lv_iinc (v := 0) (lv' := [(2, .int 0), (0, .ref h0), (1, .int s0)]) hx hb dX9_put_40 hl (k := 0) rfl (by decide) (by decide) rfl (fun ls hl => ?_)
  refine lv_goto (tgt := 3) hx hb dX9_put_43 (by decide) ?_
  refine lv_iload_n hx hb dX9_put_3 rfl (lv_at hl 0 rfl) ?_
  refine lv_if_lt (tgt := 46) hx hb dX9_put_4 (by decide) (fun c_2569 => absurd c_2569 (by decide)) (fun c_2569 => ?_)
  refine lv_aload_n hx hb dX9_put_7 rfl (lv_at hl 1 rfl) ?_
  refine va_get (D := (dC, dI)) (ci := 9) (v := .int 3) (C := RX9) (T := TX9) (N := 4) hx hb hG zuX9 hown hK hP 0 rfl rfl 2 (by decide) (hG _ zw13) (fun _ h9 => h9) rfl dX9_put_8 ?_
  refine lv_sipush (v := 600) hx hb dX9_put_11 (by decide) ?_
  refine lv_icmp_ge (tgt := 46) hx hb dX9_put_14 (by decide) (fun c_2570 => absurd c_2570 (by decide)) (fun c_2570 => ?_)
  refine lv_aload_n hx hb dX9_put_17 rfl (lv_at hl 1 rfl) ?_
  refine va_get (D := (dC, dI)) (ci := 9) (v := .ref h1) (C := RX9) (T := TX9) (N := 4) hx hb hG zuX9 hown hK hP 0 rfl rfl 0 (by decide) (hG _ zw11) (fun _ h9 => h9) rfl dX9_put_18 ?_
  refine lv_aload_n hx hb dX9_put_21 rfl (lv_at hl 1 rfl) ?_
  refine va_get (D := (dC, dI)) (ci := 9) (v := .int 3) (C := RX9) (T := TX9) (N := 4) hx hb hG zuX9 hown hK hP 0 rfl rfl 2 (by decide) (hG _ zw13) (fun _ h9 => h9) rfl dX9_put_22 ?_
  refine lv_iload_n hx hb dX9_put_25 rfl (lv_at hl 2 rfl) ?_
  refine lv_iload_n hx hb dX9_put_26 rfl (lv_at hl 0 rfl) ?_
  refine lv_iushr hx hb dX9_put_27 rfl ?_
  refine lv_topi (fun z_2571 e_z_2571 => ?_)
  refine lv_i2b hx hb dX9_put_28 rfl ?_
  refine lv_topi (fun z_2572 e_z_2572 => ?_)
  refine va_bast hx hb hK hP hD hS 1 0 rfl rfl (zin_lit (by decide)) dX9_put_29 (fun H locs hP hD hS => ?_)
  obtain ⟨f_2573, e_f_2573⟩ : ∃ z : Nat → Int32, z = upd f_2567 3 (vp_nar .byte z_2572) := ⟨_, rfl⟩
  have hP : va_P (dC, dI) vwCl [(h0, .inr (9, [.ref h1, .ref u0, .int 3, .int 0])), (h1, .inl (k1, 600, .inl f_2573))] H := by rw [e_f_2573]; exact hP
  have hD : va_D A [(h0, .inr (9, [.ref h1, .ref u0, .int 3, .int 0])), (h1, .inl (k1, 600, .inl f_2573))] := by rw [e_f_2573]; exact hD
  refine lv_aload_n hx hb dX9_put_30 rfl (lv_at hl 1 rfl) ?_
  refine lv_dup hx hb dX9_put_31 rfl ?_
  refine va_get (D := (dC, dI)) (ci := 9) (v := .int 3) (C := RX9) (T := TX9) (N := 4) hx hb hG zuX9 hown hK hP 0 rfl rfl 2 (by decide) (hG _ zw13) (fun _ h9 => h9) rfl dX9_put_32 ?_
  refine lv_iconst (v := 1) hx hb dX9_put_35 (by decide) ?_
  refine lv_iadd hx hb dX9_put_36 ?_
  refine lv_topi (fun z_2574 e_z_2574 => ?_)
  obtain rfl : z_2574 = (4 : Int32) := e_z_2574.trans (by decide)
  refine va_put (D := (dC, dI)) (ci := 9) (v := .int 4) (ty := .int) (C := RX9) (T := TX9) (N := 4) hx hb hG zuX9 tyX9 tyX9_ok nmX9 hown hK hP hD hS 0 rfl rfl 2 (by decide) (hG _ zw13) (fun _ h9 => h9) rfl (by decide +kernel) rfl rfl (Nat.le_of_ble_eq_true rfl) dX9_put_37 (fun H locs hP hD hS => ?_)
  have hP : va_P (dC, dI) vwCl [(h0, .inr (9, [.ref h1, .ref u0, .int 4, .int 0])), (h1, .inl (k1, 600, .inl f_2573))] H := hP
  have hD : va_D A [(h0, .inr (9, [.ref h1, .ref u0, .int 4, .int 0])), (h1, .inl (k1, 600, .inl f_2573))] := hD
  refine lv_iinc (v := (-8)) (lv' := [(2, .int (-8)), (0, .ref h0), (1, .int s0)]) hx hb dX9_put_40 hl (k := 0) rfl (by decide) (by decide) rfl (fun ls hl => ?_)
  refine lv_goto (tgt := 3) hx hb dX9_put_43 (by decide) ?_
  refine lv_iload_n hx hb dX9_put_3 rfl (lv_at hl 0 rfl) ?_
  refine lv_if_lt (tgt := 46) hx hb dX9_put_4 (by decide) (fun c_2575 => ?_) (fun c_2575 => absurd c_2575 (by decide))
  have hP9 := hP.sub (ws' := [(h0, .inr (9, [.ref h1, .ref u0, .int 4, .int 0])), (h1, .inl (k1, 600, .inl f_2573))]) [0, 1] rfl
  have hD9 := hD.sub (ws' := [(h0, .inr (9, [.ref h1, .ref u0, .int 4, .int 0])), (h1, .inl (k1, 600, .inl f_2573))]) [0, 1] (by decide) rfl
  have hK9 := hK.sub (tys' := [(k1, .byte)]) [0] rfl
  refine W.widen (k := 0) (n := 0) (by decide) (by decide) ?_
  exact W.vret hx hb hr (fun t ht hW => ⟨⟨(), rfl, trivial, f_2573, by rw [ht]; exact hP9, va_K.moved hW.alike hK9, hD9⟩, hS.F ht⟩) hS.2.2 dX9_put_46
set_option maxHeartbeats 4000000 in
set_option maxRecDepth 100000 in
theorem kX9_put_1 (l : Launch) (dC : Nat → ClassId) (dI : Nat → Nat → Nat) (h0 h1 u0 : Nat) (k1 : ClassId) (sz : Nat) (s0 : Int32) (s1 : Nat → Int32) : Met l yX9_put (zw yX9_put cX9_put 3 none) { frames := 0, cells := 0, slots := 0, locals := 0 } (zPc dC dI [.ref h0, .int s0] sz [(h0, .inr (9, [.ref h1, .ref u0, .int 4, .int 0])), (h1, .inl (k1, 600, .inl s1))] [(k1, .byte)]) (va_Qv (fun _ : Unit => True) (fun (_ : Unit) (t : State) => ∃ (f0 : Nat → Int32), va_P (dC, dI) vwCl [(h0, .inr (9, [.ref h1, .ref u0, .int 8, .int 0])), (h1, .inl (k1, 600, .inl f0))] t.heap ∧ va_K (dC, dI) vwCl [(k1, .byte)] t ∧ va_D (va_A [(h0, .inr (9, [.ref h1, .ref u0, .int 4, .int 0])), (h1, .inl (k1, 600, .inl s1))] sz) [(h0, .inr (9, [.ref h1, .ref u0, .int 8, .int 0])), (h1, .inl (k1, 600, .inl f0))]) (va_A [(h0, .inr (9, [.ref h1, .ref u0, .int 4, .int 0])), (h1, .inl (k1, 600, .inl s1))] sz)) 0 0 (va_A [(h0, .inr (9, [.ref h1, .ref u0, .int 4, .int 0])), (h1, .inl (k1, 600, .inl s1))] sz) := by
  refine Met.ofW (cc := cX9_put) (maxL := 3) (ret := none) (by decide) rfl ?_
  intro p e s m args below meth c s₁ B hml hv
  obtain ⟨rfl, hsz, hP, hK, hD0, hE, hZ⟩ := hv
  have hx := B.exec
  have hb := B.bytes
  have hr := B.returns
  have hG : ∀ w ∈ zG, w.before _ s = true := fun w h => atoms_spec (ws := (zw yX9_put cX9_put 3 none)) B.pre w (List.mem_cons_of_mem _ h)
  have hown : s.vm.findClass RX9 = some m.cls := findClass_of_methodNamed B.named
  have hlocks := B.notSynchronized
  subst hsz
  have hD := hD0.self (sz := s.heap.size)
  generalize hAe : va_A [(h0, .inr (9, [.ref h1, .ref u0, .int 4, .int 0])), (h1, .inl (k1, 600, .inl s1))] s.heap.size = A at hD hZ ⊢
  have hA : ∀ q : Nat, s.heap.size ≤ q → A q := fun q h => by rw [← hAe]; exact Or.inr h
  have hS : va_S A s.heap s.heap [] := va_S.rf
  have hl := lv_entry ([.ref h0, .int s0]) (n := 3) (Nat.le_of_ble_eq_true rfl)
  rw [lg_entry_eq]
  generalize (lg_sl ([.ref h0, .int s0]) ++ List.replicate (3 - (lg_sl ([.ref h0, .int s0])).length) Slot.unset).toArray = ls at hl ⊢
  have hl : lv_has ls 3 [(0, .ref h0), (1, .int s0)] := hl
  refine lv_bipush (v := 24) hx hb dX9_put_0 (by decide) ?_
  refine lv_istore_n (lv' := [(2, .int 24), (0, .ref h0), (1, .int s0)]) hx hb dX9_put_2 rfl hl (by decide) rfl (fun ls hl => ?_)
  refine lv_iload_n hx hb dX9_put_3 rfl (lv_at hl 0 rfl) ?_
  refine lv_if_lt (tgt := 46) hx hb dX9_put_4 (by decide) (fun c_2628 => absurd c_2628 (by decide)) (fun c_2628 => ?_)
  refine lv_aload_n hx hb dX9_put_7 rfl (lv_at hl 1 rfl) ?_
  refine va_get (D := (dC, dI)) (ci := 9) (v := .int 4) (C := RX9) (T := TX9) (N := 4) hx hb hG zuX9 hown hK hP 0 rfl rfl 2 (by decide) (hG _ zw13) (fun _ h9 => h9) rfl dX9_put_8 ?_
  refine lv_sipush (v := 600) hx hb dX9_put_11 (by decide) ?_
  refine lv_icmp_ge (tgt := 46) hx hb dX9_put_14 (by decide) (fun c_2629 => absurd c_2629 (by decide)) (fun c_2629 => ?_)
  refine lv_aload_n hx hb dX9_put_17 rfl (lv_at hl 1 rfl) ?_
  refine va_get (D := (dC, dI)) (ci := 9) (v := .ref h1) (C := RX9) (T := TX9) (N := 4) hx hb hG zuX9 hown hK hP 0 rfl rfl 0 (by decide) (hG _ zw11) (fun _ h9 => h9) rfl dX9_put_18 ?_
  refine lv_aload_n hx hb dX9_put_21 rfl (lv_at hl 1 rfl) ?_
  refine va_get (D := (dC, dI)) (ci := 9) (v := .int 4) (C := RX9) (T := TX9) (N := 4) hx hb hG zuX9 hown hK hP 0 rfl rfl 2 (by decide) (hG _ zw13) (fun _ h9 => h9) rfl dX9_put_22 ?_
  refine lv_iload_n hx hb dX9_put_25 rfl (lv_at hl 2 rfl) ?_
  refine lv_iload_n hx hb dX9_put_26 rfl (lv_at hl 0 rfl) ?_
  refine lv_iushr hx hb dX9_put_27 rfl ?_
  refine lv_topi (fun z_2630 e_z_2630 => ?_)
  refine lv_i2b hx hb dX9_put_28 rfl ?_
  refine lv_topi (fun z_2631 e_z_2631 => ?_)
  refine va_bast hx hb hK hP hD hS 1 0 rfl rfl (zin_lit (by decide)) dX9_put_29 (fun H locs hP hD hS => ?_)
  obtain ⟨f_2632, e_f_2632⟩ : ∃ z : Nat → Int32, z = upd s1 4 (vp_nar .byte z_2631) := ⟨_, rfl⟩
  have hP : va_P (dC, dI) vwCl [(h0, .inr (9, [.ref h1, .ref u0, .int 4, .int 0])), (h1, .inl (k1, 600, .inl f_2632))] H := by rw [e_f_2632]; exact hP
  have hD : va_D A [(h0, .inr (9, [.ref h1, .ref u0, .int 4, .int 0])), (h1, .inl (k1, 600, .inl f_2632))] := by rw [e_f_2632]; exact hD
  refine lv_aload_n hx hb dX9_put_30 rfl (lv_at hl 1 rfl) ?_
  refine lv_dup hx hb dX9_put_31 rfl ?_
  refine va_get (D := (dC, dI)) (ci := 9) (v := .int 4) (C := RX9) (T := TX9) (N := 4) hx hb hG zuX9 hown hK hP 0 rfl rfl 2 (by decide) (hG _ zw13) (fun _ h9 => h9) rfl dX9_put_32 ?_
  refine lv_iconst (v := 1) hx hb dX9_put_35 (by decide) ?_
  refine lv_iadd hx hb dX9_put_36 ?_
  refine lv_topi (fun z_2633 e_z_2633 => ?_)
  obtain rfl : z_2633 = (5 : Int32) := e_z_2633.trans (by decide)
  refine va_put (D := (dC, dI)) (ci := 9) (v := .int 5) (ty := .int) (C := RX9) (T := TX9) (N := 4) hx hb hG zuX9 tyX9 tyX9_ok nmX9 hown hK hP hD hS 0 rfl rfl 2 (by decide) (hG _ zw13) (fun _ h9 => h9) rfl (by decide +kernel) rfl rfl (Nat.le_of_ble_eq_true rfl) dX9_put_37 (fun H locs hP hD hS => ?_)
  have hP : va_P (dC, dI) vwCl [(h0, .inr (9, [.ref h1, .ref u0, .int 5, .int 0])), (h1, .inl (k1, 600, .inl f_2632))] H := hP
  have hD : va_D A [(h0, .inr (9, [.ref h1, .ref u0, .int 5, .int 0])), (h1, .inl (k1, 600, .inl f_2632))] := hD
  refine lv_iinc (v := 16) (lv' := [(2, .int 16), (0, .ref h0), (1, .int s0)]) hx hb dX9_put_40 hl (k := 0) rfl (by decide) (by decide) rfl (fun ls hl => ?_)
  refine lv_goto (tgt := 3) hx hb dX9_put_43 (by decide) ?_
  refine lv_iload_n hx hb dX9_put_3 rfl (lv_at hl 0 rfl) ?_
  refine lv_if_lt (tgt := 46) hx hb dX9_put_4 (by decide) (fun c_2634 => absurd c_2634 (by decide)) (fun c_2634 => ?_)
  refine lv_aload_n hx hb dX9_put_7 rfl (lv_at hl 1 rfl) ?_
  refine va_get (D := (dC, dI)) (ci := 9) (v := .int 5) (C := RX9) (T := TX9) (N := 4) hx hb hG zuX9 hown hK hP 0 rfl rfl 2 (by decide) (hG _ zw13) (fun _ h9 => h9) rfl dX9_put_8 ?_
  refine lv_sipush (v := 600) hx hb dX9_put_11 (by decide) ?_
  refine lv_icmp_ge (tgt := 46) hx hb dX9_put_14 (by decide) (fun c_2635 => absurd c_2635 (by decide)) (fun c_2635 => ?_)
  refine lv_aload_n hx hb dX9_put_17 rfl (lv_at hl 1 rfl) ?_
  refine va_get (D := (dC, dI)) (ci := 9) (v := .ref h1) (C := RX9) (T := TX9) (N := 4) hx hb hG zuX9 hown hK hP 0 rfl rfl 0 (by decide) (hG _ zw11) (fun _ h9 => h9) rfl dX9_put_18 ?_
  refine lv_aload_n hx hb dX9_put_21 rfl (lv_at hl 1 rfl) ?_
  refine va_get (D := (dC, dI)) (ci := 9) (v := .int 5) (C := RX9) (T := TX9) (N := 4) hx hb hG zuX9 hown hK hP 0 rfl rfl 2 (by decide) (hG _ zw13) (fun _ h9 => h9) rfl dX9_put_22 ?_
  refine lv_iload_n hx hb dX9_put_25 rfl (lv_at hl 2 rfl) ?_
  refine lv_iload_n hx hb dX9_put_26 rfl (lv_at hl 0 rfl) ?_
  refine lv_iushr hx hb dX9_put_27 rfl ?_
  refine lv_topi (fun z_2636 e_z_2636 => ?_)
  refine lv_i2b hx hb dX9_put_28 rfl ?_
  refine lv_topi (fun z_2637 e_z_2637 => ?_)
  refine va_bast hx hb hK hP hD hS 1 0 rfl rfl (zin_lit (by decide)) dX9_put_29 (fun H locs hP hD hS => ?_)
  obtain ⟨f_2638, e_f_2638⟩ : ∃ z : Nat → Int32, z = upd f_2632 5 (vp_nar .byte z_2637) := ⟨_, rfl⟩
  have hP : va_P (dC, dI) vwCl [(h0, .inr (9, [.ref h1, .ref u0, .int 5, .int 0])), (h1, .inl (k1, 600, .inl f_2638))] H := by rw [e_f_2638]; exact hP
  have hD : va_D A [(h0, .inr (9, [.ref h1, .ref u0, .int 5, .int 0])), (h1, .inl (k1, 600, .inl f_2638))] := by rw [e_f_2638]; exact hD
  refine lv_aload_n hx hb dX9_put_30 rfl (lv_at hl 1 rfl) ?_
  refine lv_dup hx hb dX9_put_31 rfl ?_
  refine va_get (D := (dC, dI)) (ci := 9) (v := .int 5) (C := RX9) (T := TX9) (N := 4) hx hb hG zuX9 hown hK hP 0 rfl rfl 2 (by decide) (hG _ zw13) (fun _ h9 => h9) rfl dX9_put_32 ?_
  refine lv_iconst (v := 1) hx hb dX9_put_35 (by decide) ?_
  refine lv_iadd hx hb dX9_put_36 ?_
  refine lv_topi (fun z_2639 e_z_2639 => ?_)
  obtain rfl : z_2639 = (6 : Int32) := e_z_2639.trans (by decide)
  refine va_put (D := (dC, dI)) (ci := 9) (v := .int 6) (ty := .int) (C := RX9) (T := TX9) (N := 4) hx hb hG zuX9 tyX9 tyX9_ok nmX9 hown hK hP hD hS 0 rfl rfl 2 (by decide) (hG _ zw13) (fun _ h9 => h9) rfl (by decide +kernel) rfl rfl (Nat.le_of_ble_eq_true rfl) dX9_put_37 (fun H locs hP hD hS => ?_)
  have hP : va_P (dC, dI) vwCl [(h0, .inr (9, [.ref h1, .ref u0, .int 6, .int 0])), (h1, .inl (k1, 600, .inl f_2638))] H := hP
  have hD : va_D A [(h0, .inr (9, [.ref h1, .ref u0, .int 6, .int 0])), (h1, .inl (k1, 600, .inl f_2638))] := hD
  refine lv_iinc (v := 8) (lv' := [(2, .int 8), (0, .ref h0), (1, .int s0)]) hx hb dX9_put_40 hl (k := 0) rfl (by decide) (by decide) rfl (fun ls hl => ?_)
  refine lv_goto (tgt := 3) hx hb dX9_put_43 (by decide) ?_
  refine lv_iload_n hx hb dX9_put_3 rfl (lv_at hl 0 rfl) ?_
  refine lv_if_lt (tgt := 46) hx hb dX9_put_4 (by decide) (fun c_2640 => absurd c_2640 (by decide)) (fun c_2640 => ?_)
  refine lv_aload_n hx hb dX9_put_7 rfl (lv_at hl 1 rfl) ?_
  refine va_get (D := (dC, dI)) (ci := 9) (v := .int 6) (C := RX9) (T := TX9) (N := 4) hx hb hG zuX9 hown hK hP 0 rfl rfl 2 (by decide) (hG _ zw13) (fun _ h9 => h9) rfl dX9_put_8 ?_
  refine lv_sipush (v := 600) hx hb dX9_put_11 (by decide) ?_
  refine lv_icmp_ge (tgt := 46) hx hb dX9_put_14 (by decide) (fun c_2641 => absurd c_2641 (by decide)) (fun c_2641 => ?_)
  refine lv_aload_n hx hb dX9_put_17 rfl (lv_at hl 1 rfl) ?_
  refine va_get (D := (dC, dI)) (ci := 9) (v := .ref h1) (C := RX9) (T := TX9) (N := 4) hx hb hG zuX9 hown hK hP 0 rfl rfl 0 (by decide) (hG _ zw11) (fun _ h9 => h9) rfl dX9_put_18 ?_
  refine lv_aload_n hx hb dX9_put_21 rfl (lv_at hl 1 rfl) ?_
  refine va_get (D := (dC, dI)) (ci := 9) (v := .int 6) (C := RX9) (T := TX9) (N := 4) hx hb hG zuX9 hown hK hP 0 rfl rfl 2 (by decide) (hG _ zw13) (fun _ h9 => h9) rfl dX9_put_22 ?_
  refine lv_iload_n hx hb dX9_put_25 rfl (lv_at hl 2 rfl) ?_
  refine lv_iload_n hx hb dX9_put_26 rfl (lv_at hl 0 rfl) ?_
  refine lv_iushr hx hb dX9_put_27 rfl ?_
  refine lv_topi (fun z_2642 e_z_2642 => ?_)
  refine lv_i2b hx hb dX9_put_28 rfl ?_
  refine lv_topi (fun z_2643 e_z_2643 => ?_)
  refine va_bast hx hb hK hP hD hS 1 0 rfl rfl (zin_lit (by decide)) dX9_put_29 (fun H locs hP hD hS => ?_)
  obtain ⟨f_2644, e_f_2644⟩ : ∃ z : Nat → Int32, z = upd f_2638 6 (vp_nar .byte z_2643) := ⟨_, rfl⟩
  have hP : va_P (dC, dI) vwCl [(h0, .inr (9, [.ref h1, .ref u0, .int 6, .int 0])), (h1, .inl (k1, 600, .inl f_2644))] H := by rw [e_f_2644]; exact hP
  have hD : va_D A [(h0, .inr (9, [.ref h1, .ref u0, .int 6, .int 0])), (h1, .inl (k1, 600, .inl f_2644))] := by rw [e_f_2644]; exact hD
  refine lv_aload_n hx hb dX9_put_30 rfl (lv_at hl 1 rfl) ?_
  refine lv_dup hx hb dX9_put_31 rfl ?_
  refine va_get (D := (dC, dI)) (ci := 9) (v := .int 6) (C := RX9) (T := TX9) (N := 4) hx hb hG zuX9 hown hK hP 0 rfl rfl 2 (by decide) (hG _ zw13) (fun _ h9 => h9) rfl dX9_put_32 ?_
  refine lv_iconst (v := 1) hx hb dX9_put_35 (by decide) ?_
  refine lv_iadd hx hb dX9_put_36 ?_
  refine lv_topi (fun z_2645 e_z_2645 => ?_)
  obtain rfl : z_2645 = (7 : Int32) := e_z_2645.trans (by decide)
  refine va_put (D := (dC, dI)) (ci := 9) (v := .int 7) (ty := .int) (C := RX9) (T := TX9) (N := 4) hx hb hG zuX9 tyX9 tyX9_ok nmX9 hown hK hP hD hS 0 rfl rfl 2 (by decide) (hG _ zw13) (fun _ h9 => h9) rfl (by decide +kernel) rfl rfl (Nat.le_of_ble_eq_true rfl) dX9_put_37 (fun H locs hP hD hS => ?_)
  have hP : va_P (dC, dI) vwCl [(h0, .inr (9, [.ref h1, .ref u0, .int 7, .int 0])), (h1, .inl (k1, 600, .inl f_2644))] H := hP
  have hD : va_D A [(h0, .inr (9, [.ref h1, .ref u0, .int 7, .int 0])), (h1, .inl (k1, 600, .inl f_2644))] := hD
  refine lv_iinc (v := 0) (lv' := [(2, .int 0), (0, .ref h0), (1, .int s0)]) hx hb dX9_put_40 hl (k := 0) rfl (by decide) (by decide) rfl (fun ls hl => ?_)
  refine lv_goto (tgt := 3) hx hb dX9_put_43 (by decide) ?_
  refine lv_iload_n hx hb dX9_put_3 rfl (lv_at hl 0 rfl) ?_
  refine lv_if_lt (tgt := 46) hx hb dX9_put_4 (by decide) (fun c_2646 => absurd c_2646 (by decide)) (fun c_2646 => ?_)
  refine lv_aload_n hx hb dX9_put_7 rfl (lv_at hl 1 rfl) ?_
  refine va_get (D := (dC, dI)) (ci := 9) (v := .int 7) (C := RX9) (T := TX9) (N := 4) hx hb hG zuX9 hown hK hP 0 rfl rfl 2 (by decide) (hG _ zw13) (fun _ h9 => h9) rfl dX9_put_8 ?_
  refine lv_sipush (v := 600) hx hb dX9_put_11 (by decide) ?_
  refine lv_icmp_ge (tgt := 46) hx hb dX9_put_14 (by decide) (fun c_2647 => absurd c_2647 (by decide)) (fun c_2647 => ?_)
  refine lv_aload_n hx hb dX9_put_17 rfl (lv_at hl 1 rfl) ?_
  refine va_get (D := (dC, dI)) (ci := 9) (v := .ref h1) (C := RX9) (T := TX9) (N := 4) hx hb hG zuX9 hown hK hP 0 rfl rfl 0 (by decide) (hG _ zw11) (fun _ h9 => h9) rfl dX9_put_18 ?_
  refine lv_aload_n hx hb dX9_put_21 rfl (lv_at hl 1 rfl) ?_
  refine va_get (D := (dC, dI)) (ci := 9) (v := .int 7) (C := RX9) (T := TX9) (N := 4) hx hb hG zuX9 hown hK hP 0 rfl rfl 2 (by decide) (hG _ zw13) (fun _ h9 => h9) rfl dX9_put_22 ?_
  refine lv_iload_n hx hb dX9_put_25 rfl (lv_at hl 2 rfl) ?_
  refine lv_iload_n hx hb dX9_put_26 rfl (lv_at hl 0 rfl) ?_
  refine lv_iushr hx hb dX9_put_27 rfl ?_
  refine lv_topi (fun z_2648 e_z_2648 => ?_)
  refine lv_i2b hx hb dX9_put_28 rfl ?_
  refine lv_topi (fun z_2649 e_z_2649 => ?_)
  refine va_bast hx hb hK hP hD hS 1 0 rfl rfl (zin_lit (by decide)) dX9_put_29 (fun H locs hP hD hS => ?_)
  obtain ⟨f_2650, e_f_2650⟩ : ∃ z : Nat → Int32, z = upd f_2644 7 (vp_nar .byte z_2649) := ⟨_, rfl⟩
  have hP : va_P (dC, dI) vwCl [(h0, .inr (9, [.ref h1, .ref u0, .int 7, .int 0])), (h1, .inl (k1, 600, .inl f_2650))] H := by rw [e_f_2650]; exact hP
  have hD : va_D A [(h0, .inr (9, [.ref h1, .ref u0, .int 7, .int 0])), (h1, .inl (k1, 600, .inl f_2650))] := by rw [e_f_2650]; exact hD
  refine lv_aload_n hx hb dX9_put_30 rfl (lv_at hl 1 rfl) ?_
  refine lv_dup hx hb dX9_put_31 rfl ?_
  refine va_get (D := (dC, dI)) (ci := 9) (v := .int 7) (C := RX9) (T := TX9) (N := 4) hx hb hG zuX9 hown hK hP 0 rfl rfl 2 (by decide) (hG _ zw13) (fun _ h9 => h9) rfl dX9_put_32 ?_
  refine lv_iconst (v := 1) hx hb dX9_put_35 (by decide) ?_
  refine lv_iadd hx hb dX9_put_36 ?_
  refine lv_topi (fun z_2651 e_z_2651 => ?_)
  obtain rfl : z_2651 = (8 : Int32) := e_z_2651.trans (by decide)
  refine va_put (D := (dC, dI)) (ci := 9) (v := .int 8) (ty := .int) (C := RX9) (T := TX9) (N := 4) hx hb hG zuX9 tyX9 tyX9_ok nmX9 hown hK hP hD hS 0 rfl rfl 2 (by decide) (hG _ zw13) (fun _ h9 => h9) rfl (by decide +kernel) rfl rfl (Nat.le_of_ble_eq_true rfl) dX9_put_37 (fun H locs hP hD hS => ?_)
  have hP : va_P (dC, dI) vwCl [(h0, .inr (9, [.ref h1, .ref u0, .int 8, .int 0])), (h1, .inl (k1, 600, .inl f_2650))] H := hP
  have hD : va_D A [(h0, .inr (9, [.ref h1, .ref u0, .int 8, .int 0])), (h1, .inl (k1, 600, .inl f_2650))] := hD
  refine lv_iinc (v := (-8)) (lv' := [(2, .int (-8)), (0, .ref h0), (1, .int s0)]) hx hb dX9_put_40 hl (k := 0) rfl (by decide) (by decide) rfl (fun ls hl => ?_)
  refine lv_goto (tgt := 3) hx hb dX9_put_43 (by decide) ?_
  refine lv_iload_n hx hb dX9_put_3 rfl (lv_at hl 0 rfl) ?_
  refine lv_if_lt (tgt := 46) hx hb dX9_put_4 (by decide) (fun c_2652 => ?_) (fun c_2652 => absurd c_2652 (by decide))
  have hP9 := hP.sub (ws' := [(h0, .inr (9, [.ref h1, .ref u0, .int 8, .int 0])), (h1, .inl (k1, 600, .inl f_2650))]) [0, 1] rfl
  have hD9 := hD.sub (ws' := [(h0, .inr (9, [.ref h1, .ref u0, .int 8, .int 0])), (h1, .inl (k1, 600, .inl f_2650))]) [0, 1] (by decide) rfl
  have hK9 := hK.sub (tys' := [(k1, .byte)]) [0] rfl
  refine W.widen (k := 0) (n := 0) (by decide) (by decide) ?_
  exact W.vret hx hb hr (fun t ht hW => ⟨⟨(), rfl, trivial, f_2650, by rw [ht]; exact hP9, va_K.moved hW.alike hK9, hD9⟩, hS.F ht⟩) hS.2.2 dX9_put_46
set_option maxHeartbeats 4000000 in
set_option maxRecDepth 100000 in
theorem kX9_put_2 (l : Launch) (dC : Nat → ClassId) (dI : Nat → Nat → Nat) (h0 h1 u0 : Nat) (k1 : ClassId) (sz : Nat) (s0 : Int32) (s1 : Nat → Int32) : Met l yX9_put (zw yX9_put cX9_put 3 none) { frames := 0, cells := 0, slots := 0, locals := 0 } (zPc dC dI [.ref h0, .int s0] sz [(h0, .inr (9, [.ref h1, .ref u0, .int 8, .int 0])), (h1, .inl (k1, 600, .inl s1))] [(k1, .byte)]) (va_Qv (fun _ : Unit => True) (fun (_ : Unit) (t : State) => ∃ (f0 : Nat → Int32), va_P (dC, dI) vwCl [(h0, .inr (9, [.ref h1, .ref u0, .int 12, .int 0])), (h1, .inl (k1, 600, .inl f0))] t.heap ∧ va_K (dC, dI) vwCl [(k1, .byte)] t ∧ va_D (va_A [(h0, .inr (9, [.ref h1, .ref u0, .int 8, .int 0])), (h1, .inl (k1, 600, .inl s1))] sz) [(h0, .inr (9, [.ref h1, .ref u0, .int 12, .int 0])), (h1, .inl (k1, 600, .inl f0))]) (va_A [(h0, .inr (9, [.ref h1, .ref u0, .int 8, .int 0])), (h1, .inl (k1, 600, .inl s1))] sz)) 0 0 (va_A [(h0, .inr (9, [.ref h1, .ref u0, .int 8, .int 0])), (h1, .inl (k1, 600, .inl s1))] sz) := by
  refine Met.ofW (cc := cX9_put) (maxL := 3) (ret := none) (by decide) rfl ?_
  intro p e s m args below meth c s₁ B hml hv
  obtain ⟨rfl, hsz, hP, hK, hD0, hE, hZ⟩ := hv
  have hx := B.exec
  have hb := B.bytes
  have hr := B.returns
  have hG : ∀ w ∈ zG, w.before _ s = true := fun w h => atoms_spec (ws := (zw yX9_put cX9_put 3 none)) B.pre w (List.mem_cons_of_mem _ h)
  have hown : s.vm.findClass RX9 = some m.cls := findClass_of_methodNamed B.named
  have hlocks := B.notSynchronized
  subst hsz
  have hD := hD0.self (sz := s.heap.size)
  generalize hAe : va_A [(h0, .inr (9, [.ref h1, .ref u0, .int 8, .int 0])), (h1, .inl (k1, 600, .inl s1))] s.heap.size = A at hD hZ ⊢
  have hA : ∀ q : Nat, s.heap.size ≤ q → A q := fun q h => by rw [← hAe]; exact Or.inr h
  have hS : va_S A s.heap s.heap [] := va_S.rf
  have hl := lv_entry ([.ref h0, .int s0]) (n := 3) (Nat.le_of_ble_eq_true rfl)
  rw [lg_entry_eq]
  generalize (lg_sl ([.ref h0, .int s0]) ++ List.replicate (3 - (lg_sl ([.ref h0, .int s0])).length) Slot.unset).toArray = ls at hl ⊢
  have hl : lv_has ls 3 [(0, .ref h0), (1, .int s0)] := hl
  refine lv_bipush (v := 24) hx hb dX9_put_0 (by decide) ?_
  refine lv_istore_n (lv' := [(2, .int 24), (0, .ref h0), (1, .int s0)]) hx hb dX9_put_2 rfl hl (by decide) rfl (fun ls hl => ?_)
  refine lv_iload_n hx hb dX9_put_3 rfl (lv_at hl 0 rfl) ?_
  refine lv_if_lt (tgt := 46) hx hb dX9_put_4 (by decide) (fun c_2705 => absurd c_2705 (by decide)) (fun c_2705 => ?_)
  refine lv_aload_n hx hb dX9_put_7 rfl (lv_at hl 1 rfl) ?_
  refine va_get (D := (dC, dI)) (ci := 9) (v := .int 8) (C := RX9) (T := TX9) (N := 4) hx hb hG zuX9 hown hK hP 0 rfl rfl 2 (by decide) (hG _ zw13) (fun _ h9 => h9) rfl dX9_put_8 ?_
  refine lv_sipush (v := 600) hx hb dX9_put_11 (by decide) ?_
  refine lv_icmp_ge (tgt := 46) hx hb dX9_put_14 (by decide) (fun c_2706 => absurd c_2706 (by decide)) (fun c_2706 => ?_)
  refine lv_aload_n hx hb dX9_put_17 rfl (lv_at hl 1 rfl) ?_
  refine va_get (D := (dC, dI)) (ci := 9) (v := .ref h1) (C := RX9) (T := TX9) (N := 4) hx hb hG zuX9 hown hK hP 0 rfl rfl 0 (by decide) (hG _ zw11) (fun _ h9 => h9) rfl dX9_put_18 ?_
  refine lv_aload_n hx hb dX9_put_21 rfl (lv_at hl 1 rfl) ?_
  refine va_get (D := (dC, dI)) (ci := 9) (v := .int 8) (C := RX9) (T := TX9) (N := 4) hx hb hG zuX9 hown hK hP 0 rfl rfl 2 (by decide) (hG _ zw13) (fun _ h9 => h9) rfl dX9_put_22 ?_
  refine lv_iload_n hx hb dX9_put_25 rfl (lv_at hl 2 rfl) ?_
  refine lv_iload_n hx hb dX9_put_26 rfl (lv_at hl 0 rfl) ?_
  refine lv_iushr hx hb dX9_put_27 rfl ?_
  refine lv_topi (fun z_2707 e_z_2707 => ?_)
  refine lv_i2b hx hb dX9_put_28 rfl ?_
  refine lv_topi (fun z_2708 e_z_2708 => ?_)
  refine va_bast hx hb hK hP hD hS 1 0 rfl rfl (zin_lit (by decide)) dX9_put_29 (fun H locs hP hD hS => ?_)
  obtain ⟨f_2709, e_f_2709⟩ : ∃ z : Nat → Int32, z = upd s1 8 (vp_nar .byte z_2708) := ⟨_, rfl⟩
  have hP : va_P (dC, dI) vwCl [(h0, .inr (9, [.ref h1, .ref u0, .int 8, .int 0])), (h1, .inl (k1, 600, .inl f_2709))] H := by rw [e_f_2709]; exact hP
  have hD : va_D A [(h0, .inr (9, [.ref h1, .ref u0, .int 8, .int 0])), (h1, .inl (k1, 600, .inl f_2709))] := by rw [e_f_2709]; exact hD
  refine lv_aload_n hx hb dX9_put_30 rfl (lv_at hl 1 rfl) ?_
  refine lv_dup hx hb dX9_put_31 rfl ?_
  refine va_get (D := (dC, dI)) (ci := 9) (v := .int 8) (C := RX9) (T := TX9) (N := 4) hx hb hG zuX9 hown hK hP 0 rfl rfl 2 (by decide) (hG _ zw13) (fun _ h9 => h9) rfl dX9_put_32 ?_
  refine lv_iconst (v := 1) hx hb dX9_put_35 (by decide) ?_
  refine lv_iadd hx hb dX9_put_36 ?_
  refine lv_topi (fun z_2710 e_z_2710 => ?_)
  obtain rfl : z_2710 = (9 : Int32) := e_z_2710.trans (by decide)
  refine va_put (D := (dC, dI)) (ci := 9) (v := .int 9) (ty := .int) (C := RX9) (T := TX9) (N := 4) hx hb hG zuX9 tyX9 tyX9_ok nmX9 hown hK hP hD hS 0 rfl rfl 2 (by decide) (hG _ zw13) (fun _ h9 => h9) rfl (by decide +kernel) rfl rfl (Nat.le_of_ble_eq_true rfl) dX9_put_37 (fun H locs hP hD hS => ?_)
  have hP : va_P (dC, dI) vwCl [(h0, .inr (9, [.ref h1, .ref u0, .int 9, .int 0])), (h1, .inl (k1, 600, .inl f_2709))] H := hP
  have hD : va_D A [(h0, .inr (9, [.ref h1, .ref u0, .int 9, .int 0])), (h1, .inl (k1, 600, .inl f_2709))] := hD
  refine lv_iinc (v := 16) (lv' := [(2, .int 16), (0, .ref h0), (1, .int s0)]) hx hb dX9_put_40 hl (k := 0) rfl (by decide) (by decide) rfl (fun ls hl => ?_)
  refine lv_goto (tgt := 3) hx hb dX9_put_43 (by decide) ?_
  refine lv_iload_n hx hb dX9_put_3 rfl (lv_at hl 0 rfl) ?_
  refine lv_if_lt (tgt := 46) hx hb dX9_put_4 (by decide) (fun c_2711 => absurd c_2711 (by decide)) (fun c_2711 => ?_)
  refine lv_aload_n hx hb dX9_put_7 rfl (lv_at hl 1 rfl) ?_
  refine va_get (D := (dC, dI)) (ci := 9) (v := .int 9) (C := RX9) (T := TX9) (N := 4) hx hb hG zuX9 hown hK hP 0 rfl rfl 2 (by decide) (hG _ zw13) (fun _ h9 => h9) rfl dX9_put_8 ?_
  refine lv_sipush (v := 600) hx hb dX9_put_11 (by decide) ?_
  refine lv_icmp_ge (tgt := 46) hx hb dX9_put_14 (by decide) (fun c_2712 => absurd c_2712 (by decide)) (fun c_2712 => ?_)
  refine lv_aload_n hx hb dX9_put_17 rfl (lv_at hl 1 rfl) ?_
  refine va_get (D := (dC, dI)) (ci := 9) (v := .ref h1) (C := RX9) (T := TX9) (N := 4) hx hb hG zuX9 hown hK hP 0 rfl rfl 0 (by decide) (hG _ zw11) (fun _ h9 => h9) rfl dX9_put_18 ?_
  refine lv_aload_n hx hb dX9_put_21 rfl (lv_at hl 1 rfl) ?_
  refine va_get (D := (dC, dI)) (ci := 9) (v := .int 9) (C := RX9) (T := TX9) (N := 4) hx hb hG zuX9 hown hK hP 0 rfl rfl 2 (by decide) (hG _ zw13) (fun _ h9 => h9) rfl dX9_put_22 ?_
  refine lv_iload_n hx hb dX9_put_25 rfl (lv_at hl 2 rfl) ?_
  refine lv_iload_n hx hb dX9_put_26 rfl (lv_at hl 0 rfl) ?_
  refine lv_iushr hx hb dX9_put_27 rfl ?_
  refine lv_topi (fun z_2713 e_z_2713 => ?_)
  refine lv_i2b hx hb dX9_put_28 rfl ?_
  refine lv_topi (fun z_2714 e_z_2714 => ?_)
  refine va_bast hx hb hK hP hD hS 1 0 rfl rfl (zin_lit (by decide)) dX9_put_29 (fun H locs hP hD hS => ?_)
  obtain ⟨f_2715, e_f_2715⟩ : ∃ z : Nat → Int32, z = upd f_2709 9 (vp_nar .byte z_2714) := ⟨_, rfl⟩
  have hP : va_P (dC, dI) vwCl [(h0, .inr (9, [.ref h1, .ref u0, .int 9, .int 0])), (h1, .inl (k1, 600, .inl f_2715))] H := by rw [e_f_2715]; exact hP
  have hD : va_D A [(h0, .inr (9, [.ref h1, .ref u0, .int 9, .int 0])), (h1, .inl (k1, 600, .inl f_2715))] := by rw [e_f_2715]; exact hD
  refine lv_aload_n hx hb dX9_put_30 rfl (lv_at hl 1 rfl) ?_
  refine lv_dup hx hb dX9_put_31 rfl ?_
  refine va_get (D := (dC, dI)) (ci := 9) (v := .int 9) (C := RX9) (T := TX9) (N := 4) hx hb hG zuX9 hown hK hP 0 rfl rfl 2 (by decide) (hG _ zw13) (fun _ h9 => h9) rfl dX9_put_32 ?_
  refine lv_iconst (v := 1) hx hb dX9_put_35 (by decide) ?_
  refine lv_iadd hx hb dX9_put_36 ?_
  refine lv_topi (fun z_2716 e_z_2716 => ?_)
  obtain rfl : z_2716 = (10 : Int32) := e_z_2716.trans (by decide)
  refine va_put (D := (dC, dI)) (ci := 9) (v := .int 10) (ty := .int) (C := RX9) (T := TX9) (N := 4) hx hb hG zuX9 tyX9 tyX9_ok nmX9 hown hK hP hD hS 0 rfl rfl 2 (by decide) (hG _ zw13) (fun _ h9 => h9) rfl (by decide +kernel) rfl rfl (Nat.le_of_ble_eq_true rfl) dX9_put_37 (fun H locs hP hD hS => ?_)
  have hP : va_P (dC, dI) vwCl [(h0, .inr (9, [.ref h1, .ref u0, .int 10, .int 0])), (h1, .inl (k1, 600, .inl f_2715))] H := hP
  have hD : va_D A [(h0, .inr (9, [.ref h1, .ref u0, .int 10, .int 0])), (h1, .inl (k1, 600, .inl f_2715))] := hD
  refine lv_iinc (v := 8) (lv' := [(2, .int 8), (0, .ref h0), (1, .int s0)]) hx hb dX9_put_40 hl (k := 0) rfl (by decide) (by decide) rfl (fun ls hl => ?_)
  refine lv_goto (tgt := 3) hx hb dX9_put_43 (by decide) ?_
  refine lv_iload_n hx hb dX9_put_3 rfl (lv_at hl 0 rfl) ?_
  refine lv_if_lt (tgt := 46) hx hb dX9_put_4 (by decide) (fun c_2717 => absurd c_2717 (by decide)) (fun c_2717 => ?_)
  refine lv_aload_n hx hb dX9_put_7 rfl (lv_at hl 1 rfl) ?_
  refine va_get (D := (dC, dI)) (ci := 9) (v := .int 10) (C := RX9) (T := TX9) (N := 4) hx hb hG zuX9 hown hK hP 0 rfl rfl 2 (by decide) (hG _ zw13) (fun _ h9 => h9) rfl dX9_put_8 ?_
  refine lv_sipush (v := 600) hx hb dX9_put_11 (by decide) ?_
  refine lv_icmp_ge (tgt := 46) hx hb dX9_put_14 (by decide) (fun c_2718 => absurd c_2718 (by decide)) (fun c_2718 => ?_)
  refine lv_aload_n hx hb dX9_put_17 rfl (lv_at hl 1 rfl) ?_
  refine va_get (D := (dC, dI)) (ci := 9) (v := .ref h1) (C := RX9) (T := TX9) (N := 4) hx hb hG zuX9 hown hK hP 0 rfl rfl 0 (by decide) (hG _ zw11) (fun _ h9 => h9) rfl dX9_put_18 ?_
  refine lv_aload_n hx hb dX9_put_21 rfl (lv_at hl 1 rfl) ?_
  refine va_get (D := (dC, dI)) (ci := 9) (v := .int 10) (C := RX9) (T := TX9) (N := 4) hx hb hG zuX9 hown hK hP 0 rfl rfl 2 (by decide) (hG _ zw13) (fun _ h9 => h9) rfl dX9_put_22 ?_
  refine lv_iload_n hx hb dX9_put_25 rfl (lv_at hl 2 rfl) ?_
  refine lv_iload_n hx hb dX9_put_26 rfl (lv_at hl 0 rfl) ?_
  refine lv_iushr hx hb dX9_put_27 rfl ?_
  refine lv_topi (fun z_2719 e_z_2719 => ?_)
  refine lv_i2b hx hb dX9_put_28 rfl ?_
  refine lv_topi (fun z_2720 e_z_2720 => ?_)
  refine va_bast hx hb hK hP hD hS 1 0 rfl rfl (zin_lit (by decide)) dX9_put_29 (fun H locs hP hD hS => ?_)
  obtain ⟨f_2721, e_f_2721⟩ : ∃ z : Nat → Int32, z = upd f_2715 10 (vp_nar .byte z_2720) := ⟨_, rfl⟩
  have hP : va_P (dC, dI) vwCl [(h0, .inr (9, [.ref h1, .ref u0, .int 10, .int 0])), (h1, .inl (k1, 600, .inl f_2721))] H := by rw [e_f_2721]; exact hP
  have hD : va_D A [(h0, .inr (9, [.ref h1, .ref u0, .int 10, .int 0])), (h1, .inl (k1, 600, .inl f_2721))] := by rw [e_f_2721]; exact hD
  refine lv_aload_n hx hb dX9_put_30 rfl (lv_at hl 1 rfl) ?_
  refine lv_dup hx hb dX9_put_31 rfl ?_
  refine va_get (D := (dC, dI)) (ci := 9) (v := .int 10) (C := RX9) (T := TX9) (N := 4) hx hb hG zuX9 hown hK hP 0 rfl rfl 2 (by decide) (hG _ zw13) (fun _ h9 => h9) rfl dX9_put_32 ?_
  refine lv_iconst (v := 1) hx hb dX9_put_35 (by decide) ?_
  refine lv_iadd hx hb dX9_put_36 ?_
  refine lv_topi (fun z_2722 e_z_2722 => ?_)
  obtain rfl : z_2722 = (11 : Int32) := e_z_2722.trans (by decide)
  refine va_put (D := (dC, dI)) (ci := 9) (v := .int 11) (ty := .int) (C := RX9) (T := TX9) (N := 4) hx hb hG zuX9 tyX9 tyX9_ok nmX9 hown hK hP hD hS 0 rfl rfl 2 (by decide) (hG _ zw13) (fun _ h9 => h9) rfl (by decide +kernel) rfl rfl (Nat.le_of_ble_eq_true rfl) dX9_put_37 (fun H locs hP hD hS => ?_)
  have hP : va_P (dC, dI) vwCl [(h0, .inr (9, [.ref h1, .ref u0, .int 11, .int 0])), (h1, .inl (k1, 600, .inl f_2721))] H := hP
  have hD : va_D A [(h0, .inr (9, [.ref h1, .ref u0, .int 11, .int 0])), (h1, .inl (k1, 600, .inl f_2721))] := hD
  refine lv_iinc (v := 0) (lv' := [(2, .int 0), (0, .ref h0), (1, .int s0)]) hx hb dX9_put_40 hl (k := 0) rfl (by decide) (by decide) rfl (fun ls hl => ?_)
  refine lv_goto (tgt := 3) hx hb dX9_put_43 (by decide) ?_
  refine lv_iload_n hx hb dX9_put_3 rfl (lv_at hl 0 rfl) ?_
  refine lv_if_lt (tgt := 46) hx hb dX9_put_4 (by decide) (fun c_2723 => absurd c_2723 (by decide)) (fun c_2723 => ?_)
  refine lv_aload_n hx hb dX9_put_7 rfl (lv_at hl 1 rfl) ?_
  refine va_get (D := (dC, dI)) (ci := 9) (v := .int 11) (C := RX9) (T := TX9) (N := 4) hx hb hG zuX9 hown hK hP 0 rfl rfl 2 (by decide) (hG _ zw13) (fun _ h9 => h9) rfl dX9_put_8 ?_
  refine lv_sipush (v := 600) hx hb dX9_put_11 (by decide) ?_
  refine lv_icmp_ge (tgt := 46) hx hb dX9_put_14 (by decide) (fun c_2724 => absurd c_2724 (by decide)) (fun c_2724 => ?_)
  refine lv_aload_n hx hb dX9_put_17 rfl (lv_at hl 1 rfl) ?_
  refine va_get (D := (dC, dI)) (ci := 9) (v := .ref h1) (C := RX9) (T := TX9) (N := 4) hx hb hG zuX9 hown hK hP 0 rfl rfl 0 (by decide) (hG _ zw11) (fun _ h9 => h9) rfl dX9_put_18 ?_
  refine lv_aload_n hx hb dX9_put_21 rfl (lv_at hl 1 rfl) ?_
  refine va_get (D := (dC, dI)) (ci := 9) (v := .int 11) (C := RX9) (T := TX9) (N := 4) hx hb hG zuX9 hown hK hP 0 rfl rfl 2 (by decide) (hG _ zw13) (fun _ h9 => h9) rfl dX9_put_22 ?_
  refine lv_iload_n hx hb dX9_put_25 rfl (lv_at hl 2 rfl) ?_
  refine lv_iload_n hx hb dX9_put_26 rfl (lv_at hl 0 rfl) ?_
  refine lv_iushr hx hb dX9_put_27 rfl ?_
  refine lv_topi (fun z_2725 e_z_2725 => ?_)
  refine lv_i2b hx hb dX9_put_28 rfl ?_
  refine lv_topi (fun z_2726 e_z_2726 => ?_)
  refine va_bast hx hb hK hP hD hS 1 0 rfl rfl (zin_lit (by decide)) dX9_put_29 (fun H locs hP hD hS => ?_)
  obtain ⟨f_2727, e_f_2727⟩ : ∃ z : Nat → Int32, z = upd f_2721 11 (vp_nar .byte z_2726) := ⟨_, rfl⟩
  have hP : va_P (dC, dI) vwCl [(h0, .inr (9, [.ref h1, .ref u0, .int 11, .int 0])), (h1, .inl (k1, 600, .inl f_2727))] H := by rw [e_f_2727]; exact hP
  have hD : va_D A [(h0, .inr (9, [.ref h1, .ref u0, .int 11, .int 0])), (h1, .inl (k1, 600, .inl f_2727))] := by rw [e_f_2727]; exact hD
  refine lv_aload_n hx hb dX9_put_30 rfl (lv_at hl 1 rfl) ?_
  refine lv_dup hx hb dX9_put_31 rfl ?_
  refine va_get (D := (dC, dI)) (ci := 9) (v := .int 11) (C := RX9) (T := TX9) (N := 4) hx hb hG zuX9 hown hK hP 0 rfl rfl 2 (by decide) (hG _ zw13) (fun _ h9 => h9) rfl dX9_put_32 ?_
  refine lv_iconst (v := 1) hx hb dX9_put_35 (by decide) ?_
  refine lv_iadd hx hb dX9_put_36 ?_
  refine lv_topi (fun z_2728 e_z_2728 => ?_)
  obtain rfl : z_2728 = (12 : Int32) := e_z_2728.trans (by decide)
  refine va_put (D := (dC, dI)) (ci := 9) (v := .int 12) (ty := .int) (C := RX9) (T := TX9) (N := 4) hx hb hG zuX9 tyX9 tyX9_ok nmX9 hown hK hP hD hS 0 rfl rfl 2 (by decide) (hG _ zw13) (fun _ h9 => h9) rfl (by decide +kernel) rfl rfl (Nat.le_of_ble_eq_true rfl) dX9_put_37 (fun H locs hP hD hS => ?_)
  have hP : va_P (dC, dI) vwCl [(h0, .inr (9, [.ref h1, .ref u0, .int 12, .int 0])), (h1, .inl (k1, 600, .inl f_2727))] H := hP
  have hD : va_D A [(h0, .inr (9, [.ref h1, .ref u0, .int 12, .int 0])), (h1, .inl (k1, 600, .inl f_2727))] := hD
  refine lv_iinc (v := (-8)) (lv' := [(2, .int (-8)), (0, .ref h0), (1, .int s0)]) hx hb dX9_put_40 hl (k := 0) rfl (by decide) (by decide) rfl (fun ls hl => ?_)
  refine lv_goto (tgt := 3) hx hb dX9_put_43 (by decide) ?_
  refine lv_iload_n hx hb dX9_put_3 rfl (lv_at hl 0 rfl) ?_
  refine lv_if_lt (tgt := 46) hx hb dX9_put_4 (by decide) (fun c_2729 => ?_) (fun c_2729 => absurd c_2729 (by decide))
  have hP9 := hP.sub (ws' := [(h0, .inr (9, [.ref h1, .ref u0, .int 12, .int 0])), (h1, .inl (k1, 600, .inl f_2727))]) [0, 1] rfl
  have hD9 := hD.sub (ws' := [(h0, .inr (9, [.ref h1, .ref u0, .int 12, .int 0])), (h1, .inl (k1, 600, .inl f_2727))]) [0, 1] (by decide) rfl
  have hK9 := hK.sub (tys' := [(k1, .byte)]) [0] rfl
  refine W.widen (k := 0) (n := 0) (by decide) (by decide) ?_
  exact W.vret hx hb hr (fun t ht hW => ⟨⟨(), rfl, trivial, f_2727, by rw [ht]; exact hP9, va_K.moved hW.alike hK9, hD9⟩, hS.F ht⟩) hS.2.2 dX9_put_46
set_option maxHeartbeats 4000000 in
set_option maxRecDepth 100000 in
theorem kX9_put_3 (l : Launch) (dC : Nat → ClassId) (dI : Nat → Nat → Nat) (h0 h1 u0 : Nat) (k1 : ClassId) (sz : Nat) (s0 : Int32) (s1 : Nat → Int32) : Met l yX9_put (zw yX9_put cX9_put 3 none) { frames := 0, cells := 0, slots := 0, locals := 0 } (zPc dC dI [.ref h0, .int s0] sz [(h0, .inr (9, [.ref h1, .ref u0, .int 12, .int 0])), (h1, .inl (k1, 600, .inl s1))] [(k1, .byte)]) (va_Qv (fun _ : Unit => True) (fun (_ : Unit) (t : State) => ∃ (f0 : Nat → Int32), va_P (dC, dI) vwCl [(h0, .inr (9, [.ref h1, .ref u0, .int 16, .int 0])), (h1, .inl (k1, 600, .inl f0))] t.heap ∧ va_K (dC, dI) vwCl [(k1, .byte)] t ∧ va_D (va_A [(h0, .inr (9, [.ref h1, .ref u0, .int 12, .int 0])), (h1, .inl (k1, 600, .inl s1))] sz) [(h0, .inr (9, [.ref h1, .ref u0, .int 16, .int 0])), (h1, .inl (k1, 600, .inl f0))]) (va_A [(h0, .inr (9, [.ref h1, .ref u0, .int 12, .int 0])), (h1, .inl (k1, 600, .inl s1))] sz)) 0 0 (va_A [(h0, .inr (9, [.ref h1, .ref u0, .int 12, .int 0])), (h1, .inl (k1, 600, .inl s1))] sz) := by
  refine Met.ofW (cc := cX9_put) (maxL := 3) (ret := none) (by decide) rfl ?_
  intro p e s m args below meth c s₁ B hml hv
  obtain ⟨rfl, hsz, hP, hK, hD0, hE, hZ⟩ := hv
  have hx := B.exec
  have hb := B.bytes
  have hr := B.returns
  have hG : ∀ w ∈ zG, w.before _ s = true := fun w h => atoms_spec (ws := (zw yX9_put cX9_put 3 none)) B.pre w (List.mem_cons_of_mem _ h)
  have hown : s.vm.findClass RX9 = some m.cls := findClass_of_methodNamed B.named
  have hlocks := B.notSynchronized
  subst hsz
  have hD := hD0.self (sz := s.heap.size)
  generalize hAe : va_A [(h0, .inr (9, [.ref h1, .ref u0, .int 12, .int 0])), (h1, .inl (k1, 600, .inl s1))] s.heap.size = A at hD hZ ⊢
  have hA : ∀ q : Nat, s.heap.size ≤ q → A q := fun q h => by rw [← hAe]; exact Or.inr h
  have hS : va_S A s.heap s.heap [] := va_S.rf
  have hl := lv_entry ([.ref h0, .int s0]) (n := 3) (Nat.le_of_ble_eq_true rfl)
  rw [lg_entry_eq]
  generalize (lg_sl ([.ref h0, .int s0]) ++ List.replicate (3 - (lg_sl ([.ref h0, .int s0])).length) Slot.unset).toArray = ls at hl ⊢
  have hl : lv_has ls 3 [(0, .ref h0), (1, .int s0)] := hl
  refine lv_bipush (v := 24) hx hb dX9_put_0 (by decide) ?_
  refine lv_istore_n (lv' := [(2, .int 24), (0, .ref h0), (1, .int s0)]) hx hb dX9_put_2 rfl hl (by decide) rfl (fun ls hl => ?_)
  refine lv_iload_n hx hb dX9_put_3 rfl (lv_at hl 0 rfl) ?_
  refine lv_if_lt (tgt := 46) hx hb dX9_put_4 (by decide) (fun c_2782 => absurd c_2782 (by decide)) (fun c_2782 => ?_)
  refine lv_aload_n hx hb dX9_put_7 rfl (lv_at hl 1 rfl) ?_
  refine va_get (D := (dC, dI)) (ci := 9) (v := .int 12) (C := RX9) (T := TX9) (N := 4) hx hb hG zuX9 hown hK hP 0 rfl rfl 2 (by decide) (hG _ zw13) (fun _ h9 => h9) rfl dX9_put_8 ?_
  refine lv_sipush (v := 600) hx hb dX9_put_11 (by decide) ?_
  refine lv_icmp_ge (tgt := 46) hx hb dX9_put_14 (by decide) (fun c_2783 => absurd c_2783 (by decide)) (fun c_2783 => ?_)
  refine lv_aload_n hx hb dX9_put_17 rfl (lv_at hl 1 rfl) ?_
  refine va_get (D := (dC, dI)) (ci := 9) (v := .ref h1) (C := RX9) (T := TX9) (N := 4) hx hb hG zuX9 hown hK hP 0 rfl rfl 0 (by decide) (hG _ zw11) (fun _ h9 => h9) rfl dX9_put_18 ?_
  refine lv_aload_n hx hb dX9_put_21 rfl (lv_at hl 1 rfl) ?_
  refine va_get (D := (dC, dI)) (ci := 9) (v := .int 12) (C := RX9) (T := TX9) (N := 4) hx hb hG zuX9 hown hK hP 0 rfl rfl 2 (by decide) (hG _ zw13) (fun _ h9 => h9) rfl dX9_put_22 ?_
  refine lv_iload_n hx hb dX9_put_25 rfl (lv_at hl 2 rfl) ?_
  refine lv_iload_n hx hb dX9_put_26 rfl (lv_at hl 0 rfl) ?_
  refine lv_iushr hx hb dX9_put_27 rfl ?_
  refine lv_topi (fun z_2784 e_z_2784 => ?_)
  refine lv_i2b hx hb dX9_put_28 rfl ?_
  refine lv_topi (fun z_2785 e_z_2785 => ?_)
  refine va_bast hx hb hK hP hD hS 1 0 rfl rfl (zin_lit (by decide)) dX9_put_29 (fun H locs hP hD hS => ?_)
  obtain ⟨f_2786, e_f_2786⟩ : ∃ z : Nat → Int32, z = upd s1 12 (vp_nar .byte z_2785) := ⟨_, rfl⟩
  have hP : va_P (dC, dI) vwCl [(h0, .inr (9, [.ref h1, .ref u0, .int 12, .int 0])), (h1, .inl (k1, 600, .inl f_2786))] H := by rw [e_f_2786]; exact hP
  have hD : va_D A [(h0, .inr (9, [.ref h1, .ref u0, .int 12, .int 0])), (h1, .inl (k1, 600, .inl f_2786))] := by rw [e_f_2786]; exact hD
  refine lv_aload_n hx hb dX9_put_30 rfl (lv_at hl 1 rfl) ?_
  refine lv_dup hx hb dX9_put_31 rfl ?_
  refine va_get (D := (dC, dI)) (ci := 9) (v := .int 12) (C := RX9) (T := TX9) (N := 4) hx hb hG zuX9 hown hK hP 0 rfl rfl 2 (by decide) (hG _ zw13) (fun _ h9 => h9) rfl dX9_put_32 ?_
  refine lv_iconst (v := 1) hx hb dX9_put_35 (by decide) ?_
  refine lv_iadd hx hb dX9_put_36 ?_
  refine lv_topi (fun z_2787 e_z_2787 => ?_)
  obtain rfl : z_2787 = (13 : Int32) := e_z_2787.trans (by decide)
  refine va_put (D := (dC, dI)) (ci := 9) (v := .int 13) (ty := .int) (C := RX9) (T := TX9) (N := 4) hx hb hG zuX9 tyX9 tyX9_ok nmX9 hown hK hP hD hS 0 rfl rfl 2 (by decide) (hG _ zw13) (fun _ h9 => h9) rfl (by decide +kernel) rfl rfl (Nat.le_of_ble_eq_true rfl) dX9_put_37 (fun H locs hP hD hS => ?_)
  have hP : va_P (dC, dI) vwCl [(h0, .inr (9, [.ref h1, .ref u0, .int 13, .int 0])), (h1, .inl (k1, 600, .inl f_2786))] H := hP
  have hD : va_D A [(h0, .inr (9, [.ref h1, .ref u0, .int 13, .int 0])), (h1, .inl (k1, 600, .inl f_2786))] := hD
  refine lv_iinc (v := 16) (lv' := [(2, .int 16), (0, .ref h0), (1, .int s0)]) hx hb dX9_put_40 hl (k := 0) rfl (by decide) (by decide) rfl (fun ls hl => ?_)
  refine lv_goto (tgt := 3) hx hb dX9_put_43 (by decide) ?_
  refine lv_iload_n hx hb dX9_put_3 rfl (lv_at hl 0 rfl) ?_
  refine lv_if_lt (tgt := 46) hx hb dX9_put_4 (by decide) (fun c_2788 => absurd c_2788 (by decide)) (fun c_2788 => ?_)
  refine lv_aload_n hx hb dX9_put_7 rfl (lv_at hl 1 rfl) ?_
  refine va_get (D := (dC, dI)) (ci := 9) (v := .int 13) (C := RX9) (T := TX9) (N := 4) hx hb hG zuX9 hown hK hP 0 rfl rfl 2 (by decide) (hG _ zw13) (fun _ h9 => h9) rfl dX9_put_8 ?_
  refine lv_sipush (v := 600) hx hb dX9_put_11 (by decide) ?_
  refine lv_icmp_ge (tgt := 46) hx hb dX9_put_14 (by decide) (fun c_2789 => absurd c_2789 (by decide)) (fun c_2789 => ?_)
  refine lv_aload_n hx hb dX9_put_17 rfl (lv_at hl 1 rfl) ?_
  refine va_get (D := (dC, dI)) (ci := 9) (v := .ref h1) (C := RX9) (T := TX9) (N := 4) hx hb hG zuX9 hown hK hP 0 rfl rfl 0 (by decide) (hG _ zw11) (fun _ h9 => h9) rfl dX9_put_18 ?_
  refine lv_aload_n hx hb dX9_put_21 rfl (lv_at hl 1 rfl) ?_
  refine va_get (D := (dC, dI)) (ci := 9) (v := .int 13) (C := RX9) (T := TX9) (N := 4) hx hb hG zuX9 hown hK hP 0 rfl rfl 2 (by decide) (hG _ zw13) (fun _ h9 => h9) rfl dX9_put_22 ?_
  refine lv_iload_n hx hb dX9_put_25 rfl (lv_at hl 2 rfl) ?_
  refine lv_iload_n hx hb dX9_put_26 rfl (lv_at hl 0 rfl) ?_
  refine lv_iushr hx hb dX9_put_27 rfl ?_
  refine lv_topi (fun z_2790 e_z_2790 => ?_)
  refine lv_i2b hx hb dX9_put_28 rfl ?_
  refine lv_topi (fun z_2791 e_z_2791 => ?_)
  refine va_bast hx hb hK hP hD hS 1 0 rfl rfl (zin_lit (by decide)) dX9_put_29 (fun H locs hP hD hS => ?_)
  obtain ⟨f_2792, e_f_2792⟩ : ∃ z : Nat → Int32, z = upd f_2786 13 (vp_nar .byte z_2791) := ⟨_, rfl⟩
  have hP : va_P (dC, dI) vwCl [(h0, .inr (9, [.ref h1, .ref u0, .int 13, .int 0])), (h1, .inl (k1, 600, .inl f_2792))] H := by rw [e_f_2792]; exact hP
  have hD : va_D A [(h0, .inr (9, [.ref h1, .ref u0, .int 13, .int 0])), (h1, .inl (k1, 600, .inl f_2792))] := by rw [e_f_2792]; exact hD
  refine lv_aload_n hx hb dX9_put_30 rfl (lv_at hl 1 rfl) ?_
  refine lv_dup hx hb dX9_put_31 rfl ?_
  refine va_get (D := (dC, dI)) (ci := 9) (v := .int 13) (C := RX9) (T := TX9) (N := 4) hx hb hG zuX9 hown hK hP 0 rfl rfl 2 (by decide) (hG _ zw13) (fun _ h9 => h9) rfl dX9_put_32 ?_
  refine lv_iconst (v := 1) hx hb dX9_put_35 (by decide) ?_
  refine lv_iadd hx hb dX9_put_36 ?_
  refine lv_topi (fun z_2793 e_z_2793 => ?_)
  obtain rfl : z_2793 = (14 : Int32) := e_z_2793.trans (by decide)
  refine va_put (D := (dC, dI)) (ci := 9) (v := .int 14) (ty := .int) (C := RX9) (T := TX9) (N := 4) hx hb hG zuX9 tyX9 tyX9_ok nmX9 hown hK hP hD hS 0 rfl rfl 2 (by decide) (hG _ zw13) (fun _ h9 => h9) rfl (by decide +kernel) rfl rfl (Nat.le_of_ble_eq_true rfl) dX9_put_37 (fun H locs hP hD hS => ?_)
  have hP : va_P (dC, dI) vwCl [(h0, .inr (9, [.ref h1, .ref u0, .int 14, .int 0])), (h1, .inl (k1, 600, .inl f_2792))] H := hP
  have hD : va_D A [(h0, .inr (9, [.ref h1, .ref u0, .int 14, .int 0])), (h1, .inl (k1, 600, .inl f_2792))] := hD
  refine lv_iinc (v := 8) (lv' := [(2, .int 8), (0, .ref h0), (1, .int s0)]) hx hb dX9_put_40 hl (k := 0) rfl (by decide) (by decide) rfl (fun ls hl => ?_)
  refine lv_goto (tgt := 3) hx hb dX9_put_43 (by decide) ?_
  refine lv_iload_n hx hb dX9_put_3 rfl (lv_at hl 0 rfl) ?_
  refine lv_if_lt (tgt := 46) hx hb dX9_put_4 (by decide) (fun c_2794 => absurd c_2794 (by decide)) (fun c_2794 => ?_)
  refine lv_aload_n hx hb dX9_put_7 rfl (lv_at hl 1 rfl) ?_
  refine va_get (D := (dC, dI)) (ci := 9) (v := .int 14) (C := RX9) (T := TX9) (N := 4) hx hb hG zuX9 hown hK hP 0 rfl rfl 2 (by decide) (hG _ zw13) (fun _ h9 => h9) rfl dX9_put_8 ?_
  refine lv_sipush (v := 600) hx hb dX9_put_11 (by decide) ?_
  refine lv_icmp_ge (tgt := 46) hx hb dX9_put_14 (by decide) (fun c_2795 => absurd c_2795 (by decide)) (fun c_2795 => ?_)
  refine lv_aload_n hx hb dX9_put_17 rfl (lv_at hl 1 rfl) ?_
  refine va_get (D := (dC, dI)) (ci := 9) (v := .ref h1) (C := RX9) (T := TX9) (N := 4) hx hb hG zuX9 hown hK hP 0 rfl rfl 0 (by decide) (hG _ zw11) (fun _ h9 => h9) rfl dX9_put_18 ?_
  refine lv_aload_n hx hb dX9_put_21 rfl (lv_at hl 1 rfl) ?_
  refine va_get (D := (dC, dI)) (ci := 9) (v := .int 14) (C := RX9) (T := TX9) (N := 4) hx hb hG zuX9 hown hK hP 0 rfl rfl 2 (by decide) (hG _ zw13) (fun _ h9 => h9) rfl dX9_put_22 ?_
  refine lv_iload_n hx hb dX9_put_25 rfl (lv_at hl 2 rfl) ?_
  refine lv_iload_n hx hb dX9_put_26 rfl (lv_at hl 0 rfl) ?_
  refine lv_iushr hx hb dX9_put_27 rfl ?_
  refine lv_topi (fun z_2796 e_z_2796 => ?_)
  refine lv_i2b hx hb dX9_put_28 rfl ?_
  refine lv_topi (fun z_2797 e_z_2797 => ?_)
  refine va_bast hx hb hK hP hD hS 1 0 rfl rfl (zin_lit (by decide)) dX9_put_29 (fun H locs hP hD hS => ?_)
  obtain ⟨f_2798, e_f_2798⟩ : ∃ z : Nat → Int32, z = upd f_2792 14 (vp_nar .byte z_2797) := ⟨_, rfl⟩
  have hP : va_P (dC, dI) vwCl [(h0, .inr (9, [.ref h1, .ref u0, .int 14, .int 0])), (h1, .inl (k1, 600, .inl f_2798))] H := by rw [e_f_2798]; exact hP
  have hD : va_D A [(h0, .inr (9, [.ref h1, .ref u0, .int 14, .int 0])), (h1, .inl (k1, 600, .inl f_2798))] := by rw [e_f_2798]; exact hD
  refine lv_aload_n hx hb dX9_put_30 rfl (lv_at hl 1 rfl) ?_
  refine lv_dup hx hb dX9_put_31 rfl ?_
  refine va_get (D := (dC, dI)) (ci := 9) (v := .int 14) (C := RX9) (T := TX9) (N := 4) hx hb hG zuX9 hown hK hP 0 rfl rfl 2 (by decide) (hG _ zw13) (fun _ h9 => h9) rfl dX9_put_32 ?_
  refine lv_iconst (v := 1) hx hb dX9_put_35 (by decide) ?_
  refine lv_iadd hx hb dX9_put_36 ?_
  refine lv_topi (fun z_2799 e_z_2799 => ?_)
  obtain rfl : z_2799 = (15 : Int32) := e_z_2799.trans (by decide)
  refine va_put (D := (dC, dI)) (ci := 9) (v := .int 15) (ty := .int) (C := RX9) (T := TX9) (N := 4) hx hb hG zuX9 tyX9 tyX9_ok nmX9 hown hK hP hD hS 0 rfl rfl 2 (by decide) (hG _ zw13) (fun _ h9 => h9) rfl (by decide +kernel) rfl rfl (Nat.le_of_ble_eq_true rfl) dX9_put_37 (fun H locs hP hD hS => ?_)
  have hP : va_P (dC, dI) vwCl [(h0, .inr (9, [.ref h1, .ref u0, .int 15, .int 0])), (h1, .inl (k1, 600, .inl f_2798))] H := hP
  have hD : va_D A [(h0, .inr (9, [.ref h1, .ref u0, .int 15, .int 0])), (h1, .inl (k1, 600, .inl f_2798))] := hD
  refine lv_iinc (v := 0) (lv' := [(2, .int 0), (0, .ref h0), (1, .int s0)]) hx hb dX9_put_40 hl (k := 0) rfl (by decide) (by decide) rfl (fun ls hl => ?_)
  refine lv_goto (tgt := 3) hx hb dX9_put_43 (by decide) ?_
  refine lv_iload_n hx hb dX9_put_3 rfl (lv_at hl 0 rfl) ?_
  refine lv_if_lt (tgt := 46) hx hb dX9_put_4 (by decide) (fun c_2800 => absurd c_2800 (by decide)) (fun c_2800 => ?_)
  refine lv_aload_n hx hb dX9_put_7 rfl (lv_at hl 1 rfl) ?_
  refine va_get (D := (dC, dI)) (ci := 9) (v := .int 15) (C := RX9) (T := TX9) (N := 4) hx hb hG zuX9 hown hK hP 0 rfl rfl 2 (by decide) (hG _ zw13) (fun _ h9 => h9) rfl dX9_put_8 ?_
  refine lv_sipush (v := 600) hx hb dX9_put_11 (by decide) ?_
  refine lv_icmp_ge (tgt := 46) hx hb dX9_put_14 (by decide) (fun c_2801 => absurd c_2801 (by decide)) (fun c_2801 => ?_)
  refine lv_aload_n hx hb dX9_put_17 rfl (lv_at hl 1 rfl) ?_
  refine va_get (D := (dC, dI)) (ci := 9) (v := .ref h1) (C := RX9) (T := TX9) (N := 4) hx hb hG zuX9 hown hK hP 0 rfl rfl 0 (by decide) (hG _ zw11) (fun _ h9 => h9) rfl dX9_put_18 ?_
  refine lv_aload_n hx hb dX9_put_21 rfl (lv_at hl 1 rfl) ?_
  refine va_get (D := (dC, dI)) (ci := 9) (v := .int 15) (C := RX9) (T := TX9) (N := 4) hx hb hG zuX9 hown hK hP 0 rfl rfl 2 (by decide) (hG _ zw13) (fun _ h9 => h9) rfl dX9_put_22 ?_
  refine lv_iload_n hx hb dX9_put_25 rfl (lv_at hl 2 rfl) ?_
  refine lv_iload_n hx hb dX9_put_26 rfl (lv_at hl 0 rfl) ?_
  refine lv_iushr hx hb dX9_put_27 rfl ?_
  refine lv_topi (fun z_2802 e_z_2802 => ?_)
  refine lv_i2b hx hb dX9_put_28 rfl ?_
  refine lv_topi (fun z_2803 e_z_2803 => ?_)
  refine va_bast hx hb hK hP hD hS 1 0 rfl rfl (zin_lit (by decide)) dX9_put_29 (fun H locs hP hD hS => ?_)
  obtain ⟨f_2804, e_f_2804⟩ : ∃ z : Nat → Int32, z = upd f_2798 15 (vp_nar .byte z_2803) := ⟨_, rfl⟩
  have hP : va_P (dC, dI) vwCl [(h0, .inr (9, [.ref h1, .ref u0, .int 15, .int 0])), (h1, .inl (k1, 600, .inl f_2804))] H := by rw [e_f_2804]; exact hP
  have hD : va_D A [(h0, .inr (9, [.ref h1, .ref u0, .int 15, .int 0])), (h1, .inl (k1, 600, .inl f_2804))] := by rw [e_f_2804]; exact hD
  refine lv_aload_n hx hb dX9_put_30 rfl (lv_at hl 1 rfl) ?_
  refine lv_dup hx hb dX9_put_31 rfl ?_
  refine va_get (D := (dC, dI)) (ci := 9) (v := .int 15) (C := RX9) (T := TX9) (N := 4) hx hb hG zuX9 hown hK hP 0 rfl rfl 2 (by decide) (hG _ zw13) (fun _ h9 => h9) rfl dX9_put_32 ?_
  refine lv_iconst (v := 1) hx hb dX9_put_35 (by decide) ?_
  refine lv_iadd hx hb dX9_put_36 ?_
  refine lv_topi (fun z_2805 e_z_2805 => ?_)
  obtain rfl : z_2805 = (16 : Int32) := e_z_2805.trans (by decide)
  refine va_put (D := (dC, dI)) (ci := 9) (v := .int 16) (ty := .int) (C := RX9) (T := TX9) (N := 4) hx hb hG zuX9 tyX9 tyX9_ok nmX9 hown hK hP hD hS 0 rfl rfl 2 (by decide) (hG _ zw13) (fun _ h9 => h9) rfl (by decide +kernel) rfl rfl (Nat.le_of_ble_eq_true rfl) dX9_put_37 (fun H locs hP hD hS => ?_)
  have hP : va_P (dC, dI) vwCl [(h0, .inr (9, [.ref h1, .ref u0, .int 16, .int 0])), (h1, .inl (k1, 600, .inl f_2804))] H := hP
  have hD : va_D A [(h0, .inr (9, [.ref h1, .ref u0, .int 16, .int 0])), (h1, .inl (k1, 600, .inl f_2804))] := hD
  refine lv_iinc (v := (-8)) (lv' := [(2, .int (-8)), (0, .ref h0), (1, .int s0)]) hx hb dX9_put_40 hl (k := 0) rfl (by decide) (by decide) rfl (fun ls hl => ?_)
  refine lv_goto (tgt := 3) hx hb dX9_put_43 (by decide) ?_
  refine lv_iload_n hx hb dX9_put_3 rfl (lv_at hl 0 rfl) ?_
  refine lv_if_lt (tgt := 46) hx hb dX9_put_4 (by decide) (fun c_2806 => ?_) (fun c_2806 => absurd c_2806 (by decide))
  have hP9 := hP.sub (ws' := [(h0, .inr (9, [.ref h1, .ref u0, .int 16, .int 0])), (h1, .inl (k1, 600, .inl f_2804))]) [0, 1] rfl
  have hD9 := hD.sub (ws' := [(h0, .inr (9, [.ref h1, .ref u0, .int 16, .int 0])), (h1, .inl (k1, 600, .inl f_2804))]) [0, 1] (by decide) rfl
  have hK9 := hK.sub (tys' := [(k1, .byte)]) [0] rfl
  refine W.widen (k := 0) (n := 0) (by decide) (by decide) ?_
  exact W.vret hx hb hr (fun t ht hW => ⟨⟨(), rfl, trivial, f_2804, by rw [ht]; exact hP9, va_K.moved hW.alike hK9, hD9⟩, hS.F ht⟩) hS.2.2 dX9_put_46
set_option maxHeartbeats 4000000 in
set_option maxRecDepth 100000 in
theorem kX9_put_4 (l : Launch) (dC : Nat → ClassId) (dI : Nat → Nat → Nat) (h0 h1 u0 : Nat) (k1 : ClassId) (sz : Nat) (s0 : Int32) (s1 : Nat → Int32) : Met l yX9_put (zw yX9_put cX9_put 3 none) { frames := 0, cells := 0, slots := 0, locals := 0 } (zPc dC dI [.ref h0, .int s0] sz [(h0, .inr (9, [.ref h1, .ref u0, .int 16, .int 0])), (h1, .inl (k1, 600, .inl s1))] [(k1, .byte)]) (va_Qv (fun _ : Unit => True) (fun (_ : Unit) (t : State) => ∃ (f0 : Nat → Int32), va_P (dC, dI) vwCl [(h0, .inr (9, [.ref h1, .ref u0, .int 20, .int 0])), (h1, .inl (k1, 600, .inl f0))] t.heap ∧ va_K (dC, dI) vwCl [(k1, .byte)] t ∧ va_D (va_A [(h0, .inr (9, [.ref h1, .ref u0, .int 16, .int 0])), (h1, .inl (k1, 600, .inl s1))] sz) [(h0, .inr (9, [.ref h1, .ref u0, .int 20, .int 0])), (h1, .inl (k1, 600, .inl f0))]) (va_A [(h0, .inr (9, [.ref h1, .ref u0, .int 16, .int 0])), (h1, .inl (k1, 600, .inl s1))] sz)) 0 0 (va_A [(h0, .inr (9, [.ref h1, .ref u0, .int 16, .int 0])), (h1, .inl (k1, 600, .inl s1))] sz) := by
  refine Met.ofW (cc := cX9_put) (maxL := 3) (ret := none) (by decide) rfl ?_
  intro p e s m args below meth c s₁ B hml hv
  obtain ⟨rfl, hsz, hP, hK, hD0, hE, hZ⟩ := hv
  have hx := B.exec
  have hb := B.bytes
  have hr := B.returns
  have hG : ∀ w ∈ zG, w.before _ s = true := fun w h => atoms_spec (ws := (zw yX9_put cX9_put 3 none)) B.pre w (List.mem_cons_of_mem _ h)
  have hown : s.vm.findClass RX9 = some m.cls := findClass_of_methodNamed B.named
  have hlocks := B.notSynchronized
  subst hsz
  have hD := hD0.self (sz := s.heap.size)
  generalize hAe : va_A [(h0, .inr (9, [.ref h1, .ref u0, .int 16, .int 0])), (h1, .inl (k1, 600, .inl s1))] s.heap.size = A at hD hZ ⊢
  have hA : ∀ q : Nat, s.heap.size ≤ q → A q := fun q h => by rw [← hAe]; exact Or.inr h
  have hS : va_S A s.heap s.heap [] := va_S.rf
  have hl := lv_entry ([.ref h0, .int s0]) (n := 3) (Nat.le_of_ble_eq_true rfl)
  rw [lg_entry_eq]
  generalize (lg_sl ([.ref h0, .int s0]) ++ List.replicate (3 - (lg_sl ([.ref h0, .int s0])).length) Slot.unset).toArray = ls at hl ⊢
  have hl : lv_has ls 3 [(0, .ref h0), (1, .int s0)] := hl
  refine lv_bipush (v := 24) hx hb dX9_put_0 (by decide) ?_
  refine lv_istore_n (lv' := [(2, .int 24), (0, .ref h0), (1, .int s0)]) hx hb dX9_put_2 rfl hl (by decide) rfl (fun ls hl => ?_)
  refine lv_iload_n hx hb dX9_put_3 rfl (lv_at hl 0 rfl) ?_
  refine lv_if_lt (tgt := 46) hx hb dX9_put_4 (by decide) (fun c_2859 => absurd c_2859 (by decide)) (fun c_2859 => ?_)
  refine lv_aload_n hx hb dX9_put_7 rfl (lv_at hl 1 rfl) ?_
  refine va_get (D := (dC, dI)) (ci := 9) (v := .int 16) (C := RX9) (T := TX9) (N := 4) hx hb hG zuX9 hown hK hP 0 rfl rfl 2 (by decide) (hG _ zw13) (fun _ h9 => h9) rfl dX9_put_8 ?_
  refine lv_sipush (v := 600) hx hb dX9_put_11 (by decide) ?_
  refine lv_icmp_ge (tgt := 46) hx hb dX9_put_14 (by decide) (fun c_2860 => absurd c_2860 (by decide)) (fun c_2860 => ?_)
  refine lv_aload_n hx hb dX9_put_17 rfl (lv_at hl 1 rfl) ?_
  refine va_get (D := (dC, dI)) (ci := 9) (v := .ref h1) (C := RX9) (T := TX9) (N := 4) hx hb hG zuX9 hown hK hP 0 rfl rfl 0 (by decide) (hG _ zw11) (fun _ h9 => h9) rfl dX9_put_18 ?_
  refine lv_aload_n hx hb dX9_put_21 rfl (lv_at hl 1 rfl) ?_
  refine va_get (D := (dC, dI)) (ci := 9) (v := .int 16) (C := RX9) (T := TX9) (N := 4) hx hb hG zuX9 hown hK hP 0 rfl rfl 2 (by decide) (hG _ zw13) (fun _ h9 => h9) rfl dX9_put_22 ?_
  refine lv_iload_n hx hb dX9_put_25 rfl (lv_at hl 2 rfl) ?_
  refine lv_iload_n hx hb dX9_put_26 rfl (lv_at hl 0 rfl) ?_
  refine lv_iushr hx hb dX9_put_27 rfl ?_
  refine lv_topi (fun z_2861 e_z_2861 => ?_)
  refine lv_i2b hx hb dX9_put_28 rfl ?_
  refine lv_topi (fun z_2862 e_z_2862 => ?_)
  refine va_bast hx hb hK hP hD hS 1 0 rfl rfl (zin_lit (by decide)) dX9_put_29 (fun H locs hP hD hS => ?_)
  obtain ⟨f_2863, e_f_2863⟩ : ∃ z : Nat → Int32, z = upd s1 16 (vp_nar .byte z_2862) := ⟨_, rfl⟩
  have hP : va_P (dC, dI) vwCl [(h0, .inr (9, [.ref h1, .ref u0, .int 16, .int 0])), (h1, .inl (k1, 600, .inl f_2863))] H := by rw [e_f_2863]; exact hP
  have hD : va_D A [(h0, .inr (9, [.ref h1, .ref u0, .int 16, .int 0])), (h1, .inl (k1, 600, .inl f_2863))] := by rw [e_f_2863]; exact hD
  refine lv_aload_n hx hb dX9_put_30 rfl (lv_at hl 1 rfl) ?_
  refine lv_dup hx hb dX9_put_31 rfl ?_
  refine va_get (D := (dC, dI)) (ci := 9) (v := .int 16) (C := RX9) (T := TX9) (N := 4) hx hb hG zuX9 hown hK hP 0 rfl rfl 2 (by decide) (hG _ zw13) (fun _ h9 => h9) rfl dX9_put_32 ?_
  refine lv_iconst (v := 1) hx hb dX9_put_35 (by decide) ?_
  refine lv_iadd hx hb dX9_put_36 ?_
  refine lv_topi (fun z_2864 e_z_2864 => ?_)
  obtain rfl : z_2864 = (17 : Int32) := e_z_2864.trans (by decide)
  refine va_put (D := (dC, dI)) (ci := 9) (v := .int 17) (ty := .int) (C := RX9) (T := TX9) (N := 4) hx hb hG zuX9 tyX9 tyX9_ok nmX9 hown hK hP hD hS 0 rfl rfl 2 (by decide) (hG _ zw13) (fun _ h9 => h9) rfl (by decide +kernel) rfl rfl (Nat.le_of_ble_eq_true rfl) dX9_put_37 (fun H locs hP hD hS => ?_)
  have hP : va_P (dC, dI) vwCl [(h0, .inr (9, [.ref h1, .ref u0, .int 17, .int 0])), (h1, .inl (k1, 600, .inl f_2863))] H := hP
  have hD : va_D A [(h0, .inr (9, [.ref h1, .ref u0, .int 17, .int 0])), (h1, .inl (k1, 600, .inl f_2863))] := hD
  refine lv_iinc (v := 16) (lv' := [(2, .int 16), (0, .ref h0), (1, .int s0)]) hx hb dX9_put_40 hl (k := 0) rfl (by decide) (by decide) rfl (fun ls hl => ?_)
  refine lv_goto (tgt := 3) hx hb dX9_put_43 (by decide) ?_
  refine lv_iload_n hx hb dX9_put_3 rfl (lv_at hl 0 rfl) ?_
  refine lv_if_lt (tgt := 46) hx hb dX9_put_4 (by decide) (fun c_2865 => absurd c_2865 (by decide)) (fun c_2865 => ?_)
  refine lv_aload_n hx hb dX9_put_7 rfl (lv_at hl 1 rfl) ?_
  refine va_get (D := (dC, dI)) (ci := 9) (v := .int 17) (C := RX9) (T := TX9) (N := 4) hx hb hG zuX9 hown hK hP 0 rfl rfl 2 (by decide) (hG _ zw13) (fun _ h9 => h9) rfl dX9_put_8 ?_
  refine lv_sipush (v := 600) hx hb dX9_put_11 (by decide) ?_
  refine lv_icmp_ge (tgt := 46) hx hb dX9_put_14 (by decide) (fun c_2866 => absurd c_2866 (by decide)) (fun c_2866 => ?_)
  refine lv_aload_n hx hb dX9_put_17 rfl (lv_at hl 1 rfl) ?_
  refine va_get (D := (dC, dI)) (ci := 9) (v := .ref h1) (C := RX9) (T := TX9) (N := 4) hx hb hG zuX9 hown hK hP 0 rfl rfl 0 (by decide) (hG _ zw11) (fun _ h9 => h9) rfl dX9_put_18 ?_
  refine lv_aload_n hx hb dX9_put_21 rfl (lv_at hl 1 rfl) ?_
  refine va_get (D := (dC, dI)) (ci := 9) (v := .int 17) (C := RX9) (T := TX9) (N := 4) hx hb hG zuX9 hown hK hP 0 rfl rfl 2 (by decide) (hG _ zw13) (fun _ h9 => h9) rfl dX9_put_22 ?_
  refine lv_iload_n hx hb dX9_put_25 rfl (lv_at hl 2 rfl) ?_
  refine lv_iload_n hx hb dX9_put_26 rfl (lv_at hl 0 rfl) ?_
  refine lv_iushr hx hb dX9_put_27 rfl ?_
  refine lv_topi (fun z_2867 e_z_2867 => ?_)
  refine lv_i2b hx hb dX9_put_28 rfl ?_
  refine lv_topi (fun z_2868 e_z_2868 => ?_)
  refine va_bast hx hb hK hP hD hS 1 0 rfl rfl (zin_lit (by decide)) dX9_put_29 (fun H locs hP hD hS => ?_)
  obtain ⟨f_2869, e_f_2869⟩ : ∃ z : Nat → Int32, z = upd f_2863 17 (vp_nar .byte z_2868) := ⟨_, rfl⟩
  have hP : va_P (dC, dI) vwCl [(h0, .inr (9, [.ref h1, .ref u0, .int 17, .int 0])), (h1, .inl (k1, 600, .inl f_2869))] H := by rw [e_f_2869]; exact hP
  have hD : va_D A [(h0, .inr (9, [.ref h1, .ref u0, .int 17, .int 0])), (h1, .inl (k1, 600, .inl f_2869))] := by rw [e_f_2869]; exact hD
  refine lv_aload_n hx hb dX9_put_30 rfl (lv_at hl 1 rfl) ?_
  refine lv_dup hx hb dX9_put_31 rfl ?_
  refine va_get (D := (dC, dI)) (ci := 9) (v := .int 17) (C := RX9) (T := TX9) (N := 4) hx hb hG zuX9 hown hK hP 0 rfl rfl 2 (by decide) (hG _ zw13) (fun _ h9 => h9) rfl dX9_put_32 ?_
  refine lv_iconst (v := 1) hx hb dX9_put_35 (by decide) ?_
  refine lv_iadd hx hb dX9_put_36 ?_
  refine lv_topi (fun z_2870 e_z_2870 => ?_)
  obtain rfl : z_2870 = (18 : Int32) := e_z_2870.trans (by decide)
  refine va_put (D := (dC, dI)) (ci := 9) (v := .int 18) (ty := .int) (C := RX9) (T := TX9) (N := 4) hx hb hG zuX9 tyX9 tyX9_ok nmX9 hown hK hP hD hS 0 rfl rfl 2 (by decide) (hG _ zw13) (fun _ h9 => h9) rfl (by decide +kernel) rfl rfl (Nat.le_of_ble_eq_true rfl) dX9_put_37 (fun H locs hP hD hS => ?_)
  have hP : va_P (dC, dI) vwCl [(h0, .inr (9, [.ref h1, .ref u0, .int 18, .int 0])), (h1, .inl (k1, 600, .inl f_2869))] H := hP
  have hD : va_D A [(h0, .inr (9, [.ref h1, .ref u0, .int 18, .int 0])), (h1, .inl (k1, 600, .inl f_2869))] := hD
  refine lv_iinc (v := 8) (lv' := [(2, .int 8), (0, .ref h0), (1, .int s0)]) hx hb dX9_put_40 hl (k := 0) rfl (by decide) (by decide) rfl (fun ls hl => ?_)
  refine lv_goto (tgt := 3) hx hb dX9_put_43 (by decide) ?_
  refine lv_iload_n hx hb dX9_put_3 rfl (lv_at hl 0 rfl) ?_
  refine lv_if_lt (tgt := 46) hx hb dX9_put_4 (by decide) (fun c_2871 => absurd c_2871 (by decide)) (fun c_2871 => ?_)
  refine lv_aload_n hx hb dX9_put_7 rfl (lv_at hl 1 rfl) ?_
  refine va_get (D := (dC, dI)) (ci := 9) (v := .int 18) (C := RX9) (T := TX9) (N := 4) hx hb hG zuX9 hown hK hP 0 rfl rfl 2 (by decide) (hG _ zw13) (fun _ h9 => h9) rfl dX9_put_8 ?_
  refine lv_sipush (v := 600) hx hb dX9_put_11 (by decide) ?_
  refine lv_icmp_ge (tgt := 46) hx hb dX9_put_14 (by decide) (fun c_2872 => absurd c_2872 (by decide)) (fun c_2872 => ?_)
  refine lv_aload_n hx hb dX9_put_17 rfl (lv_at hl 1 rfl) ?_
  refine va_get (D := (dC, dI)) (ci := 9) (v := .ref h1) (C := RX9) (T := TX9) (N := 4) hx hb hG zuX9 hown hK hP 0 rfl rfl 0 (by decide) (hG _ zw11) (fun _ h9 => h9) rfl dX9_put_18 ?_
  refine lv_aload_n hx hb dX9_put_21 rfl (lv_at hl 1 rfl) ?_
  refine va_get (D := (dC, dI)) (ci := 9) (v := .int 18) (C := RX9) (T := TX9) (N := 4) hx hb hG zuX9 hown hK hP 0 rfl rfl 2 (by decide) (hG _ zw13) (fun _ h9 => h9) rfl dX9_put_22 ?_
  refine lv_iload_n hx hb dX9_put_25 rfl (lv_at hl 2 rfl) ?_
  refine lv_iload_n hx hb dX9_put_26 rfl (lv_at hl 0 rfl) ?_
  refine lv_iushr hx hb dX9_put_27 rfl ?_
  refine lv_topi (fun z_2873 e_z_2873 => ?_)
  refine lv_i2b hx hb dX9_put_28 rfl ?_
  refine lv_topi (fun z_2874 e_z_2874 => ?_)
  refine va_bast hx hb hK hP hD hS 1 0 rfl rfl (zin_lit (by decide)) dX9_put_29 (fun H locs hP hD hS => ?_)
  obtain ⟨f_2875, e_f_2875⟩ : ∃ z : Nat → Int32, z = upd f_2869 18 (vp_nar .byte z_2874) := ⟨_, rfl⟩
  have hP : va_P (dC, dI) vwCl [(h0, .inr (9, [.ref h1, .ref u0, .int 18, .int 0])), (h1, .inl (k1, 600, .inl f_2875))] H := by rw [e_f_2875]; exact hP
  have hD : va_D A [(h0, .inr (9, [.ref h1, .ref u0, .int 18, .int 0])), (h1, .inl (k1, 600, .inl f_2875))] := by rw [e_f_2875]; exact hD
  refine lv_aload_n hx hb dX9_put_30 rfl (lv_at hl 1 rfl) ?_
  refine lv_dup hx hb dX9_put_31 rfl ?_
  refine va_get (D := (dC, dI)) (ci := 9) (v := .int 18) (C := RX9) (T := TX9) (N := 4) hx hb hG zuX9 hown hK hP 0 rfl rfl 2 (by decide) (hG _ zw13) (fun _ h9 => h9) rfl dX9_put_32 ?_
  refine lv_iconst (v := 1) hx hb dX9_put_35 (by decide) ?_
  refine lv_iadd hx hb dX9_put_36 ?_
  refine lv_topi (fun z_2876 e_z_2876 => ?_)
  obtain rfl : z_2876 = (19 : Int32) := e_z_2876.trans (by decide)
  refine va_put (D := (dC, dI)) (ci := 9) (v := .int 19) (ty := .int) (C := RX9) (T := TX9) (N := 4) hx hb hG zuX9 tyX9 tyX9_ok nmX9 hown hK hP hD hS 0 rfl rfl 2 (by decide) (hG _ zw13) (fun _ h9 => h9) rfl (by decide +kernel) rfl rfl (Nat.le_of_ble_eq_true rfl) dX9_put_37 (fun H locs hP hD hS => ?_)
  have hP : va_P (dC, dI) vwCl [(h0, .inr (9, [.ref h1, .ref u0, .int 19, .int 0])), (h1, .inl (k1, 600, .inl f_2875))] H := hP
  have hD : va_D A [(h0, .inr (9, [.ref h1, .ref u0, .int 19, .int 0])), (h1, .inl (k1, 600, .inl f_2875))] := hD
  refine lv_iinc (v := 0) (lv' := [(2, .int 0), (0, .ref h0), (1, .int s0)]) hx hb dX9_put_40 hl (k := 0) rfl (by decide) (by decide) rfl (fun ls hl => ?_)
  refine lv_goto (tgt := 3) hx hb dX9_put_43 (by decide) ?_
  refine lv_iload_n hx hb dX9_put_3 rfl (lv_at hl 0 rfl) ?_
  refine lv_if_lt (tgt := 46) hx hb dX9_put_4 (by decide) (fun c_2877 => absurd c_2877 (by decide)) (fun c_2877 => ?_)
  refine lv_aload_n hx hb dX9_put_7 rfl (lv_at hl 1 rfl) ?_
  refine va_get (D := (dC, dI)) (ci := 9) (v := .int 19) (C := RX9) (T := TX9) (N := 4) hx hb hG zuX9 hown hK hP 0 rfl rfl 2 (by decide) (hG _ zw13) (fun _ h9 => h9) rfl dX9_put_8 ?_
  refine lv_sipush (v := 600) hx hb dX9_put_11 (by decide) ?_
  refine lv_icmp_ge (tgt := 46) hx hb dX9_put_14 (by decide) (fun c_2878 => absurd c_2878 (by decide)) (fun c_2878 => ?_)
  refine lv_aload_n hx hb dX9_put_17 rfl (lv_at hl 1 rfl) ?_
  refine va_get (D := (dC, dI)) (ci := 9) (v := .ref h1) (C := RX9) (T := TX9) (N := 4) hx hb hG zuX9 hown hK hP 0 rfl rfl 0 (by decide) (hG _ zw11) (fun _ h9 => h9) rfl dX9_put_18 ?_
  refine lv_aload_n hx hb dX9_put_21 rfl (lv_at hl 1 rfl) ?_
  refine va_get (D := (dC, dI)) (ci := 9) (v := .int 19) (C := RX9) (T := TX9) (N := 4) hx hb hG zuX9 hown hK hP 0 rfl rfl 2 (by decide) (hG _ zw13) (fun _ h9 => h9) rfl dX9_put_22 ?_
  refine lv_iload_n hx hb dX9_put_25 rfl (lv_at hl 2 rfl) ?_
  refine lv_iload_n hx hb dX9_put_26 rfl (lv_at hl 0 rfl) ?_
  refine lv_iushr hx hb dX9_put_27 rfl ?_
  refine lv_topi (fun z_2879 e_z_2879 => ?_)
  refine lv_i2b hx hb dX9_put_28 rfl ?_
  refine lv_topi (fun z_2880 e_z_2880 => ?_)
  refine va_bast hx hb hK hP hD hS 1 0 rfl rfl (zin_lit (by decide)) dX9_put_29 (fun H locs hP hD hS => ?_)
  obtain ⟨f_2881, e_f_2881⟩ : ∃ z : Nat → Int32, z = upd f_2875 19 (vp_nar .byte z_2880) := ⟨_, rfl⟩
  have hP : va_P (dC, dI) vwCl [(h0, .inr (9, [.ref h1, .ref u0, .int 19, .int 0])), (h1, .inl (k1, 600, .inl f_2881))] H := by rw [e_f_2881]; exact hP
  have hD : va_D A [(h0, .inr (9, [.ref h1, .ref u0, .int 19, .int 0])), (h1, .inl (k1, 600, .inl f_2881))] := by rw [e_f_2881]; exact hD
  refine lv_aload_n hx hb dX9_put_30 rfl (lv_at hl 1 rfl) ?_
  refine lv_dup hx hb dX9_put_31 rfl ?_
  refine va_get (D := (dC, dI)) (ci := 9) (v := .int 19) (C := RX9) (T := TX9) (N := 4) hx hb hG zuX9 hown hK hP 0 rfl rfl 2 (by decide) (hG _ zw13) (fun _ h9 => h9) rfl dX9_put_32 ?_
  refine lv_iconst (v := 1) hx hb dX9_put_35 (by decide) ?_
  refine lv_iadd hx hb dX9_put_36 ?_
  refine lv_topi (fun z_2882 e_z_2882 => ?_)
  obtain rfl : z_2882 = (20 : Int32) := e_z_2882.trans (by decide)
  refine va_put (D := (dC, dI)) (ci := 9) (v := .int 20) (ty := .int) (C := RX9) (T := TX9) (N := 4) hx hb hG zuX9 tyX9 tyX9_ok nmX9 hown hK hP hD hS 0 rfl rfl 2 (by decide) (hG _ zw13) (fun _ h9 => h9) rfl (by decide +kernel) rfl rfl (Nat.le_of_ble_eq_true rfl) dX9_put_37 (fun H locs hP hD hS => ?_)
  have hP : va_P (dC, dI) vwCl [(h0, .inr (9, [.ref h1, .ref u0, .int 20, .int 0])), (h1, .inl (k1, 600, .inl f_2881))] H := hP
  have hD : va_D A [(h0, .inr (9, [.ref h1, .ref u0, .int 20, .int 0])), (h1, .inl (k1, 600, .inl f_2881))] := hD
  refine lv_iinc (v := (-8)) (lv' := [(2, .int (-8)), (0, .ref h0), (1, .int s0)]) hx hb dX9_put_40 hl (k := 0) rfl (by decide) (by decide) rfl (fun ls hl => ?_)
  refine lv_goto (tgt := 3) hx hb dX9_put_43 (by decide) ?_
  refine lv_iload_n hx hb dX9_put_3 rfl (lv_at hl 0 rfl) ?_
  refine lv_if_lt (tgt := 46) hx hb dX9_put_4 (by decide) (fun c_2883 => ?_) (fun c_2883 => absurd c_2883 (by decide))
  have hP9 := hP.sub (ws' := [(h0, .inr (9, [.ref h1, .ref u0, .int 20, .int 0])), (h1, .inl (k1, 600, .inl f_2881))]) [0, 1] rfl
  have hD9 := hD.sub (ws' := [(h0, .inr (9, [.ref h1, .ref u0, .int 20, .int 0])), (h1, .inl (k1, 600, .inl f_2881))]) [0, 1] (by decide) rfl
  have hK9 := hK.sub (tys' := [(k1, .byte)]) [0] rfl
  refine W.widen (k := 0) (n := 0) (by decide) (by decide) ?_
  exact W.vret hx hb hr (fun t ht hW => ⟨⟨(), rfl, trivial, f_2881, by rw [ht]; exact hP9, va_K.moved hW.alike hK9, hD9⟩, hS.F ht⟩) hS.2.2 dX9_put_46
set_option maxHeartbeats 4000000 in
set_option maxRecDepth 100000 in
theorem kX9_size_0 (l : Launch) (dC : Nat → ClassId) (dI : Nat → Nat → Nat) (h0 u0 u1 : Nat) (sz : Nat) : Met l yX9_size (zw yX9_size cX9_size 1 (some .int)) { frames := 0, cells := 0, slots := 0, locals := 0 } (zPc dC dI [.ref h0] sz [(h0, .inr (9, [.ref u0, .ref u1, .int 20, .int 0]))] []) (va_Qi (fun (r : Int32) (_ : Unit) => r = 20) (fun (_ : Unit) (t : State) => va_P (dC, dI) vwCl [(h0, .inr (9, [.ref u0, .ref u1, .int 20, .int 0]))] t.heap ∧ va_K (dC, dI) vwCl [] t ∧ va_D (va_A [(h0, .inr (9, [.ref u0, .ref u1, .int 20, .int 0]))] sz) [(h0, .inr (9, [.ref u0, .ref u1, .int 20, .int 0]))]) (va_A [(h0, .inr (9, [.ref u0, .ref u1, .int 20, .int 0]))] sz)) 0 0 (va_A [(h0, .inr (9, [.ref u0, .ref u1, .int 20, .int 0]))] sz) := by
  refine Met.ofW (cc := cX9_size) (maxL := 1) (ret := (some .int)) (by decide) rfl ?_
  intro p e s m args below meth c s₁ B hml hv
  obtain ⟨rfl, hsz, hP, hK, hD0, hE, hZ⟩ := hv
  have hx := B.exec
  have hb := B.bytes
  have hr := B.returns
  have hG : ∀ w ∈ zG, w.before _ s = true := fun w h => atoms_spec (ws := (zw yX9_size cX9_size 1 (some .int))) B.pre w (List.mem_cons_of_mem _ h)
  have hown : s.vm.findClass RX9 = some m.cls := findClass_of_methodNamed B.named
  have hlocks := B.notSynchronized
  subst hsz
  have hD := hD0.self (sz := s.heap.size)
  generalize hAe : va_A [(h0, .inr (9, [.ref u0, .ref u1, .int 20, .int 0]))] s.heap.size = A at hD hZ ⊢
  have hA : ∀ q : Nat, s.heap.size ≤ q → A q := fun q h => by rw [← hAe]; exact Or.inr h
  have hS : va_S A s.heap s.heap [] := va_S.rf
  have hl := lv_entry ([.ref h0]) (n := 1) (Nat.le_of_ble_eq_true rfl)
  rw [lg_entry_eq]
  generalize (lg_sl ([.ref h0]) ++ List.replicate (1 - (lg_sl ([.ref h0])).length) Slot.unset).toArray = ls at hl ⊢
  have hl : lv_has ls 1 [(0, .ref h0)] := hl
  refine lv_aload_n hx hb dX9_size_0 rfl (lv_at hl 0 rfl) ?_
  refine va_get (D := (dC, dI)) (ci := 9) (v := .int 20) (C := RX9) (T := TX9) (N := 4) hx hb hG zuX9 hown hK hP 0 rfl rfl 2 (by decide) (hG _ zw13) (fun _ h9 => h9) rfl dX9_size_1 ?_
  have hP9 := hP.sub (ws' := [(h0, .inr (9, [.ref u0, .ref u1, .int 20, .int 0]))]) [0] rfl
  have hD9 := hD.sub (ws' := [(h0, .inr (9, [.ref u0, .ref u1, .int 20, .int 0]))]) [0] (by decide) rfl
  have hK9 := hK.sub (tys' := []) [] rfl
  refine W.widen (k := 0) (n := 0) (by decide) (by decide) ?_
  exact W.iret (v := 20) hx hb hr (fun t ht hW => ⟨⟨20, (), rfl, rfl, by rw [ht]; exact hP9, va_K.moved hW.alike hK9, hD9⟩, hS.F ht⟩) hS.2.2 dX9_size_4
set_option maxHeartbeats 4000000 in
set_option maxRecDepth 100000 in
theorem kX11_feed_0 (l : Launch) (dC : Nat → ClassId) (dI : Nat → Nat → Nat) (h0 h1 h2 u0 u1 u2 u3 u4 u5 u6 u7 u8 u9 : Nat) (k2 : ClassId) (sz : Nat) (s0 : Int32) (s1 : Int32) (s2 : Int32) (s3 : Int32) (s4 : Int32) : Met l yX11_feed (zw yX11_feed cX11_feed 6 (some .int)) { frames := 1, cells := 0, slots := 0, locals := 22 } (zPc dC dI [.ref h0, .int s0, .int s1, .int s2, .int s3, .int s4] sz [(h0, .inr (11, [.ref h1, .ref u0, .ref u1, .ref u2, .ref u3, .ref u4, .ref u5, .ref u6, .ref u7, .ref u8, .null, .long (-1)])), (h1, .inr (9, [.ref h2, .ref u9, .int 0, .int 0])), (h2, .inl (k2, 600, .inl (fun _ => 0)))] [(k2, .byte)]) (va_Qi (fun (r : Int32) (_ : Unit) => r = 20) (fun (_ : Unit) (t : State) => ∃ (f0 : Nat → Int32), va_P (dC, dI) vwCl [(h0, .inr (11, [.ref h1, .ref u0, .ref u1, .ref u2, .ref u3, .ref u4, .ref u5, .ref u6, .ref u7, .ref u8, .null, .long (-1)])), (h1, .inr (9, [.ref h2, .ref u9, .int 20, .int 0])), (h2, .inl (k2, 600, .inl f0))] t.heap ∧ va_K (dC, dI) vwCl [(k2, .byte)] t ∧ va_D (va_A [(h0, .inr (11, [.ref h1, .ref u0, .ref u1, .ref u2, .ref u3, .ref u4, .ref u5, .ref u6, .ref u7, .ref u8, .null, .long (-1)])), (h1, .inr (9, [.ref h2, .ref u9, .int 0, .int 0])), (h2, .inl (k2, 600, .inl (fun _ => 0)))] sz) [(h0, .inr (11, [.ref h1, .ref u0, .ref u1, .ref u2, .ref u3, .ref u4, .ref u5, .ref u6, .ref u7, .ref u8, .null, .long (-1)])), (h1, .inr (9, [.ref h2, .ref u9, .int 20, .int 0])), (h2, .inl (k2, 600, .inl f0))]) (va_A [(h0, .inr (11, [.ref h1, .ref u0, .ref u1, .ref u2, .ref u3, .ref u4, .ref u5, .ref u6, .ref u7, .ref u8, .null, .long (-1)])), (h1, .inr (9, [.ref h2, .ref u9, .int 0, .int 0])), (h2, .inl (k2, 600, .inl (fun _ => 0)))] sz)) 0 0 (va_A [(h0, .inr (11, [.ref h1, .ref u0, .ref u1, .ref u2, .ref u3, .ref u4, .ref u5, .ref u6, .ref u7, .ref u8, .null, .long (-1)])), (h1, .inr (9, [.ref h2, .ref u9, .int 0, .int 0])), (h2, .inl (k2, 600, .inl (fun _ => 0)))] sz) := by
  refine Met.ofW (cc := cX11_feed) (maxL := 6) (ret := (some .int)) (by decide) rfl ?_
  intro p e s m args below meth c s₁ B hml hv
  obtain ⟨rfl, hsz, hP, hK, hD0, hE, hZ⟩ := hv
  have hx := B.exec
  have hb := B.bytes
  have hr := B.returns
  have hG : ∀ w ∈ zG, w.before _ s = true := fun w h => atoms_spec (ws := (zw yX11_feed cX11_feed 6 (some .int))) B.pre w (List.mem_cons_of_mem _ h)
  have hown : s.vm.findClass RX11 = some m.cls := findClass_of_methodNamed B.named
  have hlocks := B.notSynchronized
  subst hsz
  have hD := hD0.self (sz := s.heap.size)
  generalize hAe : va_A [(h0, .inr (11, [.ref h1, .ref u0, .ref u1, .ref u2, .ref u3, .ref u4, .ref u5, .ref u6, .ref u7, .ref u8, .null, .long (-1)])), (h1, .inr (9, [.ref h2, .ref u9, .int 0, .int 0])), (h2, .inl (k2, 600, .inl (fun _ => 0)))] s.heap.size = A at hD hZ ⊢
  have hA : ∀ q : Nat, s.heap.size ≤ q → A q := fun q h => by rw [← hAe]; exact Or.inr h
  have hS : va_S A s.heap s.heap [] := va_S.rf
  have hl := lv_entry ([.ref h0, .int s0, .int s1, .int s2, .int s3, .int s4]) (n := 6) (Nat.le_of_ble_eq_true rfl)
  rw [lg_entry_eq]
  generalize (lg_sl ([.ref h0, .int s0, .int s1, .int s2, .int s3, .int s4]) ++ List.replicate (6 - (lg_sl ([.ref h0, .int s0, .int s1, .int s2, .int s3, .int s4])).length) Slot.unset).toArray = ls at hl ⊢
  have hl : lv_has ls 6 [(0, .ref h0), (1, .int s0), (2, .int s1), (3, .int s2), (4, .int s3), (5, .int s4)] := hl
  refine lv_aload_n hx hb dX11_feed_0 rfl (lv_at hl 0 rfl) ?_
  refine va_get (D := (dC, dI)) (ci := 11) (v := .ref h1) (C := RX11) (T := TX11) (N := 12) hx hb hG zuX11 hown hK hP 0 rfl rfl 0 (by decide) (hG _ zw17) (fun _ h9 => h9) rfl dX11_feed_1 ?_
  refine lv_bipush (v := 20) hx hb dX11_feed_4 (by decide) ?_
  have hPc := hP.sub (ws' := [(h1, .inr (9, [.ref h2, .ref u9, .int 0, .int 0]))]) [1] rfl
  have hDc := hD.sub (ws' := [(h1, .inr (9, [.ref h2, .ref u9, .int 0, .int 0]))]) [1] (by decide) rfl
  have hKc := hK.sub (tys' := []) [] rfl
  have hFc := va_free (wc := [(h1, .inr (9, [.ref h2, .ref u9, .int 0, .int 0]))]) hD hS hA [1] rfl
  refine va_calli (va_runV (As := [.int 20]) (rest := []) ⟨hx, hb, hml, hown, hG⟩ (kX9_hasRoom_0 l dC dI h1 h2 u9 s.heap.size) (cwV 1 hG (zgV zw286 zw287 zw288 zw8 zw289) rfl rfl rfl (by decide +kernel) ⟨Nat.le_of_ble_eq_true rfl, Nat.le_of_ble_eq_true rfl⟩) ⟨zPc_blind, va_recv hKc hPc (ci := 9) (q0 := 0) rfl rfl, zPc_pre hPc hKc hDc hE hS hFc hZ⟩ rfl rfl hl.1 rfl (lv_room (Nat.le_of_ble_eq_true rfl)) dX11_feed_6 ⟨Nat.le_of_ble_eq_true rfl, Nat.le_of_ble_eq_true rfl⟩) hS (fun q _ h => hFc q h) hFc (fun r_3029 u t H1 locs ht hvm hw hB hz1 hk1 hS => ?_)
  have hw : r_3029 = 1 := hw
  subst hw
  obtain ⟨hP1, hK1, hD1⟩ := hB
  rw [ht] at hP1
  obtain ⟨hP, hD⟩ := va_join (wr := [(h0, .inr (11, [.ref h1, .ref u0, .ref u1, .ref u2, .ref u3, .ref u4, .ref u5, .ref u6, .ref u7, .ref u8, .null, .long (-1)])), (h2, .inl (k2, 600, .inl (fun _ => 0)))]) (w1 := [(h1, .inr (9, [.ref h2, .ref u9, .int 0, .int 0]))]) hP hD [1] [0, 2] rfl rfl (by decide) (by decide) hk1 hFc hP1 hD1
  generalize H1 = H at hP hS ⊢
  have hP : va_P (dC, dI) vwCl [(h0, .inr (11, [.ref h1, .ref u0, .ref u1, .ref u2, .ref u3, .ref u4, .ref u5, .ref u6, .ref u7, .ref u8, .null, .long (-1)])), (h2, .inl (k2, 600, .inl (fun _ => 0))), (h1, .inr (9, [.ref h2, .ref u9, .int 0, .int 0]))] H := hP
  have hD : va_D A [(h0, .inr (11, [.ref h1, .ref u0, .ref u1, .ref u2, .ref u3, .ref u4, .ref u5, .ref u6, .ref u7, .ref u8, .null, .long (-1)])), (h2, .inl (k2, 600, .inl (fun _ => 0))), (h1, .inr (9, [.ref h2, .ref u9, .int 0, .int 0]))] := hD
  refine lv_if_ne (tgt := 15) hx hb dX11_feed_9 (by decide) (fun c_3030 => ?_) (fun c_3030 => absurd c_3030 (by decide))
  refine lv_aload_n hx hb dX11_feed_15 rfl (lv_at hl 0 rfl) ?_
  refine va_get (D := (dC, dI)) (ci := 11) (v := .ref h1) (C := RX11) (T := TX11) (N := 12) hx hb hG zuX11 hown hK hP 0 rfl rfl 0 (by decide) (hG _ zw17) (fun _ h9 => h9) rfl dX11_feed_16 ?_
  refine lv_iload_n hx hb dX11_feed_19 rfl (lv_at hl 1 rfl) ?_
  have hPc := hP.sub (ws' := [(h1, .inr (9, [.ref h2, .ref u9, .int 0, .int 0])), (h2, .inl (k2, 600, .inl (fun _ => 0)))]) [2, 1] rfl
  have hDc := hD.sub (ws' := [(h1, .inr (9, [.ref h2, .ref u9, .int 0, .int 0])), (h2, .inl (k2, 600, .inl (fun _ => 0)))]) [2, 1] (by decide) rfl
  have hKc := hK.sub (tys' := [(k2, .byte)]) [0] rfl
  have hFc := va_free (wc := [(h1, .inr (9, [.ref h2, .ref u9, .int 0, .int 0])), (h2, .inl (k2, 600, .inl (fun _ => 0)))]) hD hS hA [2, 1] rfl
  refine va_callv (va_runV (As := [.int s0]) (rest := []) ⟨hx, hb, hml, hown, hG⟩ (kX9_put_0 l dC dI h1 h2 u9 k2 H.size s0) (cwV 1 hG (zgV zw290 zw291 zw292 zw8 zw293) rfl rfl rfl (by decide +kernel) ⟨Nat.le_of_ble_eq_true rfl, Nat.le_of_ble_eq_true rfl⟩) ⟨zPc_blind, va_recv hKc hPc (ci := 9) (q0 := 0) rfl rfl, zPc_pre hPc hKc hDc hE hS hFc hZ⟩ rfl rfl hl.1 rfl (lv_room (Nat.le_of_ble_eq_true rfl)) dX11_feed_20 ⟨Nat.le_of_ble_eq_true rfl, Nat.le_of_ble_eq_true rfl⟩) hS (fun q _ h => hFc q h) hFc (fun u t H1 locs ht hvm hw hB hz1 hk1 hS => ?_)
  obtain ⟨f_3057, hP1, hK1, hD1⟩ := hB
  rw [ht] at hP1
  obtain ⟨hP, hD⟩ := va_join (wr := [(h0, .inr (11, [.ref h1, .ref u0, .ref u1, .ref u2, .ref u3, .ref u4, .ref u5, .ref u6, .ref u7, .ref u8, .null, .long (-1)]))]) (w1 := [(h1, .inr (9, [.ref h2, .ref u9, .int 4, .int 0])), (h2, .inl (k2, 600, .inl f_3057))]) hP hD [2, 1] [0] rfl rfl (by decide) (by decide) hk1 hFc hP1 hD1
  generalize H1 = H at hP hS ⊢
  have hP : va_P (dC, dI) vwCl [(h0, .inr (11, [.ref h1, .ref u0, .ref u1, .ref u2, .ref u3, .ref u4, .ref u5, .ref u6, .ref u7, .ref u8, .null, .long (-1)])), (h1, .inr (9, [.ref h2, .ref u9, .int 4, .int 0])), (h2, .inl (k2, 600, .inl f_3057))] H := hP
  have hD : va_D A [(h0, .inr (11, [.ref h1, .ref u0, .ref u1, .ref u2, .ref u3, .ref u4, .ref u5, .ref u6, .ref u7, .ref u8, .null, .long (-1)])), (h1, .inr (9, [.ref h2, .ref u9, .int 4, .int 0])), (h2, .inl (k2, 600, .inl f_3057))] := hD
  refine lv_aload_n hx hb dX11_feed_23 rfl (lv_at hl 0 rfl) ?_
  refine va_get (D := (dC, dI)) (ci := 11) (v := .ref h1) (C := RX11) (T := TX11) (N := 12) hx hb hG zuX11 hown hK hP 0 rfl rfl 0 (by decide) (hG _ zw17) (fun _ h9 => h9) rfl dX11_feed_24 ?_
  refine lv_iload_n hx hb dX11_feed_27 rfl (lv_at hl 2 rfl) ?_
  have hPc := hP.sub (ws' := [(h1, .inr (9, [.ref h2, .ref u9, .int 4, .int 0])), (h2, .inl (k2, 600, .inl f_3057))]) [1, 2] rfl
  have hDc := hD.sub (ws' := [(h1, .inr (9, [.ref h2, .ref u9, .int 4, .int 0])), (h2, .inl (k2, 600, .inl f_3057))]) [1, 2] (by decide) rfl
  have hKc := hK.sub (tys' := [(k2, .byte)]) [0] rfl
  have hFc := va_free (wc := [(h1, .inr (9, [.ref h2, .ref u9, .int 4, .int 0])), (h2, .inl (k2, 600, .inl f_3057))]) hD hS hA [1, 2] rfl
  refine va_callv (va_runV (As := [.int s1]) (rest := []) ⟨hx, hb, hml, hown, hG⟩ (kX9_put_1 l dC dI h1 h2 u9 k2 H.size s1 f_3057) (cwV 1 hG (zgV zw290 zw291 zw292 zw8 zw293) rfl rfl rfl (by decide +kernel) ⟨Nat.le_of_ble_eq_true rfl, Nat.le_of_ble_eq_true rfl⟩) ⟨zPc_blind, va_recv hKc hPc (ci := 9) (q0 := 0) rfl rfl, zPc_pre hPc hKc hDc hE hS hFc hZ⟩ rfl rfl hl.1 rfl (lv_room (Nat.le_of_ble_eq_true rfl)) dX11_feed_28 ⟨Nat.le_of_ble_eq_true rfl, Nat.le_of_ble_eq_true rfl⟩) hS (fun q _ h => hFc q h) hFc (fun u t H1 locs ht hvm hw hB hz1 hk1 hS => ?_)
  obtain ⟨f_3084, hP1, hK1, hD1⟩ := hB
  rw [ht] at hP1
  obtain ⟨hP, hD⟩ := va_join (wr := [(h0, .inr (11, [.ref h1, .ref u0, .ref u1, .ref u2, .ref u3, .ref u4, .ref u5, .ref u6, .ref u7, .ref u8, .null, .long (-1)]))]) (w1 := [(h1, .inr (9, [.ref h2, .ref u9, .int 8, .int 0])), (h2, .inl (k2, 600, .inl f_3084))]) hP hD [1, 2] [0] rfl rfl (by decide) (by decide) hk1 hFc hP1 hD1
  generalize H1 = H at hP hS ⊢
  have hP : va_P (dC, dI) vwCl [(h0, .inr (11, [.ref h1, .ref u0, .ref u1, .ref u2, .ref u3, .ref u4, .ref u5, .ref u6, .ref u7, .ref u8, .null, .long (-1)])), (h1, .inr (9, [.ref h2, .ref u9, .int 8, .int 0])), (h2, .inl (k2, 600, .inl f_3084))] H := hP
  have hD : va_D A [(h0, .inr (11, [.ref h1, .ref u0, .ref u1, .ref u2, .ref u3, .ref u4, .ref u5, .ref u6, .ref u7, .ref u8, .null, .long (-1)])), (h1, .inr (9, [.ref h2, .ref u9, .int 8, .int 0])), (h2, .inl (k2, 600, .inl f_3084))] := hD
  refine lv_aload_n hx hb dX11_feed_31 rfl (lv_at hl 0 rfl) ?_
  refine va_get (D := (dC, dI)) (ci := 11) (v := .ref h1) (C := RX11) (T := TX11) (N := 12) hx hb hG zuX11 hown hK hP 0 rfl rfl 0 (by decide) (hG _ zw17) (fun _ h9 => h9) rfl dX11_feed_32 ?_
  refine lv_iload_n hx hb dX11_feed_35 rfl (lv_at hl 3 rfl) ?_
  have hPc := hP.sub (ws' := [(h1, .inr (9, [.ref h2, .ref u9, .int 8, .int 0])), (h2, .inl (k2, 600, .inl f_3084))]) [1, 2] rfl
  have hDc := hD.sub (ws' := [(h1, .inr (9, [.ref h2, .ref u9, .int 8, .int 0])), (h2, .inl (k2, 600, .inl f_3084))]) [1, 2] (by decide) rfl
  have hKc := hK.sub (tys' := [(k2, .byte)]) [0] rfl
  have hFc := va_free (wc := [(h1, .inr (9, [.ref h2, .ref u9, .int 8, .int 0])), (h2, .inl (k2, 600, .inl f_3084))]) hD hS hA [1, 2] rfl
  refine va_callv (va_runV (As := [.int s2]) (rest := []) ⟨hx, hb, hml, hown, hG⟩ (kX9_put_2 l dC dI h1 h2 u9 k2 H.size s2 f_3084) (cwV 1 hG (zgV zw290 zw291 zw292 zw8 zw293) rfl rfl rfl (by decide +kernel) ⟨Nat.le_of_ble_eq_true rfl, Nat.le_of_ble_eq_true rfl⟩) ⟨zPc_blind, va_recv hKc hPc (ci := 9) (q0 := 0) rfl rfl, zPc_pre hPc hKc hDc hE hS hFc hZ⟩ rfl rfl hl.1 rfl (lv_room (Nat.le_of_ble_eq_true rfl)) dX11_feed_36 ⟨Nat.le_of_ble_eq_true rfl, Nat.le_of_ble_eq_true rfl⟩) hS (fun q _ h => hFc q h) hFc (fun u t H1 locs ht hvm hw hB hz1 hk1 hS => ?_)
  obtain ⟨f_3111, hP1, hK1, hD1⟩ := hB
  rw [ht] at hP1
  obtain ⟨hP, hD⟩ := va_join (wr := [(h0, .inr (11, [.ref h1, .ref u0, .ref u1, .ref u2, .ref u3, .ref u4, .ref u5, .ref u6, .ref u7, .ref u8, .null, .long (-1)]))]) (w1 := [(h1, .inr (9, [.ref h2, .ref u9, .int 12, .int 0])), (h2, .inl (k2, 600, .inl f_3111))]) hP hD [1, 2] [0] rfl rfl (by decide) (by decide) hk1 hFc hP1 hD1
  generalize H1 = H at hP hS ⊢
  have hP : va_P (dC, dI) vwCl [(h0, .inr (11, [.ref h1, .ref u0, .ref u1, .ref u2, .ref u3, .ref u4, .ref u5, .ref u6, .ref u7, .ref u8, .null, .long (-1)])), (h1, .inr (9, [.ref h2, .ref u9, .int 12, .int 0])), (h2, .inl (k2, 600, .inl f_3111))] H := hP
  have hD : va_D A [(h0, .inr (11, [.ref h1, .ref u0, .ref u1, .ref u2, .ref u3, .ref u4, .ref u5, .ref u6, .ref u7, .ref u8, .null, .long (-1)])), (h1, .inr (9, [.ref h2, .ref u9, .int 12, .int 0])), (h2, .inl (k2, 600, .inl f_3111))] := hD
  refine lv_aload_n hx hb dX11_feed_39 rfl (lv_at hl 0 rfl) ?_
  refine va_get (D := (dC, dI)) (ci := 11) (v := .ref h1) (C := RX11) (T := TX11) (N := 12) hx hb hG zuX11 hown hK hP 0 rfl rfl 0 (by decide) (hG _ zw17) (fun _ h9 => h9) rfl dX11_feed_40 ?_
  refine lv_iload hx hb dX11_feed_43 (lv_at hl 4 rfl) ?_
  have hPc := hP.sub (ws' := [(h1, .inr (9, [.ref h2, .ref u9, .int 12, .int 0])), (h2, .inl (k2, 600, .inl f_3111))]) [1, 2] rfl
  have hDc := hD.sub (ws' := [(h1, .inr (9, [.ref h2, .ref u9, .int 12, .int 0])), (h2, .inl (k2, 600, .inl f_3111))]) [1, 2] (by decide) rfl
  have hKc := hK.sub (tys' := [(k2, .byte)]) [0] rfl
  have hFc := va_free (wc := [(h1, .inr (9, [.ref h2, .ref u9, .int 12, .int 0])), (h2, .inl (k2, 600, .inl f_3111))]) hD hS hA [1, 2] rfl
  refine va_callv (va_runV (As := [.int s3]) (rest := []) ⟨hx, hb, hml, hown, hG⟩ (kX9_put_3 l dC dI h1 h2 u9 k2 H.size s3 f_3111) (cwV 1 hG (zgV zw290 zw291 zw292 zw8 zw293) rfl rfl rfl (by decide +kernel) ⟨Nat.le_of_ble_eq_true rfl, Nat.le_of_ble_eq_true rfl⟩) ⟨zPc_blind, va_recv hKc hPc (ci := 9) (q0 := 0) rfl rfl, zPc_pre hPc hKc hDc hE hS hFc hZ⟩ rfl rfl hl.1 rfl (lv_room (Nat.le_of_ble_eq_true rfl)) dX11_feed_45 ⟨Nat.le_of_ble_eq_true rfl, Nat.le_of_ble_eq_true rfl⟩) hS (fun q _ h => hFc q h) hFc (fun u t H1 locs ht hvm hw hB hz1 hk1 hS => ?_)
  obtain ⟨f_3138, hP1, hK1, hD1⟩ := hB
  rw [ht] at hP1
  obtain ⟨hP, hD⟩ := va_join (wr := [(h0, .inr (11, [.ref h1, .ref u0, .ref u1, .ref u2, .ref u3, .ref u4, .ref u5, .ref u6, .ref u7, .ref u8, .null, .long (-1)]))]) (w1 := [(h1, .inr (9, [.ref h2, .ref u9, .int 16, .int 0])), (h2, .inl (k2, 600, .inl f_3138))]) hP hD [1, 2] [0] rfl rfl (by decide) (by decide) hk1 hFc hP1 hD1
  generalize H1 = H at hP hS ⊢
  have hP : va_P (dC, dI) vwCl [(h0, .inr (11, [.ref h1, .ref u0, .ref u1, .ref u2, .ref u3, .ref u4, .ref u5, .ref u6, .ref u7, .ref u8, .null, .long (-1)])), (h1, .inr (9, [.ref h2, .ref u9, .int 16, .int 0])), (h2, .inl (k2, 600, .inl f_3138))] H := hP
  have hD : va_D A [(h0, .inr (11, [.ref h1, .ref u0, .ref u1, .ref u2, .ref u3, .ref u4, .ref u5, .ref u6, .ref u7, .ref u8, .null, .long (-1)])), (h1, .inr (9, [.ref h2, .ref u9, .int 16, .int 0])), (h2, .inl (k2, 600, .inl f_3138))] := hD
  refine lv_aload_n hx hb dX11_feed_48 rfl (lv_at hl 0 rfl) ?_
  refine va_get (D := (dC, dI)) (ci := 11) (v := .ref h1) (C := RX11) (T := TX11) (N := 12) hx hb hG zuX11 hown hK hP 0 rfl rfl 0 (by decide) (hG _ zw17) (fun _ h9 => h9) rfl dX11_feed_49 ?_
  refine lv_iload hx hb dX11_feed_52 (lv_at hl 5 rfl) ?_
  have hPc := hP.sub (ws' := [(h1, .inr (9, [.ref h2, .ref u9, .int 16, .int 0])), (h2, .inl (k2, 600, .inl f_3138))]) [1, 2] rfl
  have hDc := hD.sub (ws' := [(h1, .inr (9, [.ref h2, .ref u9, .int 16, .int 0])), (h2, .inl (k2, 600, .inl f_3138))]) [1, 2] (by decide) rfl
  have hKc := hK.sub (tys' := [(k2, .byte)]) [0] rfl
  have hFc := va_free (wc := [(h1, .inr (9, [.ref h2, .ref u9, .int 16, .int 0])), (h2, .inl (k2, 600, .inl f_3138))]) hD hS hA [1, 2] rfl
  refine va_callv (va_runV (As := [.int s4]) (rest := []) ⟨hx, hb, hml, hown, hG⟩ (kX9_put_4 l dC dI h1 h2 u9 k2 H.size s4 f_3138) (cwV 1 hG (zgV zw290 zw291 zw292 zw8 zw293) rfl rfl rfl (by decide +kernel) ⟨Nat.le_of_ble_eq_true rfl, Nat.le_of_ble_eq_true rfl⟩) ⟨zPc_blind, va_recv hKc hPc (ci := 9) (q0 := 0) rfl rfl, zPc_pre hPc hKc hDc hE hS hFc hZ⟩ rfl rfl hl.1 rfl (lv_room (Nat.le_of_ble_eq_true rfl)) dX11_feed_54 ⟨Nat.le_of_ble_eq_true rfl, Nat.le_of_ble_eq_true rfl⟩) hS (fun q _ h => hFc q h) hFc (fun u t H1 locs ht hvm hw hB hz1 hk1 hS => ?_)
  obtain ⟨f_3165, hP1, hK1, hD1⟩ := hB
  rw [ht] at hP1
  obtain ⟨hP, hD⟩ := va_join (wr := [(h0, .inr (11, [.ref h1, .ref u0, .ref u1, .ref u2, .ref u3, .ref u4, .ref u5, .ref u6, .ref u7, .ref u8, .null, .long (-1)]))]) (w1 := [(h1, .inr (9, [.ref h2, .ref u9, .int 20, .int 0])), (h2, .inl (k2, 600, .inl f_3165))]) hP hD [1, 2] [0] rfl rfl (by decide) (by decide) hk1 hFc hP1 hD1
  generalize H1 = H at hP hS ⊢
  have hP : va_P (dC, dI) vwCl [(h0, .inr (11, [.ref h1, .ref u0, .ref u1, .ref u2, .ref u3, .ref u4, .ref u5, .ref u6, .ref u7, .ref u8, .null, .long (-1)])), (h1, .inr (9, [.ref h2, .ref u9, .int 20, .int 0])), (h2, .inl (k2, 600, .inl f_3165))] H := hP
  have hD : va_D A [(h0, .inr (11, [.ref h1, .ref u0, .ref u1, .ref u2, .ref u3, .ref u4, .ref u5, .ref u6, .ref u7, .ref u8, .null, .long (-1)])), (h1, .inr (9, [.ref h2, .ref u9, .int 20, .int 0])), (h2, .inl (k2, 600, .inl f_3165))] := hD
  refine lv_aload_n hx hb dX11_feed_57 rfl (lv_at hl 0 rfl) ?_
  refine va_get (D := (dC, dI)) (ci := 11) (v := .ref h1) (C := RX11) (T := TX11) (N := 12) hx hb hG zuX11 hown hK hP 0 rfl rfl 0 (by decide) (hG _ zw17) (fun _ h9 => h9) rfl dX11_feed_58 ?_
  have hPc := hP.sub (ws' := [(h1, .inr (9, [.ref h2, .ref u9, .int 20, .int 0]))]) [1] rfl
  have hDc := hD.sub (ws' := [(h1, .inr (9, [.ref h2, .ref u9, .int 20, .int 0]))]) [1] (by decide) rfl
  have hKc := hK.sub (tys' := []) [] rfl
  have hFc := va_free (wc := [(h1, .inr (9, [.ref h2, .ref u9, .int 20, .int 0]))]) hD hS hA [1] rfl
  refine va_calli (va_runV (As := []) (rest := []) ⟨hx, hb, hml, hown, hG⟩ (kX9_size_0 l dC dI h1 h2 u9 H.size) (cwV 0 hG (zgV zw294 zw295 zw296 zw8 zw297) rfl rfl rfl (by decide +kernel) ⟨Nat.le_of_ble_eq_true rfl, Nat.le_of_ble_eq_true rfl⟩) ⟨zPc_blind, va_recv hKc hPc (ci := 9) (q0 := 0) rfl rfl, zPc_pre hPc hKc hDc hE hS hFc hZ⟩ rfl rfl hl.1 rfl (lv_room (Nat.le_of_ble_eq_true rfl)) dX11_feed_61 ⟨Nat.le_of_ble_eq_true rfl, Nat.le_of_ble_eq_true rfl⟩) hS (fun q _ h => hFc q h) hFc (fun r_3166 u t H1 locs ht hvm hw hB hz1 hk1 hS => ?_)
  have hw : r_3166 = 20 := hw
  subst hw
  obtain ⟨hP1, hK1, hD1⟩ := hB
  rw [ht] at hP1
  obtain ⟨hP, hD⟩ := va_join (wr := [(h0, .inr (11, [.ref h1, .ref u0, .ref u1, .ref u2, .ref u3, .ref u4, .ref u5, .ref u6, .ref u7, .ref u8, .null, .long (-1)])), (h2, .inl (k2, 600, .inl f_3165))]) (w1 := [(h1, .inr (9, [.ref h2, .ref u9, .int 20, .int 0]))]) hP hD [1] [0, 2] rfl rfl (by decide) (by decide) hk1 hFc hP1 hD1
  generalize H1 = H at hP hS ⊢
  have hP : va_P (dC, dI) vwCl [(h0, .inr (11, [.ref h1, .ref u0, .ref u1, .ref u2, .ref u3, .ref u4, .ref u5, .ref u6, .ref u7, .ref u8, .null, .long (-1)])), (h2, .inl (k2, 600, .inl f_3165)), (h1, .inr (9, [.ref h2, .ref u9, .int 20, .int 0]))] H := hP
  have hD : va_D A [(h0, .inr (11, [.ref h1, .ref u0, .ref u1, .ref u2, .ref u3, .ref u4, .ref u5, .ref u6, .ref u7, .ref u8, .null, .long (-1)])), (h2, .inl (k2, 600, .inl f_3165)), (h1, .inr (9, [.ref h2, .ref u9, .int 20, .int 0]))] := hD
  have hP9 := hP.sub (ws' := [(h0, .inr (11, [.ref h1, .ref u0, .ref u1, .ref u2, .ref u3, .ref u4, .ref u5, .ref u6, .ref u7, .ref u8, .null, .long (-1)])), (h1, .inr (9, [.ref h2, .ref u9, .int 20, .int 0])), (h2, .inl (k2, 600, .inl f_3165))]) [0, 2, 1] rfl
  have hD9 := hD.sub (ws' := [(h0, .inr (11, [.ref h1, .ref u0, .ref u1, .ref u2, .ref u3, .ref u4, .ref u5, .ref u6, .ref u7, .ref u8, .null, .long (-1)])), (h1, .inr (9, [.ref h2, .ref u9, .int 20, .int 0])), (h2, .inl (k2, 600, .inl f_3165))]) [0, 2, 1] (by decide) rfl
  have hK9 := hK.sub (tys' := [(k2, .byte)]) [0] rfl
  refine W.widen (k := 0) (n := 0) (by decide) (by decide) ?_
  exact W.iret (v := 20) hx hb hr (fun t ht hW => ⟨⟨20, (), rfl, rfl, f_3165, by rw [ht]; exact hP9, va_K.moved hW.alike hK9, hD9⟩, hS.F ht⟩) hS.2.2 dX11_feed_64
set_option maxHeartbeats 4000000 in
set_option maxRecDepth 100000 in
theorem kX13_lay_0 (l : Launch) (dC : Nat → ClassId) (dI : Nat → Nat → Nat) (h0 h1 u0 u1 u2 u3 u4 u5 u6 u7 u8 u9 u10 u11 u12 u13 u14 u15 u16 u17 u18 u19 u20 u21 u22 u23 u24 u25 u26 u27 u28 u29 u30 u31 u32 u33 u34 u35 u36 u37 u38 u39 u40 u41 u42 u43 u44 u45 u46 u47 : Nat) (k1 : ClassId) (sz : Nat) (s0 : Int32) : Met l yX13_lay (zw yX13_lay cX13_lay 3 none) { frames := 0, cells := 0, slots := 0, locals := 0 } (zPc dC dI [.ref h0, .int s0] sz [(h0, .inr (13, [.ref h1, .int 0, .ref u0, .ref u1, .int 0, .ref u2, .ref u3, .ref u4, .ref u5, .ref u6, .ref u7, .ref u8, .ref u9, .int 0, .ref u10, .ref u11, .int 0, .ref u12, .int (-1), .ref u13, .int 0, .int 0, .ref u14, .int 0, .int 0, .ref u15, .ref u16, .ref u17, .ref u18, .ref u19, .int 0, .ref u20, .int 0, .int 0, .int 0, .int 0, .int 0, .int 0, .ref u21, .ref u22, .ref u23, .ref u24, .int 0, .ref u25, .ref u26, .ref u27, .ref u28, .int 0, .ref u29, .ref u30, .int 0, .int 0, .ref u31, .int 0, .int 0, .int 0, .ref u32, .ref u33, .ref u34, .int 0, .int 0, .ref u35, .ref u36, .ref u37, .ref u38, .ref u39, .ref u40, .ref u41, .ref u42, .ref u43, .ref u44, .int 0, .ref u45, .ref u46, .ref u47])), (h1, .inl (k1, 600, .inl (fun _ => 0)))] [(k1, .byte)]) (va_Qv (fun _ : Unit => True) (fun (_ : Unit) (t : State) => ∃ (f0 : Nat → Int32), va_P (dC, dI) vwCl [(h0, .inr (13, [.ref h1, .int 4, .ref u0, .ref u1, .int 0, .ref u2, .ref u3, .ref u4, .ref u5, .ref u6, .ref u7, .ref u8, .ref u9, .int 0, .ref u10, .ref u11, .int 0, .ref u12, .int (-1), .ref u13, .int 0, .int 0, .ref u14, .int 0, .int 0, .ref u15, .ref u16, .ref u17, .ref u18, .ref u19, .int 0, .ref u20, .int 0, .int 0, .int 0, .int 0, .int 0, .int 0, .ref u21, .ref u22, .ref u23, .ref u24, .int 0, .ref u25, .ref u26, .ref u27, .ref u28, .int 0, .ref u29, .ref u30, .int 0, .int 0, .ref u31, .int 0, .int 0, .int 0, .ref u32, .ref u33, .ref u34, .int 0, .int 0, .ref u35, .ref u36, .ref u37, .ref u38, .ref u39, .ref u40, .ref u41, .ref u42, .ref u43, .ref u44, .int 0, .ref u45, .ref u46, .ref u47])), (h1, .inl (k1, 600, .inl f0))] t.heap ∧ va_K (dC, dI) vwCl [(k1, .byte)] t ∧ va_D (va_A [(h0, .inr (13, [.ref h1, .int 0, .ref u0, .ref u1, .int 0, .ref u2, .ref u3, .ref u4, .ref u5, .ref u6, .ref u7, .ref u8, .ref u9, .int 0, .ref u10, .ref u11, .int 0, .ref u12, .int (-1), .ref u13, .int 0, .int 0, .ref u14, .int 0, .int 0, .ref u15, .ref u16, .ref u17, .ref u18, .ref u19, .int 0, .ref u20, .int 0, .int 0, .int 0, .int 0, .int 0, .int 0, .ref u21, .ref u22, .ref u23, .ref u24, .int 0, .ref u25, .ref u26, .ref u27, .ref u28, .int 0, .ref u29, .ref u30, .int 0, .int 0, .ref u31, .int 0, .int 0, .int 0, .ref u32, .ref u33, .ref u34, .int 0, .int 0, .ref u35, .ref u36, .ref u37, .ref u38, .ref u39, .ref u40, .ref u41, .ref u42, .ref u43, .ref u44, .int 0, .ref u45, .ref u46, .ref u47])), (h1, .inl (k1, 600, .inl (fun _ => 0)))] sz) [(h0, .inr (13, [.ref h1, .int 4, .ref u0, .ref u1, .int 0, .ref u2, .ref u3, .ref u4, .ref u5, .ref u6, .ref u7, .ref u8, .ref u9, .int 0, .ref u10, .ref u11, .int 0, .ref u12, .int (-1), .ref u13, .int 0, .int 0, .ref u14, .int 0, .int 0, .ref u15, .ref u16, .ref u17, .ref u18, .ref u19, .int 0, .ref u20, .int 0, .int 0, .int 0, .int 0, .int 0, .int 0, .ref u21, .ref u22, .ref u23, .ref u24, .int 0, .ref u25, .ref u26, .ref u27, .ref u28, .int 0, .ref u29, .ref u30, .int 0, .int 0, .ref u31, .int 0, .int 0, .int 0, .ref u32, .ref u33, .ref u34, .int 0, .int 0, .ref u35, .ref u36, .ref u37, .ref u38, .ref u39, .ref u40, .ref u41, .ref u42, .ref u43, .ref u44, .int 0, .ref u45, .ref u46, .ref u47])), (h1, .inl (k1, 600, .inl f0))]) (va_A [(h0, .inr (13, [.ref h1, .int 0, .ref u0, .ref u1, .int 0, .ref u2, .ref u3, .ref u4, .ref u5, .ref u6, .ref u7, .ref u8, .ref u9, .int 0, .ref u10, .ref u11, .int 0, .ref u12, .int (-1), .ref u13, .int 0, .int 0, .ref u14, .int 0, .int 0, .ref u15, .ref u16, .ref u17, .ref u18, .ref u19, .int 0, .ref u20, .int 0, .int 0, .int 0, .int 0, .int 0, .int 0, .ref u21, .ref u22, .ref u23, .ref u24, .int 0, .ref u25, .ref u26, .ref u27, .ref u28, .int 0, .ref u29, .ref u30, .int 0, .int 0, .ref u31, .int 0, .int 0, .int 0, .ref u32, .ref u33, .ref u34, .int 0, .int 0, .ref u35, .ref u36, .ref u37, .ref u38, .ref u39, .ref u40, .ref u41, .ref u42, .ref u43, .ref u44, .int 0, .ref u45, .ref u46, .ref u47])), (h1, .inl (k1, 600, .inl (fun _ => 0)))] sz)) 0 0 (va_A [(h0, .inr (13, [.ref h1, .int 0, .ref u0, .ref u1, .int 0, .ref u2, .ref u3, .ref u4, .ref u5, .ref u6, .ref u7, .ref u8, .ref u9, .int 0, .ref u10, .ref u11, .int 0, .ref u12, .int (-1), .ref u13, .int 0, .int 0, .ref u14, .int 0, .int 0, .ref u15, .ref u16, .ref u17, .ref u18, .ref u19, .int 0, .ref u20, .int 0, .int 0, .int 0, .int 0, .int 0, .int 0, .ref u21, .ref u22, .ref u23, .ref u24, .int 0, .ref u25, .ref u26, .ref u27, .ref u28, .int 0, .ref u29, .ref u30, .int 0, .int 0, .ref u31, .int 0, .int 0, .int 0, .ref u32, .ref u33, .ref u34, .int 0, .int 0, .ref u35, .ref u36, .ref u37, .ref u38, .ref u39, .ref u40, .ref u41, .ref u42, .ref u43, .ref u44, .int 0, .ref u45, .ref u46, .ref u47])), (h1, .inl (k1, 600, .inl (fun _ => 0)))] sz) := by
  refine Met.ofW (cc := cX13_lay) (maxL := 3) (ret := none) (by decide) rfl ?_
  intro p e s m args below meth c s₁ B hml hv
  obtain ⟨rfl, hsz, hP, hK, hD0, hE, hZ⟩ := hv
  have hx := B.exec
  have hb := B.bytes
  have hr := B.returns
  have hG : ∀ w ∈ zG, w.before _ s = true := fun w h => atoms_spec (ws := (zw yX13_lay cX13_lay 3 none)) B.pre w (List.mem_cons_of_mem _ h)
  have hown : s.vm.findClass RX13 = some m.cls := findClass_of_methodNamed B.named
  have hlocks := B.notSynchronized
  subst hsz
  have hD := hD0.self (sz := s.heap.size)
  generalize hAe : va_A [(h0, .inr (13, [.ref h1, .int 0, .ref u0, .ref u1, .int 0, .ref u2, .ref u3, .ref u4, .ref u5, .ref u6, .ref u7, .ref u8, .ref u9, .int 0, .ref u10, .ref u11, .int 0, .ref u12, .int (-1), .ref u13, .int 0, .int 0, .ref u14, .int 0, .int 0, .ref u15, .ref u16, .ref u17, .ref u18, .ref u19, .int 0, .ref u20, .int 0, .int 0, .int 0, .int 0, .int 0, .int 0, .ref u21, .ref u22, .ref u23, .ref u24, .int 0, .ref u25, .ref u26, .ref u27, .ref u28, .int 0, .ref u29, .ref u30, .int 0, .int 0, .ref u31, .int 0, .int 0, .int 0, .ref u32, .ref u33, .ref u34, .int 0, .int 0, .ref u35, .ref u36, .ref u37, .ref u38, .ref u39, .ref u40, .ref u41, .ref u42, .ref u43, .ref u44, .int 0, .ref u45, .ref u46, .ref u47])), (h1, .inl (k1, 600, .inl (fun _ => 0)))] s.heap.size = A at hD hZ ⊢
  have hA : ∀ q : Nat, s.heap.size ≤ q → A q := fun q h => by rw [← hAe]; exact Or.inr h
  have hS : va_S A s.heap s.heap [] := va_S.rf
  have hl := lv_entry ([.ref h0, .int s0]) (n := 3) (Nat.le_of_ble_eq_true rfl)
  rw [lg_entry_eq]
  generalize (lg_sl ([.ref h0, .int s0]) ++ List.replicate (3 - (lg_sl ([.ref h0, .int s0])).length) Slot.unset).toArray = ls at hl ⊢
  have hl : lv_has ls 3 [(0, .ref h0), (1, .int s0)] := hl
  refine lv_bipush (v := 24) hx hb dX13_lay_0 (by decide) ?_
  refine lv_istore_n (lv' := [(2, .int 24), (0, .ref h0), (1, .int s0)]) hx hb dX13_lay_2 rfl hl (by decide) rfl (fun ls hl => ?_)
  refine lv_iload_n hx hb dX13_lay_3 rfl (lv_at hl 0 rfl) ?_
  refine lv_if_lt (tgt := 36) hx hb dX13_lay_4 (by decide) (fun c_3218 => absurd c_3218 (by decide)) (fun c_3218 => ?_)
  refine lv_aload_n hx hb dX13_lay_7 rfl (lv_at hl 1 rfl) ?_
  refine va_get (D := (dC, dI)) (ci := 13) (v := .ref h1) (C := RX13) (T := TX13) (N := 75) hx hb hG zuX13 hown hK hP 0 rfl rfl 0 (by decide) (hG _ zw209) (fun _ h9 => h9) rfl dX13_lay_8 ?_
  refine lv_aload_n hx hb dX13_lay_11 rfl (lv_at hl 1 rfl) ?_
  refine va_get (D := (dC, dI)) (ci := 13) (v := .int 0) (C := RX13) (T := TX13) (N := 75) hx hb hG zuX13 hown hK hP 0 rfl rfl 1 (by decide) (hG _ zw303) (fun _ h9 => h9) rfl dX13_lay_12 ?_
  refine lv_iload_n hx hb dX13_lay_15 rfl (lv_at hl 2 rfl) ?_
  refine lv_iload_n hx hb dX13_lay_16 rfl (lv_at hl 0 rfl) ?_
  refine lv_ishr hx hb dX13_lay_17 ?_
  refine lv_topi (fun z_3219 e_z_3219 => ?_)
  refine lv_i2b hx hb dX13_lay_18 rfl ?_
  refine lv_topi (fun z_3220 e_z_3220 => ?_)
  refine va_bast hx hb hK hP hD hS 1 0 rfl rfl (zin_lit (by decide)) dX13_lay_19 (fun H locs hP hD hS => ?_)
  obtain ⟨f_3221, e_f_3221⟩ : ∃ z : Nat → Int32, z = upd (fun _ => 0) 0 (vp_nar .byte z_3220) := ⟨_, rfl⟩
  have hP : va_P (dC, dI) vwCl [(h0, .inr (13, [.ref h1, .int 0, .ref u0, .ref u1, .int 0, .ref u2, .ref u3, .ref u4, .ref u5, .ref u6, .ref u7, .ref u8, .ref u9, .int 0, .ref u10, .ref u11, .int 0, .ref u12, .int (-1), .ref u13, .int 0, .int 0, .ref u14, .int 0, .int 0, .ref u15, .ref u16, .ref u17, .ref u18, .ref u19, .int 0, .ref u20, .int 0, .int 0, .int 0, .int 0, .int 0, .int 0, .ref u21, .ref u22, .ref u23, .ref u24, .int 0, .ref u25, .ref u26, .ref u27, .ref u28, .int 0, .ref u29, .ref u30, .int 0, .int 0, .ref u31, .int 0, .int 0, .int 0, .ref u32, .ref u33, .ref u34, .int 0, .int 0, .ref u35, .ref u36, .ref u37, .ref u38, .ref u39, .ref u40, .ref u41, .ref u42, .ref u43, .ref u44, .int 0, .ref u45, .ref u46, .ref u47])), (h1, .inl (k1, 600, .inl f_3221))] H := by rw [e_f_3221]; exact hP
  have hD : va_D A [(h0, .inr (13, [.ref h1, .int 0, .ref u0, .ref u1, .int 0, .ref u2, .ref u3, .ref u4, .ref u5, .ref u6, .ref u7, .ref u8, .ref u9, .int 0, .ref u10, .ref u11, .int 0, .ref u12, .int (-1), .ref u13, .int 0, .int 0, .ref u14, .int 0, .int 0, .ref u15, .ref u16, .ref u17, .ref u18, .ref u19, .int 0, .ref u20, .int 0, .int 0, .int 0, .int 0, .int 0, .int 0, .ref u21, .ref u22, .ref u23, .ref u24, .int 0, .ref u25, .ref u26, .ref u27, .ref u28, .int 0, .ref u29, .ref u30, .int 0, .int 0, .ref u31, .int 0, .int 0, .int 0, .ref u32, .ref u33, .ref u34, .int 0, .int 0, .ref u35, .ref u36, .ref u37, .ref u38, .ref u39, .ref u40, .ref u41, .ref u42, .ref u43, .ref u44, .int 0, .ref u45, .ref u46, .ref u47])), (h1, .inl (k1, 600, .inl f_3221))] := by rw [e_f_3221]; exact hD
  refine lv_aload_n hx hb dX13_lay_20 rfl (lv_at hl 1 rfl) ?_
  refine lv_dup hx hb dX13_lay_21 rfl ?_
  refine va_get (D := (dC, dI)) (ci := 13) (v := .int 0) (C := RX13) (T := TX13) (N := 75) hx hb hG zuX13 hown hK hP 0 rfl rfl 1 (by decide) (hG _ zw303) (fun _ h9 => h9) rfl dX13_lay_22 ?_
  refine lv_iconst (v := 1) hx hb dX13_lay_25 (by decide) ?_
  refine lv_iadd hx hb dX13_lay_26 ?_
  refine lv_topi (fun z_3222 e_z_3222 => ?_)
  obtain rfl : z_3222 = (1 : Int32) := e_z_3222.trans (by decide)
  refine va_put (D := (dC, dI)) (ci := 13) (v := .int 1) (ty := .int) (C := RX13) (T := TX13) (N := 75) hx hb hG zuX13 tyX13 tyX13_ok nmX13 hown hK hP hD hS 0 rfl rfl 1 (by decide) (hG _ zw303) (fun _ h9 => h9) rfl (by decide +kernel) rfl rfl (Nat.le_of_ble_eq_true rfl) dX13_lay_27 (fun H locs hP hD hS => ?_)
  have hP : va_P (dC, dI) vwCl [(h0, .inr (13, [.ref h1, .int 1, .ref u0, .ref u1, .int 0, .ref u2, .ref u3, .ref u4, .ref u5, .ref u6, .ref u7, .ref u8, .ref u9, .int 0, .ref u10, .ref u11, .int 0, .ref u12, .int (-1), .ref u13, .int 0, .int 0, .ref u14, .int 0, .int 0, .ref u15, .ref u16, .ref u17, .ref u18, .ref u19, .int 0, .ref u20, .int 0, .int 0, .int 0, .int 0, .int 0, .int 0, .ref u21, .ref u22, .ref u23, .ref u24, .int 0, .ref u25, .ref u26, .ref u27, .ref u28, .int 0, .ref u29, .ref u30, .int 0, .int 0, .ref u31, .int 0, .int 0, .int 0, .ref u32, .ref u33, .ref u34, .int 0, .int 0, .ref u35, .ref u36, .ref u37, .ref u38, .ref u39, .ref u40, .ref u41, .ref u42, .ref u43, .ref u44, .int 0, .ref u45, .ref u46, .ref u47])), (h1, .inl (k1, 600, .inl f_3221))] H := hP
  have hD : va_D A [(h0, .inr (13, [.ref h1, .int 1, .ref u0, .ref u1, .int 0, .ref u2, .ref u3, .ref u4, .ref u5, .ref u6, .ref u7, .ref u8, .ref u9, .int 0, .ref u10, .ref u11, .int 0, .ref u12, .int (-1), .ref u13, .int 0, .int 0, .ref u14, .int 0, .int 0, .ref u15, .ref u16, .ref u17, .ref u18, .ref u19, .int 0, .ref u20, .int 0, .int 0, .int 0, .int 0, .int 0, .int 0, .ref u21, .ref u22, .ref u23, .ref u24, .int 0, .ref u25, .ref u26, .ref u27, .ref u28, .int 0, .ref u29, .ref u30, .int 0, .int 0, .ref u31, .int 0, .int 0, .int 0, .ref u32, .ref u33, .ref u34, .int 0, .int 0, .ref u35, .ref u36, .ref u37, .ref u38, .ref u39, .ref u40, .ref u41, .ref u42, .ref u43, .ref u44, .int 0, .ref u45, .ref u46, .ref u47])), (h1, .inl (k1, 600, .inl f_3221))] := hD
  refine lv_iinc (v := 16) (lv' := [(2, .int 16), (0, .ref h0), (1, .int s0)]) hx hb dX13_lay_30 hl (k := 0) rfl (by decide) (by decide) rfl (fun ls hl => ?_)
  refine lv_goto (tgt := 3) hx hb dX13_lay_33 (by decide) ?_
  refine lv_iload_n hx hb dX13_lay_3 rfl (lv_at hl 0 rfl) ?_
  refine lv_if_lt (tgt := 36) hx hb dX13_lay_4 (by decide) (fun c_3223 => absurd c_3223 (by decide)) (fun c_3223 => ?_)
  refine lv_aload_n hx hb dX13_lay_7 rfl (lv_at hl 1 rfl) ?_
  refine va_get (D := (dC, dI)) (ci := 13) (v := .ref h1) (C := RX13) (T := TX13) (N := 75) hx hb hG zuX13 hown hK hP 0 rfl rfl 0 (by decide) (hG _ zw209) (fun _ h9 => h9) rfl dX13_lay_8 ?_
  refine lv_aload_n hx hb dX13_lay_11 rfl (lv_at hl 1 rfl) ?_
  refine va_get (D := (dC, dI)) (ci := 13) (v := .int 1) (C := RX13) (T := TX13) (N := 75) hx hb hG zuX13 hown hK hP 0 rfl rfl 1 (by decide) (hG _ zw303) (fun _ h9 => h9) rfl dX13_lay_12 ?_
  refine lv_iload_n hx hb dX13_lay_15 rfl (lv_at hl 2 rfl) ?_
  refine lv_iload_n hx hb dX13_lay_16 rfl (lv_at hl 0 rfl) ?_
  refine lv_ishr hx hb dX13_lay_17 ?_
  refine lv_topi (fun z_3224 e_z_3224 => ?_)
  refine lv_i2b hx hb dX13_lay_18 rfl ?_
  refine lv_topi (fun z_3225 e_z_3225 => ?_)
  refine va_bast hx hb hK hP hD hS 1 0 rfl rfl (zin_lit (by decide)) dX13_lay_19 (fun H locs hP hD hS => ?_)
  obtain ⟨f_3226, e_f_3226⟩ : ∃ z : Nat → Int32, z = upd f_3221 1 (vp_nar .byte z_3225) := ⟨_, rfl⟩
  have hP : va_P (dC, dI) vwCl [(h0, .inr (13, [.ref h1, .int 1, .ref u0, .ref u1, .int 0, .ref u2, .ref u3, .ref u4, .ref u5, .ref u6, .ref u7, .ref u8, .ref u9, .int 0, .ref u10, .ref u11, .int 0, .ref u12, .int (-1), .ref u13, .int 0, .int 0, .ref u14, .int 0, .int 0, .ref u15, .ref u16, .ref u17, .ref u18, .ref u19, .int 0, .ref u20, .int 0, .int 0, .int 0, .int 0, .int 0, .int 0, .ref u21, .ref u22, .ref u23, .ref u24, .int 0, .ref u25, .ref u26, .ref u27, .ref u28, .int 0, .ref u29, .ref u30, .int 0, .int 0, .ref u31, .int 0, .int 0, .int 0, .ref u32, .ref u33, .ref u34, .int 0, .int 0, .ref u35, .ref u36, .ref u37, .ref u38, .ref u39, .ref u40, .ref u41, .ref u42, .ref u43, .ref u44, .int 0, .ref u45, .ref u46, .ref u47])), (h1, .inl (k1, 600, .inl f_3226))] H := by rw [e_f_3226]; exact hP
  have hD : va_D A [(h0, .inr (13, [.ref h1, .int 1, .ref u0, .ref u1, .int 0, .ref u2, .ref u3, .ref u4, .ref u5, .ref u6, .ref u7, .ref u8, .ref u9, .int 0, .ref u10, .ref u11, .int 0, .ref u12, .int (-1), .ref u13, .int 0, .int 0, .ref u14, .int 0, .int 0, .ref u15, .ref u16, .ref u17, .ref u18, .ref u19, .int 0, .ref u20, .int 0, .int 0, .int 0, .int 0, .int 0, .int 0, .ref u21, .ref u22, .ref u23, .ref u24, .int 0, .ref u25, .ref u26, .ref u27, .ref u28, .int 0, .ref u29, .ref u30, .int 0, .int 0, .ref u31, .int 0, .int 0, .int 0, .ref u32, .ref u33, .ref u34, .int 0, .int 0, .ref u35, .ref u36, .ref u37, .ref u38, .ref u39, .ref u40, .ref u41, .ref u42, .ref u43, .ref u44, .int 0, .ref u45, .ref u46, .ref u47])), (h1, .inl (k1, 600, .inl f_3226))] := by rw [e_f_3226]; exact hD
  refine lv_aload_n hx hb dX13_lay_20 rfl (lv_at hl 1 rfl) ?_
  refine lv_dup hx hb dX13_lay_21 rfl ?_
  refine va_get (D := (dC, dI)) (ci := 13) (v := .int 1) (C := RX13) (T := TX13) (N := 75) hx hb hG zuX13 hown hK hP 0 rfl rfl 1 (by decide) (hG _ zw303) (fun _ h9 => h9) rfl dX13_lay_22 ?_
  refine lv_iconst (v := 1) hx hb dX13_lay_25 (by decide) ?_
  refine lv_iadd hx hb dX13_lay_26 ?_
  refine lv_topi (fun z_3227 e_z_3227 => ?_)
  obtain rfl : z_3227 = (2 : Int32) := e_z_3227.trans (by decide)
  refine va_put (D := (dC, dI)) (ci := 13) (v := .int 2) (ty := .int) (C := RX13) (T := TX13) (N := 75) hx hb hG zuX13 tyX13 tyX13_ok nmX13 hown hK hP hD hS 0 rfl rfl 1 (by decide) (hG _ zw303) (fun _ h9 => h9) rfl (by decide +kernel) rfl rfl (Nat.le_of_ble_eq_true rfl) dX13_lay_27 (fun H locs hP hD hS => ?_)
  have hP : va_P (dC, dI) vwCl [(h0, .inr (13, [.ref h1, .int 2, .ref u0, .ref u1, .int 0, .ref u2, .ref u3, .ref u4, .ref u5, .ref u6, .ref u7, .ref u8, .ref u9, .int 0, .ref u10, .ref u11, .int 0, .ref u12, .int (-1), .ref u13, .int 0, .int 0, .ref u14, .int 0, .int 0, .ref u15, .ref u16, .ref u17, .ref u18, .ref u19, .int 0, .ref u20, .int 0, .int 0, .int 0, .int 0, .int 0, .int 0, .ref u21, .ref u22, .ref u23, .ref u24, .int 0, .ref u25, .ref u26, .ref u27, .ref u28, .int 0, .ref u29, .ref u30, .int 0, .int 0, .ref u31, .int 0, .int 0, .int 0, .ref u32, .ref u33, .ref u34, .int 0, .int 0, .ref u35, .ref u36, .ref u37, .ref u38, .ref u39, .ref u40, .ref u41, .ref u42, .ref u43, .ref u44, .int 0, .ref u45, .ref u46, .ref u47])), (h1, .inl (k1, 600, .inl f_3226))] H := hP
  have hD : va_D A [(h0, .inr (13, [.ref h1, .int 2, .ref u0, .ref u1, .int 0, .ref u2, .ref u3, .ref u4, .ref u5, .ref u6, .ref u7, .ref u8, .ref u9, .int 0, .ref u10, .ref u11, .int 0, .ref u12, .int (-1), .ref u13, .int 0, .int 0, .ref u14, .int 0, .int 0, .ref u15, .ref u16, .ref u17, .ref u18, .ref u19, .int 0, .ref u20, .int 0, .int 0, .int 0, .int 0, .int 0, .int 0, .ref u21, .ref u22, .ref u23, .ref u24, .int 0, .ref u25, .ref u26, .ref u27, .ref u28, .int 0, .ref u29, .ref u30, .int 0, .int 0, .ref u31, .int 0, .int 0, .int 0, .ref u32, .ref u33, .ref u34, .int 0, .int 0, .ref u35, .ref u36, .ref u37, .ref u38, .ref u39, .ref u40, .ref u41, .ref u42, .ref u43, .ref u44, .int 0, .ref u45, .ref u46, .ref u47])), (h1, .inl (k1, 600, .inl f_3226))] := hD
  refine lv_iinc (v := 8) (lv' := [(2, .int 8), (0, .ref h0), (1, .int s0)]) hx hb dX13_lay_30 hl (k := 0) rfl (by decide) (by decide) rfl (fun ls hl => ?_)
  refine lv_goto (tgt := 3) hx hb dX13_lay_33 (by decide) ?_
  refine lv_iload_n hx hb dX13_lay_3 rfl (lv_at hl 0 rfl) ?_
  refine lv_if_lt (tgt := 36) hx hb dX13_lay_4 (by decide) (fun c_3228 => absurd c_3228 (by decide)) (fun c_3228 => ?_)
  refine lv_aload_n hx hb dX13_lay_7 rfl (lv_at hl 1 rfl) ?_
  refine va_get (D := (dC, dI)) (ci := 13) (v := .ref h1) (C := RX13) (T := TX13) (N := 75) hx hb hG zuX13 hown hK hP 0 rfl rfl 0 (by decide) (hG _ zw209) (fun _ h9 => h9) rfl dX13_lay_8 ?_
  refine lv_aload_n hx hb dX13_lay_11 rfl (lv_at hl 1 rfl) ?_
  refine va_get (D := (dC, dI)) (ci := 13) (v := .int 2) (C := RX13) (T := TX13) (N := 75) hx hb hG zuX13 hown hK hP 0 rfl rfl 1 (by decide) (hG _ zw303) (fun _ h9 => h9) rfl dX13_lay_12 ?_
  refine lv_iload_n hx hb dX13_lay_15 rfl (lv_at hl 2 rfl) ?_
  refine lv_iload_n hx hb dX13_lay_16 rfl (lv_at hl 0 rfl) ?_
  refine lv_ishr hx hb dX13_lay_17 ?_
  refine lv_topi (fun z_3229 e_z_3229 => ?_)
  refine lv_i2b hx hb dX13_lay_18 rfl ?_
  refine lv_topi (fun z_3230 e_z_3230 => ?_)
  refine va_bast hx hb hK hP hD hS 1 0 rfl rfl (zin_lit (by decide)) dX13_lay_19 (fun H locs hP hD hS => ?_)
  obtain ⟨f_3231, e_f_3231⟩ : ∃ z : Nat → Int32, z = upd f_3226 2 (vp_nar .byte z_3230) := ⟨_, rfl⟩
  have hP : va_P (dC, dI) vwCl [(h0, .inr (13, [.ref h1, .int 2, .ref u0, .ref u1, .int 0, .ref u2, .ref u3, .ref u4, .ref u5, .ref u6, .ref u7, .ref u8, .ref u9, .int 0, .ref u10, .ref u11, .int 0, .ref u12, .int (-1), .ref u13, .int 0, .int 0, .ref u14, .int 0, .int 0, .ref u15, .ref u16, .ref u17, .ref u18, .ref u19, .int 0, .ref u20, .int 0, .int 0, .int 0, .int 0, .int 0, .int 0, .ref u21, .ref u22, .ref u23, .ref u24, .int 0, .ref u25, .ref u26, .ref u27, .ref u28, .int 0, .ref u29, .ref u30, .int 0, .int 0, .ref u31, .int 0, .int 0, .int 0, .ref u32, .ref u33, .ref u34, .int 0, .int 0, .ref u35, .ref u36, .ref u37, .ref u38, .ref u39, .ref u40, .ref u41, .ref u42, .ref u43, .ref u44, .int 0, .ref u45, .ref u46, .ref u47])), (h1, .inl (k1, 600, .inl f_3231))] H := by rw [e_f_3231]; exact hP
  have hD : va_D A [(h0, .inr (13, [.ref h1, .int 2, .ref u0, .ref u1, .int 0, .ref u2, .ref u3, .ref u4, .ref u5, .ref u6, .ref u7, .ref u8, .ref u9, .int 0, .ref u10, .ref u11, .int 0, .ref u12, .int (-1), .ref u13, .int 0, .int 0, .ref u14, .int 0, .int 0, .ref u15, .ref u16, .ref u17, .ref u18, .ref u19, .int 0, .ref u20, .int 0, .int 0, .int 0, .int 0, .int 0, .int 0, .ref u21, .ref u22, .ref u23, .ref u24, .int 0, .ref u25, .ref u26, .ref u27, .ref u28, .int 0, .ref u29, .ref u30, .int 0, .int 0, .ref u31, .int 0, .int 0, .int 0, .ref u32, .ref u33, .ref u34, .int 0, .int 0, .ref u35, .ref u36, .ref u37, .ref u38, .ref u39, .ref u40, .ref u41, .ref u42, .ref u43, .ref u44, .int 0, .ref u45, .ref u46, .ref u47])), (h1, .inl (k1, 600, .inl f_3231))] := by rw [e_f_3231]; exact hD
  refine lv_aload_n hx hb dX13_lay_20 rfl (lv_at hl 1 rfl) ?_
  refine lv_dup hx hb dX13_lay_21 rfl ?_
  refine va_get (D := (dC, dI)) (ci := 13) (v := .int 2) (C := RX13) (T := TX13) (N := 75) hx hb hG zuX13 hown hK hP 0 rfl rfl 1 (by decide) (hG _ zw303) (fun _ h9 => h9) rfl dX13_lay_22 ?_
  refine lv_iconst (v := 1) hx hb dX13_lay_25 (by decide) ?_
  refine lv_iadd hx hb dX13_lay_26 ?_
  refine lv_topi (fun z_3232 e_z_3232 => ?_)
  obtain rfl : z_3232 = (3 : Int32) := e_z_3232.trans (by decide)
  refine va_put (D := (dC, dI)) (ci := 13) (v := .int 3) (ty := .int) (C := RX13) (T := TX13) (N := 75) hx hb hG zuX13 tyX13 tyX13_ok nmX13 hown hK hP hD hS 0 rfl rfl 1 (by decide) (hG _ zw303) (fun _ h9 => h9) rfl (by decide +kernel) rfl rfl (Nat.le_of_ble_eq_true rfl) dX13_lay_27 (fun H locs hP hD hS => ?_)
  have hP : va_P (dC, dI) vwCl [(h0, .inr (13, [.ref h1, .int 3, .ref u0, .ref u1, .int 0, .ref u2, .ref u3, .ref u4, .ref u5, .ref u6, .ref u7, .ref u8, .ref u9, .int 0, .ref u10, .ref u11, .int 0, .ref u12, .int (-1), .ref u13, .int 0, .int 0, .ref u14, .int 0, .int 0, .ref u15, .ref u16, .ref u17, .ref u18, .ref u19, .int 0, .ref u20, .int 0, .int 0, .int 0, .int 0, .int 0, .int 0, .ref u21, .ref u22, .ref u23, .ref u24, .int 0, .ref u25, .ref u26, .ref u27, .ref u28, .int 0, .ref u29, .ref u30, .int 0, .int 0, .ref u31, .int 0, .int 0, .int 0, .ref u32, .ref u33, .ref u34, .int 0, .int 0, .ref u35, .ref u36, .ref u37, .ref u38, .ref u39, .ref u40, .ref u41, .ref u42, .ref u43, .ref u44, .int 0, .ref u45, .ref u46, .ref u47])), (h1, .inl (k1, 600, .inl f_3231))] H := hP
  have hD : va_D A [(h0, .inr (13, [.ref h1, .int 3, .ref u0, .ref u1, .int 0, .ref u2, .ref u3, .ref u4, .ref u5, .ref u6, .ref u7, .ref u8, .ref u9, .int 0, .ref u10, .ref u11, .int 0, .ref u12, .int (-1), .ref u13, .int 0, .int 0, .ref u14, .int 0, .int 0, .ref u15, .ref u16, .ref u17, .ref u18, .ref u19, .int 0, .ref u20, .int 0, .int 0, .int 0, .int 0, .int 0, .int 0, .ref u21, .ref u22, .ref u23, .ref u24, .int 0, .ref u25, .ref u26, .ref u27, .ref u28, .int 0, .ref u29, .ref u30, .int 0, .int 0, .ref u31, .int 0, .int 0, .int 0, .ref u32, .ref u33, .ref u34, .int 0, .int 0, .ref u35, .ref u36, .ref u37, .ref u38, .ref u39, .ref u40, .ref u41, .ref u42, .ref u43, .ref u44, .int 0, .ref u45, .ref u46, .ref u47])), (h1, .inl (k1, 600, .inl f_3231))] := hD
  refine lv_iinc (v := 0) (lv' := [(2, .int 0), (0, .ref h0), (1, .int s0)]) hx hb dX13_lay_30 hl (k := 0) rfl (by decide) (by decide) rfl (fun ls hl => ?_)
  refine lv_goto (tgt := 3) hx hb dX13_lay_33 (by decide) ?_
  refine lv_iload_n hx hb dX13_lay_3 rfl (lv_at hl 0 rfl) ?_
  refine lv_if_lt (tgt := 36) hx hb dX13_lay_4 (by decide) (fun c_3233 => absurd c_3233 (by decide)) (fun c_3233 => ?_)
  refine lv_aload_n hx hb dX13_lay_7 rfl (lv_at hl 1 rfl) ?_
  refine va_get (D := (dC, dI)) (ci := 13) (v := .ref h1) (C := RX13) (T := TX13) (N := 75) hx hb hG zuX13 hown hK hP 0 rfl rfl 0 (by decide) (hG _ zw209) (fun _ h9 => h9) rfl dX13_lay_8 ?_
  refine lv_aload_n hx hb dX13_lay_11 rfl (lv_at hl 1 rfl) ?_
  refine va_get (D := (dC, dI)) (ci := 13) (v := .int 3) (C := RX13) (T := TX13) (N := 75) hx hb hG zuX13 hown hK hP 0 rfl rfl 1 (by decide) (hG _ zw303) (fun _ h9 => h9) rfl dX13_lay_12 ?_
  refine lv_iload_n hx hb dX13_lay_15 rfl (lv_at hl 2 rfl) ?_
  refine lv_iload_n hx hb dX13_lay_16 rfl (lv_at hl 0 rfl) ?_
  refine lv_ishr hx hb dX13_lay_17 ?_
  refine lv_topi (fun z_3234 e_z_3234 => ?_)
  refine lv_i2b hx hb dX13_lay_18 rfl ?_
  refine lv_topi (fun z_3235 e_z_3235 => ?_)
  refine va_bast hx hb hK hP hD hS 1 0 rfl rfl (zin_lit (by decide)) dX13_lay_19 (fun H locs hP hD hS => ?_)
  obtain ⟨f_3236, e_f_3236⟩ : ∃ z : Nat → Int32, z = upd f_3231 3 (vp_nar .byte z_3235) := ⟨_, rfl⟩
  have hP : va_P (dC, dI) vwCl [(h0, .inr (13, [.ref h1, .int 3, .ref u0, .ref u1, .int 0, .ref u2, .ref u3, .ref u4, .ref u5, .ref u6, .ref u7, .ref u8, .ref u9, .int 0, .ref u10, .ref u11, .int 0, .ref u12, .int (-1), .ref u13, .int 0, .int 0, .ref u14, .int 0, .int 0, .ref u15, .ref u16, .ref u17, .ref u18, .ref u19, .int 0, .ref u20, .int 0, .int 0, .int 0, .int 0, .int 0, .int 0, .ref u21, .ref u22, .ref u23, .ref u24, .int 0, .ref u25, .ref u26, .ref u27, .ref u28, .int 0, .ref u29, .ref u30, .int 0, .int 0, .ref u31, .int 0, .int 0, .int 0, .ref u32, .ref u33, .ref u34, .int 0, .int 0, .ref u35, .ref u36, .ref u37, .ref u38, .ref u39, .ref u40, .ref u41, .ref u42, .ref u43, .ref u44, .int 0, .ref u45, .ref u46, .ref u47])), (h1, .inl (k1, 600, .inl f_3236))] H := by rw [e_f_3236]; exact hP
  have hD : va_D A [(h0, .inr (13, [.ref h1, .int 3, .ref u0, .ref u1, .int 0, .ref u2, .ref u3, .ref u4, .ref u5, .ref u6, .ref u7, .ref u8, .ref u9, .int 0, .ref u10, .ref u11, .int 0, .ref u12, .int (-1), .ref u13, .int 0, .int 0, .ref u14, .int 0, .int 0, .ref u15, .ref u16, .ref u17, .ref u18, .ref u19, .int 0, .ref u20, .int 0, .int 0, .int 0, .int 0, .int 0, .int 0, .ref u21, .ref u22, .ref u23, .ref u24, .int 0, .ref u25, .ref u26, .ref u27, .ref u28, .int 0, .ref u29, .ref u30, .int 0, .int 0, .ref u31, .int 0, .int 0, .int 0, .ref u32, .ref u33, .ref u34, .int 0, .int 0, .ref u35, .ref u36, .ref u37, .ref u38, .ref u39, .ref u40, .ref u41, .ref u42, .ref u43, .ref u44, .int 0, .ref u45, .ref u46, .ref u47])), (h1, .inl (k1, 600, .inl f_3236))] := by rw [e_f_3236]; exact hD
  refine lv_aload_n hx hb dX13_lay_20 rfl (lv_at hl 1 rfl) ?_
  refine lv_dup hx hb dX13_lay_21 rfl ?_
  refine va_get (D := (dC, dI)) (ci := 13) (v := .int 3) (C := RX13) (T := TX13) (N := 75) hx hb hG zuX13 hown hK hP 0 rfl rfl 1 (by decide) (hG _ zw303) (fun _ h9 => h9) rfl dX13_lay_22 ?_
  refine lv_iconst (v := 1) hx hb dX13_lay_25 (by decide) ?_
  refine lv_iadd hx hb dX13_lay_26 ?_
  refine lv_topi (fun z_3237 e_z_3237 => ?_)
  obtain rfl : z_3237 = (4 : Int32) := e_z_3237.trans (by decide)
  refine va_put (D := (dC, dI)) (ci := 13) (v := .int 4) (ty := .int) (C := RX13) (T := TX13) (N := 75) hx hb hG zuX13 tyX13 tyX13_ok nmX13 hown hK hP hD hS 0 rfl rfl 1 (by decide) (hG _ zw303) (fun _ h9 => h9) rfl (by decide +kernel) rfl rfl (Nat.le_of_ble_eq_true rfl) dX13_lay_27 (fun H locs hP hD hS => ?_)
  have hP : va_P (dC, dI) vwCl [(h0, .inr (13, [.ref h1, .int 4, .ref u0, .ref u1, .int 0, .ref u2, .ref u3, .ref u4, .ref u5, .ref u6, .ref u7, .ref u8, .ref u9, .int 0, .ref u10, .ref u11, .int 0, .ref u12, .int (-1), .ref u13, .int 0, .int 0, .ref u14, .int 0, .int 0, .ref u15, .ref u16, .ref u17, .ref u18, .ref u19, .int 0, .ref u20, .int 0, .int 0, .int 0, .int 0, .int 0, .int 0, .ref u21, .ref u22, .ref u23, .ref u24, .int 0, .ref u25, .ref u26, .ref u27, .ref u28, .int 0, .ref u29, .ref u30, .int 0, .int 0, .ref u31, .int 0, .int 0, .int 0, .ref u32, .ref u33, .ref u34, .int 0, .int 0, .ref u35, .ref u36, .ref u37, .ref u38, .ref u39, .ref u40, .ref u41, .ref u42, .ref u43, .ref u44, .int 0, .ref u45, .ref u46, .ref u47])), (h1, .inl (k1, 600, .inl f_3236))] H := hP
  have hD : va_D A [(h0, .inr (13, [.ref h1, .int 4, .ref u0, .ref u1, .int 0, .ref u2, .ref u3, .ref u4, .ref u5, .ref u6, .ref u7, .ref u8, .ref u9, .int 0, .ref u10, .ref u11, .int 0, .ref u12, .int (-1), .ref u13, .int 0, .int 0, .ref u14, .int 0, .int 0, .ref u15, .ref u16, .ref u17, .ref u18, .ref u19, .int 0, .ref u20, .int 0, .int 0, .int 0, .int 0, .int 0, .int 0, .ref u21, .ref u22, .ref u23, .ref u24, .int 0, .ref u25, .ref u26, .ref u27, .ref u28, .int 0, .ref u29, .ref u30, .int 0, .int 0, .ref u31, .int 0, .int 0, .int 0, .ref u32, .ref u33, .ref u34, .int 0, .int 0, .ref u35, .ref u36, .ref u37, .ref u38, .ref u39, .ref u40, .ref u41, .ref u42, .ref u43, .ref u44, .int 0, .ref u45, .ref u46, .ref u47])), (h1, .inl (k1, 600, .inl f_3236))] := hD
  refine lv_iinc (v := (-8)) (lv' := [(2, .int (-8)), (0, .ref h0), (1, .int s0)]) hx hb dX13_lay_30 hl (k := 0) rfl (by decide) (by decide) rfl (fun ls hl => ?_)
  refine lv_goto (tgt := 3) hx hb dX13_lay_33 (by decide) ?_
  refine lv_iload_n hx hb dX13_lay_3 rfl (lv_at hl 0 rfl) ?_
  refine lv_if_lt (tgt := 36) hx hb dX13_lay_4 (by decide) (fun c_3238 => ?_) (fun c_3238 => absurd c_3238 (by decide))
  have hP9 := hP.sub (ws' := [(h0, .inr (13, [.ref h1, .int 4, .ref u0, .ref u1, .int 0, .ref u2, .ref u3, .ref u4, .ref u5, .ref u6, .ref u7, .ref u8, .ref u9, .int 0, .ref u10, .ref u11, .int 0, .ref u12, .int (-1), .ref u13, .int 0, .int 0, .ref u14, .int 0, .int 0, .ref u15, .ref u16, .ref u17, .ref u18, .ref u19, .int 0, .ref u20, .int 0, .int 0, .int 0, .int 0, .int 0, .int 0, .ref u21, .ref u22, .ref u23, .ref u24, .int 0, .ref u25, .ref u26, .ref u27, .ref u28, .int 0, .ref u29, .ref u30, .int 0, .int 0, .ref u31, .int 0, .int 0, .int 0, .ref u32, .ref u33, .ref u34, .int 0, .int 0, .ref u35, .ref u36, .ref u37, .ref u38, .ref u39, .ref u40, .ref u41, .ref u42, .ref u43, .ref u44, .int 0, .ref u45, .ref u46, .ref u47])), (h1, .inl (k1, 600, .inl f_3236))]) [0, 1] rfl
  have hD9 := hD.sub (ws' := [(h0, .inr (13, [.ref h1, .int 4, .ref u0, .ref u1, .int 0, .ref u2, .ref u3, .ref u4, .ref u5, .ref u6, .ref u7, .ref u8, .ref u9, .int 0, .ref u10, .ref u11, .int 0, .ref u12, .int (-1), .ref u13, .int 0, .int 0, .ref u14, .int 0, .int 0, .ref u15, .ref u16, .ref u17, .ref u18, .ref u19, .int 0, .ref u20, .int 0, .int 0, .int 0, .int 0, .int 0, .int 0, .ref u21, .ref u22, .ref u23, .ref u24, .int 0, .ref u25, .ref u26, .ref u27, .ref u28, .int 0, .ref u29, .ref u30, .int 0, .int 0, .ref u31, .int 0, .int 0, .int 0, .ref u32, .ref u33, .ref u34, .int 0, .int 0, .ref u35, .ref u36, .ref u37, .ref u38, .ref u39, .ref u40, .ref u41, .ref u42, .ref u43, .ref u44, .int 0, .ref u45, .ref u46, .ref u47])), (h1, .inl (k1, 600, .inl f_3236))]) [0, 1] (by decide) rfl
  have hK9 := hK.sub (tys' := [(k1, .byte)]) [0] rfl
  refine W.widen (k := 0) (n := 0) (by decide) (by decide) ?_
  exact W.vret hx hb hr (fun t ht hW => ⟨⟨(), rfl, trivial, f_3236, by rw [ht]; exact hP9, va_K.moved hW.alike hK9, hD9⟩, hS.F ht⟩) hS.2.2 dX13_lay_36
set_option maxHeartbeats 4000000 in
set_option maxRecDepth 100000 in
theorem kX13_lay_1 (l : Launch) (dC : Nat → ClassId) (dI : Nat → Nat → Nat) (h0 h1 u0 u1 u2 u3 u4 u5 u6 u7 u8 u9 u10 u11 u12 u13 u14 u15 u16 u17 u18 u19 u20 u21 u22 u23 u24 u25 u26 u27 u28 u29 u30 u31 u32 u33 u34 u35 u36 u37 u38 u39 u40 u41 u42 u43 u44 u45 u46 u47 : Nat) (k1 : ClassId) (sz : Nat) (s0 : Int32) (s1 : Nat → Int32) : Met l yX13_lay (zw yX13_lay cX13_lay 3 none) { frames := 0, cells := 0, slots := 0, locals := 0 } (zPc dC dI [.ref h0, .int s0] sz [(h0, .inr (13, [.ref h1, .int 4, .ref u0, .ref u1, .int 0, .ref u2, .ref u3, .ref u4, .ref u5, .ref u6, .ref u7, .ref u8, .ref u9, .int 0, .ref u10, .ref u11, .int 0, .ref u12, .int (-1), .ref u13, .int 0, .int 0, .ref u14, .int 0, .int 0, .ref u15, .ref u16, .ref u17, .ref u18, .ref u19, .int 0, .ref u20, .int 0, .int 0, .int 0, .int 0, .int 0, .int 0, .ref u21, .ref u22, .ref u23, .ref u24, .int 0, .ref u25, .ref u26, .ref u27, .ref u28, .int 0, .ref u29, .ref u30, .int 0, .int 0, .ref u31, .int 0, .int 0, .int 0, .ref u32, .ref u33, .ref u34, .int 0, .int 0, .ref u35, .ref u36, .ref u37, .ref u38, .ref u39, .ref u40, .ref u41, .ref u42, .ref u43, .ref u44, .int 0, .ref u45, .ref u46, .ref u47])), (h1, .inl (k1, 600, .inl s1))] [(k1, .byte)]) (va_Qv (fun _ : Unit => True) (fun (_ : Unit) (t : State) => ∃ (f0 : Nat → Int32), va_P (dC, dI) vwCl [(h0, .inr (13, [.ref h1, .int 8, .ref u0, .ref u1, .int 0, .ref u2, .ref u3, .ref u4, .ref u5, .ref u6, .ref u7, .ref u8, .ref u9, .int 0, .ref u10, .ref u11, .int 0, .ref u12, .int (-1), .ref u13, .int 0, .int 0, .ref u14, .int 0, .int 0, .ref u15, .ref u16, .ref u17, .ref u18, .ref u19, .int 0, .ref u20, .int 0, .int 0, .int 0, .int 0, .int 0, .int 0, .ref u21, .ref u22, .ref u23, .ref u24, .int 0, .ref u25, .ref u26, .ref u27, .ref u28, .int 0, .ref u29, .ref u30, .int 0, .int 0, .ref u31, .int 0, .int 0, .int 0, .ref u32, .ref u33, .ref u34, .int 0, .int 0, .ref u35, .ref u36, .ref u37, .ref u38, .ref u39, .ref u40, .ref u41, .ref u42, .ref u43, .ref u44, .int 0, .ref u45, .ref u46, .ref u47])), (h1, .inl (k1, 600, .inl f0))] t.heap ∧ va_K (dC, dI) vwCl [(k1, .byte)] t ∧ va_D (va_A [(h0, .inr (13, [.ref h1, .int 4, .ref u0, .ref u1, .int 0, .ref u2, .ref u3, .ref u4, .ref u5, .ref u6, .ref u7, .ref u8, .ref u9, .int 0, .ref u10, .ref u11, .int 0, .ref u12, .int (-1), .ref u13, .int 0, .int 0, .ref u14, .int 0, .int 0, .ref u15, .ref u16, .ref u17, .ref u18, .ref u19, .int 0, .ref u20, .int 0, .int 0, .int 0, .int 0, .int 0, .int 0, .ref u21, .ref u22, .ref u23, .ref u24, .int 0, .ref u25, .ref u26, .ref u27, .ref u28, .int 0, .ref u29, .ref u30, .int 0, .int 0, .ref u31, .int 0, .int 0, .int 0, .ref u32, .ref u33, .ref u34, .int 0, .int 0, .ref u35, .ref u36, .ref u37, .ref u38, .ref u39, .ref u40, .ref u41, .ref u42, .ref u43, .ref u44, .int 0, .ref u45, .ref u46, .ref u47])), (h1, .inl (k1, 600, .inl s1))] sz) [(h0, .inr (13, [.ref h1, .int 8, .ref u0, .ref u1, .int 0, .ref u2, .ref u3, .ref u4, .ref u5, .ref u6, .ref u7, .ref u8, .ref u9, .int 0, .ref u10, .ref u11, .int 0, .ref u12, .int (-1), .ref u13, .int 0, .int 0, .ref u14, .int 0, .int 0, .ref u15, .ref u16, .ref u17, .ref u18, .ref u19, .int 0, .ref u20, .int 0, .int 0, .int 0, .int 0, .int 0, .int 0, .ref u21, .ref u22, .ref u23, .ref u24, .int 0, .ref u25, .ref u26, .ref u27, .ref u28, .int 0, .ref u29, .ref u30, .int 0, .int 0, .ref u31, .int 0, .int 0, .int 0, .ref u32, .ref u33, .ref u34, .int 0, .int 0, .ref u35, .ref u36, .ref u37, .ref u38, .ref u39, .ref u40, .ref u41, .ref u42, .ref u43, .ref u44, .int 0, .ref u45, .ref u46, .ref u47])), (h1, .inl (k1, 600, .inl f0))]) (va_A [(h0, .inr (13, [.ref h1, .int 4, .ref u0, .ref u1, .int 0, .ref u2, .ref u3, .ref u4, .ref u5, .ref u6, .ref u7, .ref u8, .ref u9, .int 0, .ref u10, .ref u11, .int 0, .ref u12, .int (-1), .ref u13, .int 0, .int 0, .ref u14, .int 0, .int 0, .ref u15, .ref u16, .ref u17, .ref u18, .ref u19, .int 0, .ref u20, .int 0, .int 0, .int 0, .int 0, .int 0, .int 0, .ref u21, .ref u22, .ref u23, .ref u24, .int 0, .ref u25, .ref u26, .ref u27, .ref u28, .int 0, .ref u29, .ref u30, .int 0, .int 0, .ref u31, .int 0, .int 0, .int 0, .ref u32, .ref u33, .ref u34, .int 0, .int 0, .ref u35, .ref u36, .ref u37, .ref u38, .ref u39, .ref u40, .ref u41, .ref u42, .ref u43, .ref u44, .int 0, .ref u45, .ref u46, .ref u47])), (h1, .inl (k1, 600, .inl s1))] sz)) 0 0 (va_A [(h0, .inr (13, [.ref h1, .int 4, .ref u0, .ref u1, .int 0, .ref u2, .ref u3, .ref u4, .ref u5, .ref u6, .ref u7, .ref u8, .ref u9, .int 0, .ref u10, .ref u11, .int 0, .ref u12, .int (-1), .ref u13, .int 0, .int 0, .ref u14, .int 0, .int 0, .ref u15, .ref u16, .ref u17, .ref u18, .ref u19, .int 0, .ref u20, .int 0, .int 0, .int 0, .int 0, .int 0, .int 0, .ref u21, .ref u22, .ref u23, .ref u24, .int 0, .ref u25, .ref u26, .ref u27, .ref u28, .int 0, .ref u29, .ref u30, .int 0, .int 0, .ref u31, .int 0, .int 0, .int 0, .ref u32, .ref u33, .ref u34, .int 0, .int 0, .ref u35, .ref u36, .ref u37, .ref u38, .ref u39, .ref u40, .ref u41, .ref u42, .ref u43, .ref u44, .int 0, .ref u45, .ref u46, .ref u47])), (h1, .inl (k1, 600, .inl s1))] sz) := by
  refine Met.ofW (cc := cX13_lay) (maxL := 3) (ret := none) (by decide) rfl ?_
  intro p e s m args below meth c s₁ B hml hv
  obtain ⟨rfl, hsz, hP, hK, hD0, hE, hZ⟩ := hv
  have hx := B.exec
  have hb := B.bytes
  have hr := B.returns
  have hG : ∀ w ∈ zG, w.before _ s = true := fun w h => atoms_spec (ws := (zw yX13_lay cX13_lay 3 none)) B.pre w (List.mem_cons_of_mem _ h)
  have hown : s.vm.findClass RX13 = some m.cls := findClass_of_methodNamed B.named
  have hlocks := B.notSynchronized
  subst hsz
  have hD := hD0.self (sz := s.heap.size)
  generalize hAe : va_A [(h0, .inr (13, [.ref h1, .int 4, .ref u0, .ref u1, .int 0, .ref u2, .ref u3, .ref u4, .ref u5, .ref u6, .ref u7, .ref u8, .ref u9, .int 0, .ref u10, .ref u11, .int 0, .ref u12, .int (-1), .ref u13, .int 0, .int 0, .ref u14, .int 0, .int 0, .ref u15, .ref u16, .ref u17, .ref u18, .ref u19, .int 0, .ref u20, .int 0, .int 0, .int 0, .int 0, .int 0, .int 0, .ref u21, .ref u22, .ref u23, .ref u24, .int 0, .ref u25, .ref u26, .ref u27, .ref u28, .int 0, .ref u29, .ref u30, .int 0, .int 0, .ref u31, .int 0, .int 0, .int 0, .ref u32, .ref u33, .ref u34, .int 0, .int 0, .ref u35, .ref u36, .ref u37, .ref u38, .ref u39, .ref u40, .ref u41, .ref u42, .ref u43, .ref u44, .int 0, .ref u45, .ref u46, .ref u47])), (h1, .inl (k1, 600, .inl s1))] s.heap.size = A at hD hZ ⊢
  have hA : ∀ q : Nat, s.heap.size ≤ q → A q := fun q h => by rw [← hAe]; exact Or.inr h
  have hS : va_S A s.heap s.heap [] := va_S.rf
  have hl := lv_entry ([.ref h0, .int s0]) (n := 3) (Nat.le_of_ble_eq_true rfl)
  rw [lg_entry_eq]
  generalize (lg_sl ([.ref h0, .int s0]) ++ List.replicate (3 - (lg_sl ([.ref h0, .int s0])).length) Slot.unset).toArray = ls at hl ⊢
  have hl : lv_has ls 3 [(0, .ref h0), (1, .int s0)] := hl
  refine lv_bipush (v := 24) hx hb dX13_lay_0 (by decide) ?_
  refine lv_istore_n (lv' := [(2, .int 24), (0, .ref h0), (1, .int s0)]) hx hb dX13_lay_2 rfl hl (by decide) rfl (fun ls hl => ?_)
  refine lv_iload_n hx hb dX13_lay_3 rfl (lv_at hl 0 rfl) ?_
  refine lv_if_lt (tgt := 36) hx hb dX13_lay_4 (by decide) (fun c_3283 => absurd c_3283 (by decide)) (fun c_3283 => ?_)
  refine lv_aload_n hx hb dX13_lay_7 rfl (lv_at hl 1 rfl) ?_
  refine va_get (D := (dC, dI)) (ci := 13) (v := .ref h1) (C := RX13) (T := TX13) (N := 75) hx hb hG zuX13 hown hK hP 0 rfl rfl 0 (by decide) (hG _ zw209) (fun _ h9 => h9) rfl dX13_lay_8 ?_
  refine lv_aload_n hx hb dX13_lay_11 rfl (lv_at hl 1 rfl) ?_
  refine va_get (D := (dC, dI)) (ci := 13) (v := .int 4) (C := RX13) (T := TX13) (N := 75) hx hb hG zuX13 hown hK hP 0 rfl rfl 1 (by decide) (hG _ zw303) (fun _ h9 => h9) rfl dX13_lay_12 ?_
  refine lv_iload_n hx hb dX13_lay_15 rfl (lv_at hl 2 rfl) ?_
  refine lv_iload_n hx hb dX13_lay_16 rfl (lv_at hl 0 rfl) ?_
  refine lv_ishr hx hb dX13_lay_17 ?_
  refine lv_topi (fun z_3284 e_z_3284 => ?_)
  refine lv_i2b hx hb dX13_lay_18 rfl ?_
  refine lv_topi (fun z_3285 e_z_3285 => ?_)
  refine va_bast hx hb hK hP hD hS 1 0 rfl rfl (zin_lit (by decide)) dX13_lay_19 (fun H locs hP hD hS => ?_)
  obtain ⟨f_3286, e_f_3286⟩ : ∃ z : Nat → Int32, z = upd s1 4 (vp_nar .byte z_3285) := ⟨_, rfl⟩
  have hP : va_P (dC, dI) vwCl [(h0, .inr (13, [.ref h1, .int 4, .ref u0, .ref u1, .int 0, .ref u2, .ref u3, .ref u4, .ref u5, .ref u6, .ref u7, .ref u8, .ref u9, .int 0, .ref u10, .ref u11, .int 0, .ref u12, .int (-1), .ref u13, .int 0, .int 0, .ref u14, .int 0, .int 0, .ref u15, .ref u16, .ref u17, .ref u18, .ref u19, .int 0, .ref u20, .int 0, .int 0, .int 0, .int 0, .int 0, .int 0, .ref u21, .ref u22, .ref u23, .ref u24, .int 0, .ref u25, .ref u26, .ref u27, .ref u28, .int 0, .ref u29, .ref u30, .int 0, .int 0, .ref u31, .int 0, .int 0, .int 0, .ref u32, .ref u33, .ref u34, .int 0, .int 0, .ref u35, .ref u36, .ref u37, .ref u38, .ref u39, .ref u40, .ref u41, .ref u42, .ref u43, .ref u44, .int 0, .ref u45, .ref u46, .ref u47])), (h1, .inl (k1, 600, .inl f_3286))] H := by rw [e_f_3286]; exact hP
  have hD : va_D A [(h0, .inr (13, [.ref h1, .int 4, .ref u0, .ref u1, .int 0, .ref u2, .ref u3, .ref u4, .ref u5, .ref u6, .ref u7, .ref u8, .ref u9, .int 0, .ref u10, .ref u11, .int 0, .ref u12, .int (-1), .ref u13, .int 0, .int 0, .ref u14, .int 0, .int 0, .ref u15, .ref u16, .ref u17, .ref u18, .ref u19, .int 0, .ref u20, .int 0, .int 0, .int 0, .int 0, .int 0, .int 0, .ref u21, .ref u22, .ref u23, .ref u24, .int 0, .ref u25, .ref u26, .ref u27, .ref u28, .int 0, .ref u29, .ref u30, .int 0, .int 0, .ref u31, .int 0, .int 0, .int 0, .ref u32, .ref u33, .ref u34, .int 0, .int 0, .ref u35, .ref u36, .ref u37, .ref u38, .ref u39, .ref u40, .ref u41, .ref u42, .ref u43, .ref u44, .int 0, .ref u45, .ref u46, .ref u47])), (h1, .inl (k1, 600, .inl f_3286))] := by rw [e_f_3286]; exact hD
  refine lv_aload_n hx hb dX13_lay_20 rfl (lv_at hl 1 rfl) ?_
  refine lv_dup hx hb dX13_lay_21 rfl ?_
  refine va_get (D := (dC, dI)) (ci := 13) (v := .int 4) (C := RX13) (T := TX13) (N := 75) hx hb hG zuX13 hown hK hP 0 rfl rfl 1 (by decide) (hG _ zw303) (fun _ h9 => h9) rfl dX13_lay_22 ?_
  refine lv_iconst (v := 1) hx hb dX13_lay_25 (by decide) ?_
  refine lv_iadd hx hb dX13_lay_26 ?_
  refine lv_topi (fun z_3287 e_z_3287 => ?_)
  obtain rfl : z_3287 = (5 : Int32) := e_z_3287.trans (by decide)
  refine va_put (D := (dC, dI)) (ci := 13) (v := .int 5) (ty := .int) (C := RX13) (T := TX13) (N := 75) hx hb hG zuX13 tyX13 tyX13_ok nmX13 hown hK hP hD hS 0 rfl rfl 1 (by decide) (hG _ zw303) (fun _ h9 => h9) rfl (by decide +kernel) rfl rfl (Nat.le_of_ble_eq_true rfl) dX13_lay_27 (fun H locs hP hD hS => ?_)
  have hP : va_P (dC, dI) vwCl [(h0, .inr (13, [.ref h1, .int 5, .ref u0, .ref u1, .int 0, .ref u2, .ref u3, .ref u4, .ref u5, .ref u6, .ref u7, .ref u8, .ref u9, .int 0, .ref u10, .ref u11, .int 0, .ref u12, .int (-1), .ref u13, .int 0, .int 0, .ref u14, .int 0, .int 0, .ref u15, .ref u16, .ref u17, .ref u18, .ref u19, .int 0, .ref u20, .int 0, .int 0, .int 0, .int 0, .int 0, .int 0, .ref u21, .ref u22, .ref u23, .ref u24, .int 0, .ref u25, .ref u26, .ref u27, .ref u28, .int 0, .ref u29, .ref u30, .int 0, .int 0, .ref u31, .int 0, .int 0, .int 0, .ref u32, .ref u33, .ref u34, .int 0, .int 0, .ref u35, .ref u36, .ref u37, .ref u38, .ref u39, .ref u40, .ref u41, .ref u42, .ref u43, .ref u44, .int 0, .ref u45, .ref u46, .ref u47])), (h1, .inl (k1, 600, .inl f_3286))] H := hP
  have hD : va_D A [(h0, .inr (13, [.ref h1, .int 5, .ref u0, .ref u1, .int 0, .ref u2, .ref u3, .ref u4, .ref u5, .ref u6, .ref u7, .ref u8, .ref u9, .int 0, .ref u10, .ref u11, .int 0, .ref u12, .int (-1), .ref u13, .int 0, .int 0, .ref u14, .int 0, .int 0, .ref u15, .ref u16, .ref u17, .ref u18, .ref u19, .int 0, .ref u20, .int 0, .int 0, .int 0, .int 0, .int 0, .int 0, .ref u21, .ref u22, .ref u23, .ref u24, .int 0, .ref u25, .ref u26, .ref u27, .ref u28, .int 0, .ref u29, .ref u30, .int 0, .int 0, .ref u31, .int 0, .int 0, .int 0, .ref u32, .ref u33, .ref u34, .int 0, .int 0, .ref u35, .ref u36, .ref u37, .ref u38, .ref u39, .ref u40, .ref u41, .ref u42, .ref u43, .ref u44, .int 0, .ref u45, .ref u46, .ref u47])), (h1, .inl (k1, 600, .inl f_3286))] := hD
  refine lv_iinc (v := 16) (lv' := [(2, .int 16), (0, .ref h0), (1, .int s0)]) hx hb dX13_lay_30 hl (k := 0) rfl (by decide) (by decide) rfl (fun ls hl => ?_)
  refine lv_goto (tgt := 3) hx hb dX13_lay_33 (by decide) ?_
  refine lv_iload_n hx hb dX13_lay_3 rfl (lv_at hl 0 rfl) ?_
  refine lv_if_lt (tgt := 36) hx hb dX13_lay_4 (by decide) (fun c_3288 => absurd c_3288 (by decide)) (fun c_3288 => ?_)
  refine lv_aload_n hx hb dX13_lay_7 rfl (lv_at hl 1 rfl) ?_
  refine va_get (D := (dC, dI)) (ci := 13) (v := .ref h1) (C := RX13) (T := TX13) (N := 75) hx hb hG zuX13 hown hK hP 0 rfl rfl 0 (by decide) (hG _ zw209) (fun _ h9 => h9) rfl dX13_lay_8 ?_
  refine lv_aload_n hx hb dX13_lay_11 rfl (lv_at hl 1 rfl) ?_
  refine va_get (D := (dC, dI)) (ci := 13) (v := .int 5) (C := RX13) (T := TX13) (N := 75) hx hb hG zuX13 hown hK hP 0 rfl rfl 1 (by decide) (hG _ zw303) (fun _ h9 => h9) rfl dX13_lay_12 ?_
  refine lv_iload_n hx hb dX13_lay_15 rfl (lv_at hl 2 rfl) ?_
  refine lv_iload_n hx hb dX13_lay_16 rfl (lv_at hl 0 rfl) ?_
  refine lv_ishr hx hb dX13_lay_17 ?_
  refine lv_topi (fun z_3289 e_z_3289 => ?_)
  refine lv_i2b hx hb dX13_lay_18 rfl ?_
  refine lv_topi (fun z_3290 e_z_3290 => ?_)
  refine va_bast hx hb hK hP hD hS 1 0 rfl rfl (zin_lit (by decide)) dX13_lay_19 (fun H locs hP hD hS => ?_)
  obtain ⟨f_3291, e_f_3291⟩ : ∃ z : Nat → Int32, z = upd f_3286 5 (vp_nar .byte z_3290) := ⟨_, rfl⟩
  have hP : va_P (dC, dI) vwCl [(h0, .inr (13, [.ref h1, .int 5, .ref u0, .ref u1, .int 0, .ref u2, .ref u3, .ref u4, .ref u5, .ref u6, .ref u7, .ref u8, .ref u9, .int 0, .ref u10, .ref u11, .int 0, .ref u12, .int (-1), .ref u13, .int 0, .int 0, .ref u14, .int 0, .int 0, .ref u15, .ref u16, .ref u17, .ref u18, .ref u19, .int 0, .ref u20, .int 0, .int 0, .int 0, .int 0, .int 0, .int 0, .ref u21, .ref u22, .ref u23, .ref u24, .int 0, .ref u25, .ref u26, .ref u27, .ref u28, .int 0, .ref u29, .ref u30, .int 0, .int 0, .ref u31, .int 0, .int 0, .int 0, .ref u32, .ref u33, .ref u34, .int 0, .int 0, .ref u35, .ref u36, .ref u37, .ref u38, .ref u39, .ref u40, .ref u41, .ref u42, .ref u43, .ref u44, .int 0, .ref u45, .ref u46, .ref u47])), (h1, .inl (k1, 600, .inl f_3291))] H := by rw [e_f_3291]; exact hP
  have hD : va_D A [(h0, .inr (13, [.ref h1, .int 5, .ref u0, .ref u1, .int 0, .ref u2, .ref u3, .ref u4, .ref u5, .ref u6, .ref u7, .ref u8, .ref u9, .int 0, .ref u10, .ref u11, .int 0, .ref u12, .int (-1), .ref u13, .int 0, .int 0, .ref u14, .int 0, .int 0, .ref u15, .ref u16, .ref u17, .ref u18, .ref u19, .int 0, .ref u20, .int 0, .int 0, .int 0, .int 0, .int 0, .int 0, .ref u21, .ref u22, .ref u23, .ref u24, .int 0, .ref u25, .ref u26, .ref u27, .ref u28, .int 0, .ref u29, .ref u30, .int 0, .int 0, .ref u31, .int 0, .int 0, .int 0, .ref u32, .ref u33, .ref u34, .int 0, .int 0, .ref u35, .ref u36, .ref u37, .ref u38, .ref u39, .ref u40, .ref u41, .ref u42, .ref u43, .ref u44, .int 0, .ref u45, .ref u46, .ref u47])), (h1, .inl (k1, 600, .inl f_3291))] := by rw [e_f_3291]; exact hD
  refine lv_aload_n hx hb dX13_lay_20 rfl (lv_at hl 1 rfl) ?_
  refine lv_dup hx hb dX13_lay_21 rfl ?_
  refine va_get (D := (dC, dI)) (ci := 13) (v := .int 5) (C := RX13) (T := TX13) (N := 75) hx hb hG zuX13 hown hK hP 0 rfl rfl 1 (by decide) (hG _ zw303) (fun _ h9 => h9) rfl dX13_lay_22 ?_
  refine lv_iconst (v := 1) hx hb dX13_lay_25 (by decide) ?_
  refine lv_iadd hx hb dX13_lay_26 ?_
  refine lv_topi (fun z_3292 e_z_3292 => ?_)
  obtain rfl : z_3292 = (6 : Int32) := e_z_3292.trans (by decide)
  refine va_put (D := (dC, dI)) (ci := 13) (v := .int 6) (ty := .int) (C := RX13) (T := TX13) (N := 75) hx hb hG zuX13 tyX13 tyX13_ok nmX13 hown hK hP hD hS 0 rfl rfl 1 (by decide) (hG _ zw303) (fun _ h9 => h9) rfl (by decide +kernel) rfl rfl (Nat.le_of_ble_eq_true rfl) dX13_lay_27 (fun H locs hP hD hS => ?_)
  have hP : va_P (dC, dI) vwCl [(h0, .inr (13, [.ref h1, .int 6, .ref u0, .ref u1, .int 0, .ref u2, .ref u3, .ref u4, .ref u5, .ref u6, .ref u7, .ref u8, .ref u9, .int 0, .ref u10, .ref u11, .int 0, .ref u12, .int (-1), .ref u13, .int 0, .int 0, .ref u14, .int 0, .int 0, .ref u15, .ref u16, .ref u17, .ref u18, .ref u19, .int 0, .ref u20, .int 0, .int 0, .int 0, .int 0, .int 0, .int 0, .ref u21, .ref u22, .ref u23, .ref u24, .int 0, .ref u25, .ref u26, .ref u27, .ref u28, .int 0, .ref u29, .ref u30, .int 0, .int 0, .ref u31, .int 0, .int 0, .int 0, .ref u32, .ref u33, .ref u34, .int 0, .int 0, .ref u35, .ref u36, .ref u37, .ref u38, .ref u39, .ref u40, .ref u41, .ref u42, .ref u43, .ref u44, .int 0, .ref u45, .ref u46, .ref u47])), (h1, .inl (k1, 600, .inl f_3291))] H := hP
  have hD : va_D A [(h0, .inr (13, [.ref h1, .int 6, .ref u0, .ref u1, .int 0, .ref u2, .ref u3, .ref u4, .ref u5, .ref u6, .ref u7, .ref u8, .ref u9, .int 0, .ref u10, .ref u11, .int 0, .ref u12, .int (-1), .ref u13, .int 0, .int 0, .ref u14, .int 0, .int 0, .ref u15, .ref u16, .ref u17, .ref u18, .ref u19, .int 0, .ref u20, .int 0, .int 0, .int 0, .int 0, .int 0, .int 0, .ref u21, .ref u22, .ref u23, .ref u24, .int 0, .ref u25, .ref u26, .ref u27, .ref u28, .int 0, .ref u29, .ref u30, .int 0, .int 0, .ref u31, .int 0, .int 0, .int 0, .ref u32, .ref u33, .ref u34, .int 0, .int 0, .ref u35, .ref u36, .ref u37, .ref u38, .ref u39, .ref u40, .ref u41, .ref u42, .ref u43, .ref u44, .int 0, .ref u45, .ref u46, .ref u47])), (h1, .inl (k1, 600, .inl f_3291))] := hD
  refine lv_iinc (v := 8) (lv' := [(2, .int 8), (0, .ref h0), (1, .int s0)]) hx hb dX13_lay_30 hl (k := 0) rfl (by decide) (by decide) rfl (fun ls hl => ?_)
  refine lv_goto (tgt := 3) hx hb dX13_lay_33 (by decide) ?_
  refine lv_iload_n hx hb dX13_lay_3 rfl (lv_at hl 0 rfl) ?_
  refine lv_if_lt (tgt := 36) hx hb dX13_lay_4 (by decide) (fun c_3293 => absurd c_3293 (by decide)) (fun c_3293 => ?_)
  refine lv_aload_n hx hb dX13_lay_7 rfl (lv_at hl 1 rfl) ?_
  refine va_get (D := (dC, dI)) (ci := 13) (v := .ref h1) (C := RX13) (T := TX13) (N := 75) hx hb hG zuX13 hown hK hP 0 rfl rfl 0 (by decide) (hG _ zw209) (fun _ h9 => h9) rfl dX13_lay_8 ?_
  refine lv_aload_n hx hb dX13_lay_11 rfl (lv_at hl 1 rfl) ?_
  refine va_get (D := (dC, dI)) (ci := 13) (v := .int 6) (C := RX13) (T := TX13) (N := 75) hx hb hG zuX13 hown hK hP 0 rfl rfl 1 (by decide) (hG _ zw303) (fun _ h9 => h9) rfl dX13_lay_12 ?_
  refine lv_iload_n hx hb dX13_lay_15 rfl (lv_at hl 2 rfl) ?_
  refine lv_iload_n hx hb dX13_lay_16 rfl (lv_at hl 0 rfl) ?_
  refine lv_ishr hx hb dX13_lay_17 ?_
  refine lv_topi (fun z_3294 e_z_3294 => ?_)
  refine lv_i2b hx hb dX13_lay_18 rfl ?_
  refine lv_topi (fun z_3295 e_z_3295 => ?_)
  refine va_bast hx hb hK hP hD hS 1 0 rfl rfl (zin_lit (by decide)) dX13_lay_19 (fun H locs hP hD hS => ?_)
  obtain ⟨f_3296, e_f_3296⟩ : ∃ z : Nat → Int32, z = upd f_3291 6 (vp_nar .byte z_3295) := ⟨_, rfl⟩
  have hP : va_P (dC, dI) vwCl [(h0, .inr (13, [.ref h1, .int 6, .ref u0, .ref u1, .int 0, .ref u2, .ref u3, .ref u4, .ref u5, .ref u6, .ref u7, .ref u8, .ref u9, .int 0, .ref u10, .ref u11, .int 0, .ref u12, .int (-1), .ref u13, .int 0, .int 0, .ref u14, .int 0, .int 0, .ref u15, .ref u16, .ref u17, .ref u18, .ref u19, .int 0, .ref u20, .int 0, .int 0, .int 0, .int 0, .int 0, .int 0, .ref u21, .ref u22, .ref u23, .ref u24, .int 0, .ref u25, .ref u26, .ref u27, .ref u28, .int 0, .ref u29, .ref u30, .int 0, .int 0, .ref u31, .int 0, .int 0, .int 0, .ref u32, .ref u33, .ref u34, .int 0, .int 0, .ref u35, .ref u36, .ref u37, .ref u38, .ref u39, .ref u40, .ref u41, .ref u42, .ref u43, .ref u44, .int 0, .ref u45, .ref u46, .ref u47])), (h1, .inl (k1, 600, .inl f_3296))] H := by rw [e_f_3296]; exact hP
  have hD : va_D A [(h0, .inr (13, [.ref h1, .int 6, .ref u0, .ref u1, .int 0, .ref u2, .ref u3, .ref u4, .ref u5, .ref u6, .ref u7, .ref u8, .ref u9, .int 0, .ref u10, .ref u11, .int 0, .ref u12, .int (-1), .ref u13, .int 0, .int 0, .ref u14, .int 0, .int 0, .ref u15, .ref u16, .ref u17, .ref u18, .ref u19, .int 0, .ref u20, .int 0, .int 0, .int 0, .int 0, .int 0, .int 0, .ref u21, .ref u22, .ref u23, .ref u24, .int 0, .ref u25, .ref u26, .ref u27, .ref u28, .int 0, .ref u29, .ref u30, .int 0, .int 0, .ref u31, .int 0, .int 0, .int 0, .ref u32, .ref u33, .ref u34, .int 0, .int 0, .ref u35, .ref u36, .ref u37, .ref u38, .ref u39, .ref u40, .ref u41, .ref u42, .ref u43, .ref u44, .int 0, .ref u45, .ref u46, .ref u47])), (h1, .inl (k1, 600, .inl f_3296))] := by rw [e_f_3296]; exact hD
  refine lv_aload_n hx hb dX13_lay_20 rfl (lv_at hl 1 rfl) ?_
  refine lv_dup hx hb dX13_lay_21 rfl ?_
  refine va_get (D := (dC, dI)) (ci := 13) (v := .int 6) (C := RX13) (T := TX13) (N := 75) hx hb hG zuX13 hown hK hP 0 rfl rfl 1 (by decide) (hG _ zw303) (fun _ h9 => h9) rfl dX13_lay_22 ?_
  refine lv_iconst (v := 1) hx hb dX13_lay_25 (by decide) ?_
  refine lv_iadd hx hb dX13_lay_26 ?_
  refine lv_topi (fun z_3297 e_z_3297 => ?_)
  obtain rfl : z_3297 = (7 : Int32) := e_z_3297.trans (by decide)
  refine va_put (D := (dC, dI)) (ci := 13) (v := .int 7) (ty := .int) (C := RX13) (T := TX13) (N := 75) hx hb hG zuX13 tyX13 tyX13_ok nmX13 hown hK hP hD hS 0 rfl rfl 1 (by decide) (hG _ zw303) (fun _ h9 => h9) rfl (by decide +kernel) rfl rfl (Nat.le_of_ble_eq_true rfl) dX13_lay_27 (fun H locs hP hD hS => ?_)
  have hP : va_P (dC, dI) vwCl [(h0, .inr (13, [.ref h1, .int 7, .ref u0, .ref u1, .int 0, .ref u2, .ref u3, .ref u4, .ref u5, .ref u6, .ref u7, .ref u8, .ref u9, .int 0, .ref u10, .ref u11, .int 0, .ref u12, .int (-1), .ref u13, .int 0, .int 0, .ref u14, .int 0, .int 0, .ref u15, .ref u16, .ref u17, .ref u18, .ref u19, .int 0, .ref u20, .int 0, .int 0, .int 0, .int 0, .int 0, .int 0, .ref u21, .ref u22, .ref u23, .ref u24, .int 0, .ref u25, .ref u26, .ref u27, .ref u28, .int 0, .ref u29, .ref u30, .int 0, .int 0, .ref u31, .int 0, .int 0, .int 0, .ref u32, .ref u33, .ref u34, .int 0, .int 0, .ref u35, .ref u36, .ref u37, .ref u38, .ref u39, .ref u40, .ref u41, .ref u42, .ref u43, .ref u44, .int 0, .ref u45, .ref u46, .ref u47])), (h1, .inl (k1, 600, .inl f_3296))] H := hP
  have hD : va_D A [(h0, .inr (13, [.ref h1, .int 7, .ref u0, .ref u1, .int 0, .ref u2, .ref u3, .ref u4, .ref u5, .ref u6, .ref u7, .ref u8, .ref u9, .int 0, .ref u10, .ref u11, .int 0, .ref u12, .int (-1), .ref u13, .int 0, .int 0, .ref u14, .int 0, .int 0, .ref u15, .ref u16, .ref u17, .ref u18, .ref u19, .int 0, .ref u20, .int 0, .int 0, .int 0, .int 0, .int 0, .int 0, .ref u21, .ref u22, .ref u23, .ref u24, .int 0, .ref u25, .ref u26, .ref u27, .ref u28, .int 0, .ref u29, .ref u30, .int 0, .int 0, .ref u31, .int 0, .int 0, .int 0, .ref u32, .ref u33, .ref u34, .int 0, .int 0, .ref u35, .ref u36, .ref u37, .ref u38, .ref u39, .ref u40, .ref u41, .ref u42, .ref u43, .ref u44, .int 0, .ref u45, .ref u46, .ref u47])), (h1, .inl (k1, 600, .inl f_3296))] := hD
  refine lv_iinc (v := 0) (lv' := [(2, .int 0), (0, .ref h0), (1, .int s0)]) hx hb dX13_lay_30 hl (k := 0) rfl (by decide) (by decide) rfl (fun ls hl => ?_)
  refine lv_goto (tgt := 3) hx hb dX13_lay_33 (by decide) ?_
  refine lv_iload_n hx hb dX13_lay_3 rfl (lv_at hl 0 rfl) ?_
  refine lv_if_lt (tgt := 36) hx hb dX13_lay_4 (by decide) (fun c_3298 => absurd c_3298 (by decide)) (fun c_3298 => ?_)
  refine lv_aload_n hx hb dX13_lay_7 rfl (lv_at hl 1 rfl) ?_
  refine va_get (D := (dC, dI)) (ci := 13) (v := .ref h1) (C := RX13) (T := TX13) (N := 75) hx hb hG zuX13 hown hK hP 0 rfl rfl 0 (by decide) (hG _ zw209) (fun _ h9 => h9) rfl dX13_lay_8 ?_
  refine lv_aload_n hx hb dX13_lay_11 rfl (lv_at hl 1 rfl) ?_
  refine va_get (D := (dC, dI)) (ci := 13) (v := .int 7) (C := RX13) (T := TX13) (N := 75) hx hb hG zuX13 hown hK hP 0 rfl rfl 1 (by decide) (hG _ zw303) (fun _ h9 => h9) rfl dX13_lay_12 ?_
  refine lv_iload_n hx hb dX13_lay_15 rfl (lv_at hl 2 rfl) ?_
  refine lv_iload_n hx hb dX13_lay_16 rfl (lv_at hl 0 rfl) ?_
  refine lv_ishr hx hb dX13_lay_17 ?_
  refine lv_topi (fun z_3299 e_z_3299 => ?_)
  refine lv_i2b hx hb dX13_lay_18 rfl ?_
  refine lv_topi (fun z_3300 e_z_3300 => ?_)
  refine va_bast hx hb hK hP hD hS 1 0 rfl rfl (zin_lit (by decide)) dX13_lay_19 (fun H locs hP hD hS => ?_)
  obtain ⟨f_3301, e_f_3301⟩ : ∃ z : Nat → Int32, z = upd f_3296 7 (vp_nar .byte z_3300) := ⟨_, rfl⟩
  have hP : va_P (dC, dI) vwCl [(h0, .inr (13, [.ref h1, .int 7, .ref u0, .ref u1, .int 0, .ref u2, .ref u3, .ref u4, .ref u5, .ref u6, .ref u7, .ref u8, .ref u9, .int 0, .ref u10, .ref u11, .int 0, .ref u12, .int (-1), .ref u13, .int 0, .int 0, .ref u14, .int 0, .int 0, .ref u15, .ref u16, .ref u17, .ref u18, .ref u19, .int 0, .ref u20, .int 0, .int 0, .int 0, .int 0, .int 0, .int 0, .ref u21, .ref u22, .ref u23, .ref u24, .int 0, .ref u25, .ref u26, .ref u27, .ref u28, .int 0, .ref u29, .ref u30, .int 0, .int 0, .ref u31, .int 0, .int 0, .int 0, .ref u32, .ref u33, .ref u34, .int 0, .int 0, .ref u35, .ref u36, .ref u37, .ref u38, .ref u39, .ref u40, .ref u41, .ref u42, .ref u43, .ref u44, .int 0, .ref u45, .ref u46, .ref u47])), (h1, .inl (k1, 600, .inl f_3301))] H := by rw [e_f_3301]; exact hP
  have hD : va_D A [(h0, .inr (13, [.ref h1, .int 7, .ref u0, .ref u1, .int 0, .ref u2, .ref u3, .ref u4, .ref u5, .ref u6, .ref u7, .ref u8, .ref u9, .int 0, .ref u10, .ref u11, .int 0, .ref u12, .int (-1), .ref u13, .int 0, .int 0, .ref u14, .int 0, .int 0, .ref u15, .ref u16, .ref u17, .ref u18, .ref u19, .int 0, .ref u20, .int 0, .int 0, .int 0, .int 0, .int 0, .int 0, .ref u21, .ref u22, .ref u23, .ref u24, .int 0, .ref u25, .ref u26, .ref u27, .ref u28, .int 0, .ref u29, .ref u30, .int 0, .int 0, .ref u31, .int 0, .int 0, .int 0, .ref u32, .ref u33, .ref u34, .int 0, .int 0, .ref u35, .ref u36, .ref u37, .ref u38, .ref u39, .ref u40, .ref u41, .ref u42, .ref u43, .ref u44, .int 0, .ref u45, .ref u46, .ref u47])), (h1, .inl (k1, 600, .inl f_3301))] := by rw [e_f_3301]; exact hD
  refine lv_aload_n hx hb dX13_lay_20 rfl (lv_at hl 1 rfl) ?_
  refine lv_dup hx hb dX13_lay_21 rfl ?_
  refine va_get (D := (dC, dI)) (ci := 13) (v := .int 7) (C := RX13) (T := TX13) (N := 75) hx hb hG zuX13 hown hK hP 0 rfl rfl 1 (by decide) (hG _ zw303) (fun _ h9 => h9) rfl dX13_lay_22 ?_
  refine lv_iconst (v := 1) hx hb dX13_lay_25 (by decide) ?_
  refine lv_iadd hx hb dX13_lay_26 ?_
  refine lv_topi (fun z_3302 e_z_3302 => ?_)
  obtain rfl : z_3302 = (8 : Int32) := e_z_3302.trans (by decide)
  refine va_put (D := (dC, dI)) (ci := 13) (v := .int 8) (ty := .int) (C := RX13) (T := TX13) (N := 75) hx hb hG zuX13 tyX13 tyX13_ok nmX13 hown hK hP hD hS 0 rfl rfl 1 (by decide) (hG _ zw303) (fun _ h9 => h9) rfl (by decide +kernel) rfl rfl (Nat.le_of_ble_eq_true rfl) dX13_lay_27 (fun H locs hP hD hS => ?_)
  have hP : va_P (dC, dI) vwCl [(h0, .inr (13, [.ref h1, .int 8, .ref u0, .ref u1, .int 0, .ref u2, .ref u3, .ref u4, .ref u5, .ref u6, .ref u7, .ref u8, .ref u9, .int 0, .ref u10, .ref u11, .int 0, .ref u12, .int (-1), .ref u13, .int 0, .int 0, .ref u14, .int 0, .int 0, .ref u15, .ref u16, .ref u17, .ref u18, .ref u19, .int 0, .ref u20, .int 0, .int 0, .int 0, .int 0, .int 0, .int 0, .ref u21, .ref u22, .ref u23, .ref u24, .int 0, .ref u25, .ref u26, .ref u27, .ref u28, .int 0, .ref u29, .ref u30, .int 0, .int 0, .ref u31, .int 0, .int 0, .int 0, .ref u32, .ref u33, .ref u34, .int 0, .int 0, .ref u35, .ref u36, .ref u37, .ref u38, .ref u39, .ref u40, .ref u41, .ref u42, .ref u43, .ref u44, .int 0, .ref u45, .ref u46, .ref u47])), (h1, .inl (k1, 600, .inl f_3301))] H := hP
  have hD : va_D A [(h0, .inr (13, [.ref h1, .int 8, .ref u0, .ref u1, .int 0, .ref u2, .ref u3, .ref u4, .ref u5, .ref u6, .ref u7, .ref u8, .ref u9, .int 0, .ref u10, .ref u11, .int 0, .ref u12, .int (-1), .ref u13, .int 0, .int 0, .ref u14, .int 0, .int 0, .ref u15, .ref u16, .ref u17, .ref u18, .ref u19, .int 0, .ref u20, .int 0, .int 0, .int 0, .int 0, .int 0, .int 0, .ref u21, .ref u22, .ref u23, .ref u24, .int 0, .ref u25, .ref u26, .ref u27, .ref u28, .int 0, .ref u29, .ref u30, .int 0, .int 0, .ref u31, .int 0, .int 0, .int 0, .ref u32, .ref u33, .ref u34, .int 0, .int 0, .ref u35, .ref u36, .ref u37, .ref u38, .ref u39, .ref u40, .ref u41, .ref u42, .ref u43, .ref u44, .int 0, .ref u45, .ref u46, .ref u47])), (h1, .inl (k1, 600, .inl f_3301))] := hD
  refine lv_iinc (v := (-8)) (lv' := [(2, .int (-8)), (0, .ref h0), (1, .int s0)]) hx hb dX13_lay_30 hl (k := 0) rfl (by decide) (by decide) rfl (fun ls hl => ?_)
  refine lv_goto (tgt := 3) hx hb dX13_lay_33 (by decide) ?_
  refine lv_iload_n hx hb dX13_lay_3 rfl (lv_at hl 0 rfl) ?_
  refine lv_if_lt (tgt := 36) hx hb dX13_lay_4 (by decide) (fun c_3303 => ?_) (fun c_3303 => absurd c_3303 (by decide))
  have hP9 := hP.sub (ws' := [(h0, .inr (13, [.ref h1, .int 8, .ref u0, .ref u1, .int 0, .ref u2, .ref u3, .ref u4, .ref u5, .ref u6, .ref u7, .ref u8, .ref u9, .int 0, .ref u10, .ref u11, .int 0, .ref u12, .int (-1), .ref u13, .int 0, .int 0, .ref u14, .int 0, .int 0, .ref u15, .ref u16, .ref u17, .ref u18, .ref u19, .int 0, .ref u20, .int 0, .int 0, .int 0, .int 0, .int 0, .int 0, .ref u21, .ref u22, .ref u23, .ref u24, .int 0, .ref u25, .ref u26, .ref u27, .ref u28, .int 0, .ref u29, .ref u30, .int 0, .int 0, .ref u31, .int 0, .int 0, .int 0, .ref u32, .ref u33, .ref u34, .int 0, .int 0, .ref u35, .ref u36, .ref u37, .ref u38, .ref u39, .ref u40, .ref u41, .ref u42, .ref u43, .ref u44, .int 0, .ref u45, .ref u46, .ref u47])), (h1, .inl (k1, 600, .inl f_3301))]) [0, 1] rfl
  have hD9 := hD.sub (ws' := [(h0, .inr (13, [.ref h1, .int 8, .ref u0, .ref u1, .int 0, .ref u2, .ref u3, .ref u4, .ref u5, .ref u6, .ref u7, .ref u8, .ref u9, .int 0, .ref u10, .ref u11, .int 0, .ref u12, .int (-1), .ref u13, .int 0, .int 0, .ref u14, .int 0, .int 0, .ref u15, .ref u16, .ref u17, .ref u18, .ref u19, .int 0, .ref u20, .int 0, .int 0, .int 0, .int 0, .int 0, .int 0, .ref u21, .ref u22, .ref u23, .ref u24, .int 0, .ref u25, .ref u26, .ref u27, .ref u28, .int 0, .ref u29, .ref u30, .int 0, .int 0, .ref u31, .int 0, .int 0, .int 0, .ref u32, .ref u33, .ref u34, .int 0, .int 0, .ref u35, .ref u36, .ref u37, .ref u38, .ref u39, .ref u40, .ref u41, .ref u42, .ref u43, .ref u44, .int 0, .ref u45, .ref u46, .ref u47])), (h1, .inl (k1, 600, .inl f_3301))]) [0, 1] (by decide) rfl
  have hK9 := hK.sub (tys' := [(k1, .byte)]) [0] rfl
  refine W.widen (k := 0) (n := 0) (by decide) (by decide) ?_
  exact W.vret hx hb hr (fun t ht hW => ⟨⟨(), rfl, trivial, f_3301, by rw [ht]; exact hP9, va_K.moved hW.alike hK9, hD9⟩, hS.F ht⟩) hS.2.2 dX13_lay_36
set_option maxHeartbeats 4000000 in
set_option maxRecDepth 100000 in
theorem kX13_lay_2 (l : Launch) (dC : Nat → ClassId) (dI : Nat → Nat → Nat) (h0 h1 u0 u1 u2 u3 u4 u5 u6 u7 u8 u9 u10 u11 u12 u13 u14 u15 u16 u17 u18 u19 u20 u21 u22 u23 u24 u25 u26 u27 u28 u29 u30 u31 u32 u33 u34 u35 u36 u37 u38 u39 u40 u41 u42 u43 u44 u45 u46 u47 : Nat) (k1 : ClassId) (sz : Nat) (s0 : Int32) (s1 : Nat → Int32) : Met l yX13_lay (zw yX13_lay cX13_lay 3 none) { frames := 0, cells := 0, slots := 0, locals := 0 } (zPc dC dI [.ref h0, .int s0] sz [(h0, .inr (13, [.ref h1, .int 8, .ref u0, .ref u1, .int 0, .ref u2, .ref u3, .ref u4, .ref u5, .ref u6, .ref u7, .ref u8, .ref u9, .int 0, .ref u10, .ref u11, .int 0, .ref u12, .int (-1), .ref u13, .int 0, .int 0, .ref u14, .int 0, .int 0, .ref u15, .ref u16, .ref u17, .ref u18, .ref u19, .int 0, .ref u20, .int 0, .int 0, .int 0, .int 0, .int 0, .int 0, .ref u21, .ref u22, .ref u23, .ref u24, .int 0, .ref u25, .ref u26, .ref u27, .ref u28, .int 0, .ref u29, .ref u30, .int 0, .int 0, .ref u31, .int 0, .int 0, .int 0, .ref u32, .ref u33, .ref u34, .int 0, .int 0, .ref u35, .ref u36, .ref u37, .ref u38, .ref u39, .ref u40, .ref u41, .ref u42, .ref u43, .ref u44, .int 0, .ref u45, .ref u46, .ref u47])), (h1, .inl (k1, 600, .inl s1))] [(k1, .byte)]) (va_Qv (fun _ : Unit => True) (fun (_ : Unit) (t : State) => ∃ (f0 : Nat → Int32), va_P (dC, dI) vwCl [(h0, .inr (13, [.ref h1, .int 12, .ref u0, .ref u1, .int 0, .ref u2, .ref u3, .ref u4, .ref u5, .ref u6, .ref u7, .ref u8, .ref u9, .int 0, .ref u10, .ref u11, .int 0, .ref u12, .int (-1), .ref u13, .int 0, .int 0, .ref u14, .int 0, .int 0, .ref u15, .ref u16, .ref u17, .ref u18, .ref u19, .int 0, .ref u20, .int 0, .int 0, .int 0, .int 0, .int 0, .int 0, .ref u21, .ref u22, .ref u23, .ref u24, .int 0, .ref u25, .ref u26, .ref u27, .ref u28, .int 0, .ref u29, .ref u30, .int 0, .int 0, .ref u31, .int 0, .int 0, .int 0, .ref u32, .ref u33, .ref u34, .int 0, .int 0, .ref u35, .ref u36, .ref u37, .ref u38, .ref u39, .ref u40, .ref u41, .ref u42, .ref u43, .ref u44, .int 0, .ref u45, .ref u46, .ref u47])), (h1, .inl (k1, 600, .inl f0))] t.heap ∧ va_K (dC, dI) vwCl [(k1, .byte)] t ∧ va_D (va_A [(h0, .inr (13, [.ref h1, .int 8, .ref u0, .ref u1, .int 0, .ref u2, .ref u3, .ref u4, .ref u5, .ref u6, .ref u7, .ref u8, .ref u9, .int 0, .ref u10, .ref u11, .int 0, .ref u12, .int (-1), .ref u13, .int 0, .int 0, .ref u14, .int 0, .int 0, .ref u15, .ref u16, .ref u17, .ref u18, .ref u19, .int 0, .ref u20, .int 0, .int 0, .int 0, .int 0, .int 0, .int 0, .ref u21, .ref u22, .ref u23, .ref u24, .int 0, .ref u25, .ref u26, .ref u27, .ref u28, .int 0, .ref u29, .ref u30, .int 0, .int 0, .ref u31, .int 0, .int 0, .int 0, .ref u32, .ref u33, .ref u34, .int 0, .int 0, .ref u35, .ref u36, .ref u37, .ref u38, .ref u39, .ref u40, .ref u41, .ref u42, .ref u43, .ref u44, .int 0, .ref u45, .ref u46, .ref u47])), (h1, .inl (k1, 600, .inl s1))] sz) [(h0, .inr (13, [.ref h1, .int 12, .ref u0, .ref u1, .int 0, .ref u2, .ref u3, .ref u4, .ref u5, .ref u6, .ref u7, .ref u8, .ref u9, .int 0, .ref u10, .ref u11, .int 0, .ref u12, .int (-1), .ref u13, .int 0, .int 0, .ref u14, .int 0, .int 0, .ref u15, .ref u16, .ref u17, .ref u18, .ref u19, .int 0, .ref u20, .int 0, .int 0, .int 0, .int 0, .int 0, .int 0, .ref u21, .ref u22, .ref u23, .ref u24, .int 0, .ref u25, .ref u26, .ref u27, .ref u28, .int 0, .ref u29, .ref u30, .int 0, .int 0, .ref u31, .int 0, .int 0, .int 0, .ref u32, .ref u33, .ref u34, .int 0, .int 0, .ref u35, .ref u36, .ref u37, .ref u38, .ref u39, .ref u40, .ref u41, .ref u42, .ref u43, .ref u44, .int 0, .ref u45, .ref u46, .ref u47])), (h1, .inl (k1, 600, .inl f0))]) (va_A [(h0, .inr (13, [.ref h1, .int 8, .ref u0, .ref u1, .int 0, .ref u2, .ref u3, .ref u4, .ref u5, .ref u6, .ref u7, .ref u8, .ref u9, .int 0, .ref u10, .ref u11, .int 0, .ref u12, .int (-1), .ref u13, .int 0, .int 0, .ref u14, .int 0, .int 0, .ref u15, .ref u16, .ref u17, .ref u18, .ref u19, .int 0, .ref u20, .int 0, .int 0, .int 0, .int 0, .int 0, .int 0, .ref u21, .ref u22, .ref u23, .ref u24, .int 0, .ref u25, .ref u26, .ref u27, .ref u28, .int 0, .ref u29, .ref u30, .int 0, .int 0, .ref u31, .int 0, .int 0, .int 0, .ref u32, .ref u33, .ref u34, .int 0, .int 0, .ref u35, .ref u36, .ref u37, .ref u38, .ref u39, .ref u40, .ref u41, .ref u42, .ref u43, .ref u44, .int 0, .ref u45, .ref u46, .ref u47])), (h1, .inl (k1, 600, .inl s1))] sz)) 0 0 (va_A [(h0, .inr (13, [.ref h1, .int 8, .ref u0, .ref u1, .int 0, .ref u2, .ref u3, .ref u4, .ref u5, .ref u6, .ref u7, .ref u8, .ref u9, .int 0, .ref u10, .ref u11, .int 0, .ref u12, .int (-1), .ref u13, .int 0, .int 0, .ref u14, .int 0, .int 0, .ref u15, .ref u16, .ref u17, .ref u18, .ref u19, .int 0, .ref u20, .int 0, .int 0, .int 0, .int 0, .int 0, .int 0, .ref u21, .ref u22, .ref u23, .ref u24, .int 0, .ref u25, .ref u26, .ref u27, .ref u28, .int 0, .ref u29, .ref u30, .int 0, .int 0, .ref u31, .int 0, .int 0, .int 0, .ref u32, .ref u33, .ref u34, .int 0, .int 0, .ref u35, .ref u36, .ref u37, .ref u38, .ref u39, .ref u40, .ref u41, .ref u42, .ref u43, .ref u44, .int 0, .ref u45, .ref u46, .ref u47])), (h1, .inl (k1, 600, .inl s1))] sz) := by
  refine Met.ofW (cc := cX13_lay) (maxL := 3) (ret := none) (by decide) rfl ?_
  intro p e s m args below meth c s₁ B hml hv
  obtain ⟨rfl, hsz, hP, hK, hD0, hE, hZ⟩ := hv
  have hx := B.exec
  have hb := B.bytes
  have hr := B.returns
  have hG : ∀ w ∈ zG, w.before _ s = true := fun w h => atoms_spec (ws := (zw yX13_lay cX13_lay 3 none)) B.pre w (List.mem_cons_of_mem _ h)
  have hown : s.vm.findClass RX13 = some m.cls := findClass_of_methodNamed B.named
  have hlocks := B.notSynchronized
  subst hsz
  have hD := hD0.self (sz := s.heap.size)
  generalize hAe : va_A [(h0, .inr (13, [.ref h1, .int 8, .ref u0, .ref u1, .int 0, .ref u2, .ref u3, .ref u4, .ref u5, .ref u6, .ref u7, .ref u8, .ref u9, .int 0, .ref u10, .ref u11, .int 0, .ref u12, .int (-1), .ref u13, .int 0, .int 0, .ref u14, .int 0, .int 0, .ref u15, .ref u16, .ref u17, .ref u18, .ref u19, .int 0, .ref u20, .int 0, .int 0, .int 0, .int 0, .int 0, .int 0, .ref u21, .ref u22, .ref u23, .ref u24, .int 0, .ref u25, .ref u26, .ref u27, .ref u28, .int 0, .ref u29, .ref u30, .int 0, .int 0, .ref u31, .int 0, .int 0, .int 0, .ref u32, .ref u33, .ref u34, .int 0, .int 0, .ref u35, .ref u36, .ref u37, .ref u38, .ref u39, .ref u40, .ref u41, .ref u42, .ref u43, .ref u44, .int 0, .ref u45, .ref u46, .ref u47])), (h1, .inl (k1, 600, .inl s1))] s.heap.size = A at hD hZ ⊢
  have hA : ∀ q : Nat, s.heap.size ≤ q → A q := fun q h => by rw [← hAe]; exact Or.inr h
  have hS : va_S A s.heap s.heap [] := va_S.rf
  have hl := lv_entry ([.ref h0, .int s0]) (n := 3) (Nat.le_of_ble_eq_true rfl)
  rw [lg_entry_eq]
  generalize (lg_sl ([.ref h0, .int s0]) ++ List.replicate (3 - (lg_sl ([.ref h0, .int s0])).length) Slot.unset).toArray = ls at hl ⊢
  have hl : lv_has ls 3 [(0, .ref h0), (1, .int s0)] := hl
  refine lv_bipush (v := 24) hx hb dX13_lay_0 (by decide) ?_
  refine lv_istore_n (lv' := [(2, .int 24), (0, .ref h0), (1, .int s0)]) hx hb dX13_lay_2 rfl hl (by decide) rfl (fun ls hl => ?_)
  refine lv_iload_n hx hb dX13_lay_3 rfl (lv_at hl 0 rfl) ?_
  refine lv_if_lt (tgt := 36) hx hb dX13_lay_4 (by decide) (fun c_3348 => absurd c_3348 (by decide)) (fun c_3348 => ?_)
  refine lv_aload_n hx hb dX13_lay_7 rfl (lv_at hl 1 rfl) ?_
  refine va_get (D := (dC, dI)) (ci := 13) (v := .ref h1) (C := RX13) (T := TX13) (N := 75) hx hb hG zuX13 hown hK hP 0 rfl rfl 0 (by decide) (hG _ zw209) (fun _ h9 => h9) rfl dX13_lay_8 ?_
  refine lv_aload_n hx hb dX13_lay_11 rfl (lv_at hl 1 rfl) ?_
  refine va_get (D := (dC, dI)) (ci := 13) (v := .int 8) (C := RX13) (T := TX13) (N := 75) hx hb hG zuX13 hown hK hP 0 rfl rfl 1 (by decide) (hG _ zw303) (fun _ h9 => h9) rfl dX13_lay_12 ?_
  refine lv_iload_n hx hb dX13_lay_15 rfl (lv_at hl 2 rfl) ?_
  refine lv_iload_n hx hb dX13_lay_16 rfl (lv_at hl 0 rfl) ?_
  refine lv_ishr hx hb dX13_lay_17 ?_
  refine lv_topi (fun z_3349 e_z_3349 => ?_)
  refine lv_i2b hx hb dX13_lay_18 rfl ?_
  refine lv_topi (fun z_3350 e_z_3350 => ?_)
  refine va_bast hx hb hK hP hD hS 1 0 rfl rfl (zin_lit (by decide)) dX13_lay_19 (fun H locs hP hD hS => ?_)
  obtain ⟨f_3351, e_f_3351⟩ : ∃ z : Nat → Int32, z = upd s1 8 (vp_nar .byte z_3350) := ⟨_, rfl⟩
  have hP : va_P (dC, dI) vwCl [(h0, .inr (13, [.ref h1, .int 8, .ref u0, .ref u1, .int 0, .ref u2, .ref u3, .ref u4, .ref u5, .ref u6, .ref u7, .ref u8, .ref u9, .int 0, .ref u10, .ref u11, .int 0, .ref u12, .int (-1), .ref u13, .int 0, .int 0, .ref u14, .int 0, .int 0, .ref u15, .ref u16, .ref u17, .ref u18, .ref u19, .int 0, .ref u20, .int 0, .int 0, .int 0, .int 0, .int 0, .int 0, .ref u21, .ref u22, .ref u23, .ref u24, .int 0, .ref u25, .ref u26, .ref u27, .ref u28, .int 0, .ref u29, .ref u30, .int 0, .int 0, .ref u31, .int 0, .int 0, .int 0, .ref u32, .ref u33, .ref u34, .int 0, .int 0, .ref u35, .ref u36, .ref u37, .ref u38, .ref u39, .ref u40, .ref u41, .ref u42, .ref u43, .ref u44, .int 0, .ref u45, .ref u46, .ref u47])), (h1, .inl (k1, 600, .inl f_3351))] H := by rw [e_f_3351]; exact hP
  have hD : va_D A [(h0, .inr (13, [.ref h1, .int 8, .ref u0, .ref u1, .int 0, .ref u2, .ref u3, .ref u4, .ref u5, .ref u6, .ref u7, .ref u8, .ref u9, .int 0, .ref u10, .ref u11, .int 0, .ref u12, .int (-1), .ref u13, .int 0, .int 0, .ref u14, .int 0, .int 0, .ref u15, .ref u16, .ref u17, .ref u18, .ref u19, .int 0, .ref u20, .int 0, .int 0, .int 0, .int 0, .int 0, .int 0, .ref u21, .ref u22, .ref u23, .ref u24, .int 0, .ref u25, .ref u26, .ref u27, .ref u28, .int 0, .ref u29, .ref u30, .int 0, .int 0, .ref u31, .int 0, .int 0, .int 0, .ref u32, .ref u33, .ref u34, .int 0, .int 0, .ref u35, .ref u36, .ref u37, .ref u38, .ref u39, .ref u40, .ref u41, .ref u42, .ref u43, .ref u44, .int 0, .ref u45, .ref u46, .ref u47])), (h1, .inl (k1, 600, .inl f_3351))] := by rw [e_f_3351]; exact hD
  refine lv_aload_n hx hb dX13_lay_20 rfl (lv_at hl 1 rfl) ?_
  refine lv_dup hx hb dX13_lay_21 rfl ?_
  refine va_get (D := (dC, dI)) (ci := 13) (v := .int 8) (C := RX13) (T := TX13) (N := 75) hx hb hG zuX13 hown hK hP 0 rfl rfl 1 (by decide) (hG _ zw303) (fun _ h9 => h9) rfl dX13_lay_22 ?_
  refine lv_iconst (v := 1) hx hb dX13_lay_25 (by decide) ?_
  refine lv_iadd hx hb dX13_lay_26 ?_
  refine lv_topi (fun z_3352 e_z_3352 => ?_)
  obtain rfl : z_3352 = (9 : Int32) := e_z_3352.trans (by decide)
  refine va_put (D := (dC, dI)) (ci := 13) (v := .int 9) (ty := .int) (C := RX13) (T := TX13) (N := 75) hx hb hG zuX13 tyX13 tyX13_ok nmX13 hown hK hP hD hS 0 rfl rfl 1 (by decide) (hG _ zw303) (fun _ h9 => h9) rfl (by decide +kernel) rfl rfl (Nat.le_of_ble_eq_true rfl) dX13_lay_27 (fun H locs hP hD hS => ?_)
  have hP : va_P (dC, dI) vwCl [(h0, .inr (13, [.ref h1, .int 9, .ref u0, .ref u1, .int 0, .ref u2, .ref u3, .ref u4, .ref u5, .ref u6, .ref u7, .ref u8, .ref u9, .int 0, .ref u10, .ref u11, .int 0, .ref u12, .int (-1), .ref u13, .int 0, .int 0, .ref u14, .int 0, .int 0, .ref u15, .ref u16, .ref u17, .ref u18, .ref u19, .int 0, .ref u20, .int 0, .int 0, .int 0, .int 0, .int 0, .int 0, .ref u21, .ref u22, .ref u23, .ref u24, .int 0, .ref u25, .ref u26, .ref u27, .ref u28, .int 0, .ref u29, .ref u30, .int 0, .int 0, .ref u31, .int 0, .int 0, .int 0, .ref u32, .ref u33, .ref u34, .int 0, .int 0, .ref u35, .ref u36, .ref u37, .ref u38, .ref u39, .ref u40, .ref u41, .ref u42, .ref u43, .ref u44, .int 0, .ref u45, .ref u46, .ref u47])), (h1, .inl (k1, 600, .inl f_3351))] H := hP
  have hD : va_D A [(h0, .inr (13, [.ref h1, .int 9, .ref u0, .ref u1, .int 0, .ref u2, .ref u3, .ref u4, .ref u5, .ref u6, .ref u7, .ref u8, .ref u9, .int 0, .ref u10, .ref u11, .int 0, .ref u12, .int (-1), .ref u13, .int 0, .int 0, .ref u14, .int 0, .int 0, .ref u15, .ref u16, .ref u17, .ref u18, .ref u19, .int 0, .ref u20, .int 0, .int 0, .int 0, .int 0, .int 0, .int 0, .ref u21, .ref u22, .ref u23, .ref u24, .int 0, .ref u25, .ref u26, .ref u27, .ref u28, .int 0, .ref u29, .ref u30, .int 0, .int 0, .ref u31, .int 0, .int 0, .int 0, .ref u32, .ref u33, .ref u34, .int 0, .int 0, .ref u35, .ref u36, .ref u37, .ref u38, .ref u39, .ref u40, .ref u41, .ref u42, .ref u43, .ref u44, .int 0, .ref u45, .ref u46, .ref u47])), (h1, .inl (k1, 600, .inl f_3351))] := hD
  refine lv_iinc (v := 16) (lv' := [(2, .int 16), (0, .ref h0), (1, .int s0)]) hx hb dX13_lay_30 hl (k := 0) rfl (by decide) (by decide) rfl (fun ls hl => ?_)
  refine lv_goto (tgt := 3) hx hb dX13_lay_33 (by decide) ?_
  refine lv_iload_n hx hb dX13_lay_3 rfl (lv_at hl 0 rfl) ?_
  refine lv_if_lt (tgt := 36) hx hb dX13_lay_4 (by decide) (fun c_3353 => absurd c_3353 (by decide)) (fun c_3353 => ?_)
  refine lv_aload_n hx hb dX13_lay_7 rfl (lv_at hl 1 rfl) ?_
  refine va_get (D := (dC, dI)) (ci := 13) (v := .ref h1) (C := RX13) (T := TX13) (N := 75) hx hb hG zuX13 hown hK hP 0 rfl rfl 0 (by decide) (hG _ zw209) (fun _ h9 => h9) rfl dX13_lay_8 ?_
  refine lv_aload_n hx hb dX13_lay_11 rfl (lv_at hl 1 rfl) ?_
  refine va_get (D := (dC, dI)) (ci := 13) (v := .int 9) (C := RX13) (T := TX13) (N := 75) hx hb hG zuX13 hown hK hP 0 rfl rfl 1 (by decide) (hG _ zw303) (fun _ h9 => h9) rfl dX13_lay_12 ?_
  refine lv_iload_n hx hb dX13_lay_15 rfl (lv_at hl 2 rfl) ?_
  refine lv_iload_n hx hb dX13_lay_16 rfl (lv_at hl 0 rfl) ?_
  refine lv_ishr hx hb dX13_lay_17 ?_
  refine lv_topi (fun z_3354 e_z_3354 => ?_)
  refine lv_i2b hx hb dX13_lay_18 rfl ?_
  refine lv_topi (fun z_3355 e_z_3355 => ?_)
  refine va_bast hx hb hK hP hD hS 1 0 rfl rfl (zin_lit (by decide)) dX13_lay_19 (fun H locs hP hD hS => ?_)
  obtain ⟨f_3356, e_f_3356⟩ : ∃ z : Nat → Int32, z = upd f_3351 9 (vp_nar .byte z_3355) := ⟨_, rfl⟩
  have hP : va_P (dC, dI) vwCl [(h0, .inr (13, [.ref h1, .int 9, .ref u0, .ref u1, .int 0, .ref u2, .ref u3, .ref u4, .ref u5, .ref u6, .ref u7, .ref u8, .ref u9, .int 0, .ref u10, .ref u11, .int 0, .ref u12, .int (-1), .ref u13, .int 0, .int 0, .ref u14, .int 0, .int 0, .ref u15, .ref u16, .ref u17, .ref u18, .ref u19, .int 0, .ref u20, .int 0, .int 0, .int 0, .int 0, .int 0, .int 0, .ref u21, .ref u22, .ref u23, .ref u24, .int 0, .ref u25, .ref u26, .ref u27, .ref u28, .int 0, .ref u29, .ref u30, .int 0, .int 0, .ref u31, .int 0, .int 0, .int 0, .ref u32, .ref u33, .ref u34, .int 0, .int 0, .ref u35, .ref u36, .ref u37, .ref u38, .ref u39, .ref u40, .ref u41, .ref u42, .ref u43, .ref u44, .int 0, .ref u45, .ref u46, .ref u47])), (h1, .inl (k1, 600, .inl f_3356))] H := by rw [e_f_3356]; exact hP
  have hD : va_D A [(h0, .inr (13, [.ref h1, .int 9, .ref u0, .ref u1, .int 0, .ref u2, .ref u3, .ref u4, .ref u5, .ref u6, .ref u7, .ref u8, .ref u9, .int 0, .ref u10, .ref u11, .int 0, .ref u12, .int (-1), .ref u13, .int 0, .int 0, .ref u14, .int 0, .int 0, .ref u15, .ref u16, .ref u17, .ref u18, .ref u19, .int 0, .ref u20, .int 0, .int 0, .int 0, .int 0, .int 0, .int 0, .ref u21, .ref u22, .ref u23, .ref u24, .int 0, .ref u25, .ref u26, .ref u27, .ref u28, .int 0, .ref u29, .ref u30, .int 0, .int 0, .ref u31, .int 0, .int 0, .int 0, .ref u32, .ref u33, .ref u34, .int 0, .int 0, .ref u35, .ref u36, .ref u37, .ref u38, .ref u39, .ref u40, .ref u41, .ref u42, .ref u43, .ref u44, .int 0, .ref u45, .ref u46, .ref u47])), (h1, .inl (k1, 600, .inl f_3356))] := by rw [e_f_3356]; exact hD
  refine lv_aload_n hx hb dX13_lay_20 rfl (lv_at hl 1 rfl) ?_
  refine lv_dup hx hb dX13_lay_21 rfl ?_
  refine va_get (D := (dC, dI)) (ci := 13) (v := .int 9) (C := RX13) (T := TX13) (N := 75) hx hb hG zuX13 hown hK hP 0 rfl rfl 1 (by decide) (hG _ zw303) (fun _ h9 => h9) rfl dX13_lay_22 ?_
  refine lv_iconst (v := 1) hx hb dX13_lay_25 (by decide) ?_
  refine lv_iadd hx hb dX13_lay_26 ?_
  refine lv_topi (fun z_3357 e_z_3357 => ?_)
  obtain rfl : z_3357 = (10 : Int32) := e_z_3357.trans (by decide)
  refine va_put (D := (dC, dI)) (ci := 13) (v := .int 10) (ty := .int) (C := RX13) (T := TX13) (N := 75) hx hb hG zuX13 tyX13 tyX13_ok nmX13 hown hK hP hD hS 0 rfl rfl 1 (by decide) (hG _ zw303) (fun _ h9 => h9) rfl (by decide +kernel) rfl rfl (Nat.le_of_ble_eq_true rfl) dX13_lay_27 (fun H locs hP hD hS => ?_)
  have hP : va_P (dC, dI) vwCl [(h0, .inr (13, [.ref h1, .int 10, .ref u0, .ref u1, .int 0, .ref u2, .ref u3, .ref u4, .ref u5, .ref u6, .ref u7, .ref u8, .ref u9, .int 0, .ref u10, .ref u11, .int 0, .ref u12, .int (-1), .ref u13, .int 0, .int 0, .ref u14, .int 0, .int 0, .ref u15, .ref u16, .ref u17, .ref u18, .ref u19, .int 0, .ref u20, .int 0, .int 0, .int 0, .int 0, .int 0, .int 0, .ref u21, .ref u22, .ref u23, .ref u24, .int 0, .ref u25, .ref u26, .ref u27, .ref u28, .int 0, .ref u29, .ref u30, .int 0, .int 0, .ref u31, .int 0, .int 0, .int 0, .ref u32, .ref u33, .ref u34, .int 0, .int 0, .ref u35, .ref u36, .ref u37, .ref u38, .ref u39, .ref u40, .ref u41, .ref u42, .ref u43, .ref u44, .int 0, .ref u45, .ref u46, .ref u47])), (h1, .inl (k1, 600, .inl f_3356))] H := hP
  have hD : va_D A [(h0, .inr (13, [.ref h1, .int 10, .ref u0, .ref u1, .int 0, .ref u2, .ref u3, .ref u4, .ref u5, .ref u6, .ref u7, .ref u8, .ref u9, .int 0, .ref u10, .ref u11, .int 0, .ref u12, .int (-1), .ref u13, .int 0, .int 0, .ref u14, .int 0, .int 0, .ref u15, .ref u16, .ref u17, .ref u18, .ref u19, .int 0, .ref u20, .int 0, .int 0, .int 0, .int 0, .int 0, .int 0, .ref u21, .ref u22, .ref u23, .ref u24, .int 0, .ref u25, .ref u26, .ref u27, .ref u28, .int 0, .ref u29, .ref u30, .int 0, .int 0, .ref u31, .int 0, .int 0, .int 0, .ref u32, .ref u33, .ref u34, .int 0, .int 0, .ref u35, .ref u36, .ref u37, .ref u38, .ref u39, .ref u40, .ref u41, .ref u42, .ref u43, .ref u44, .int 0, .ref u45, .ref u46, .ref u47])), (h1, .inl (k1, 600, .inl f_3356))] := hD
  refine lv_iinc (v := 8) (lv' := [(2, .int 8), (0, .ref h0), (1, .int s0)]) hx hb dX13_lay_30 hl (k := 0) rfl (by decide) (by decide) rfl (fun ls hl => ?_)
  refine lv_goto (tgt := 3) hx hb dX13_lay_33 (by decide) ?_
  refine lv_iload_n hx hb dX13_lay_3 rfl (lv_at hl 0 rfl) ?_
  refine lv_if_lt (tgt := 36) hx hb dX13_lay_4 (by decide) (fun c_3358 => absurd c_3358 (by decide)) (fun c_3358 => ?_)
  refine lv_aload_n hx hb dX13_lay_7 rfl (lv_at hl 1 rfl) ?_
  refine va_get (D := (dC, dI)) (ci := 13) (v := .ref h1) (C := RX13) (T := TX13) (N := 75) hx hb hG zuX13 hown hK hP 0 rfl rfl 0 (by decide) (hG _ zw209) (fun _ h9 => h9) rfl dX13_lay_8 ?_
  refine lv_aload_n hx hb dX13_lay_11 rfl (lv_at hl 1 rfl) ?_
  refine va_get (D := (dC, dI)) (ci := 13) (v := .int 10) (C := RX13) (T := TX13) (N := 75) hx hb hG zuX13 hown hK hP 0 rfl rfl 1 (by decide) (hG _ zw303) (fun _ h9 => h9) rfl dX13_lay_12 ?_
  refine lv_iload_n hx hb dX13_lay_15 rfl (lv_at hl 2 rfl) ?_
  refine lv_iload_n hx hb dX13_lay_16 rfl (lv_at hl 0 rfl) ?_
  refine lv_ishr hx hb dX13_lay_17 ?_
  refine lv_topi (fun z_3359 e_z_3359 => ?_)
  refine lv_i2b hx hb dX13_lay_18 rfl ?_
  refine lv_topi (fun z_3360 e_z_3360 => ?_)
  refine va_bast hx hb hK hP hD hS 1 0 rfl rfl (zin_lit (by decide)) dX13_lay_19 (fun H locs hP hD hS => ?_)
  obtain ⟨f_3361, e_f_3361⟩ : ∃ z : Nat → Int32, z = upd f_3356 10 (vp_nar .byte z_3360) := ⟨_, rfl⟩
  have hP : va_P (dC, dI) vwCl [(h0, .inr (13, [.ref h1, .int 10, .ref u0, .ref u1, .int 0, .ref u2, .ref u3, .ref u4, .ref u5, .ref u6, .ref u7, .ref u8, .ref u9, .int 0, .ref u10, .ref u11, .int 0, .ref u12, .int (-1), .ref u13, .int 0, .int 0, .ref u14, .int 0, .int 0, .ref u15, .ref u16, .ref u17, .ref u18, .ref u19, .int 0, .ref u20, .int 0, .int 0, .int 0, .int 0, .int 0, .int 0, .ref u21, .ref u22, .ref u23, .ref u24, .int 0, .ref u25, .ref u26, .ref u27, .ref u28, .int 0, .ref u29, .ref u30, .int 0, .int 0, .ref u31, .int 0, .int 0, .int 0, .ref u32, .ref u33, .ref u34, .int 0, .int 0, .ref u35, .ref u36, .ref u37, .ref u38, .ref u39, .ref u40, .ref u41, .ref u42, .ref u43, .ref u44, .int 0, .ref u45, .ref u46, .ref u47])), (h1, .inl (k1, 600, .inl f_3361))] H := by rw [e_f_3361]; exact hP
  have hD : va_D A [(h0, .inr (13, [.ref h1, .int 10, .ref u0, .ref u1, .int 0, .ref u2, .ref u3, .ref u4, .ref u5, .ref u6, .ref u7, .ref u8, .ref u9, .int 0, .ref u10, .ref u11, .int 0, .ref u12, .int (-1), .ref u13, .int 0, .int 0, .ref u14, .int 0, .int 0, .ref u15, .ref u16, .ref u17, .ref u18, .ref u19, .int 0, .ref u20, .int 0, .int 0, .int 0, .int 0, .int 0, .int 0, .ref u21, .ref u22, .ref u23, .ref u24, .int 0, .ref u25, .ref u26, .ref u27, .ref u28, .int 0, .ref u29, .ref u30, .int 0, .int 0, .ref u31, .int 0, .int 0, .int 0, .ref u32, .ref u33, .ref u34, .int 0, .int 0, .ref u35, .ref u36, .ref u37, .ref u38, .ref u39, .ref u40, .ref u41, .ref u42, .ref u43, .ref u44, .int 0, .ref u45, .ref u46, .ref u47])), (h1, .inl (k1, 600, .inl f_3361))] := by rw [e_f_3361]; exact hD
  refine lv_aload_n hx hb dX13_lay_20 rfl (lv_at hl 1 rfl) ?_
  refine lv_dup hx hb dX13_lay_21 rfl ?_
  refine va_get (D := (dC, dI)) (ci := 13) (v := .int 10) (C := RX13) (T := TX13) (N := 75) hx hb hG zuX13 hown hK hP 0 rfl rfl 1 (by decide) (hG _ zw303) (fun _ h9 => h9) rfl dX13_lay_22 ?_
  refine lv_iconst (v := 1) hx hb dX13_lay_25 (by decide) ?_
  refine lv_iadd hx hb dX13_lay_26 ?_
  refine lv_topi (fun z_3362 e_z_3362 => ?_)
  obtain rfl : z_3362 = (11 : Int32) := e_z_3362.trans (by decide)
  refine va_put (D := (dC, dI)) (ci := 13) (v := .int 11) (ty := .int) (C := RX13) (T := TX13) (N := 75) hx hb hG zuX13 tyX13 tyX13_ok nmX13 hown hK hP hD hS 0 rfl rfl 1 (by decide) (hG _ zw303) (fun _ h9 => h9) rfl (by decide +kernel) rfl rfl (Nat.le_of_ble_eq_true rfl) dX13_lay_27 (fun H locs hP hD hS => ?_)
  have hP : va_P (dC, dI) vwCl [(h0, .inr (13, [.ref h1, .int 11, .ref u0, .ref u1, .int 0, .ref u2, .ref u3, .ref u4, .ref u5, .ref u6, .ref u7, .ref u8, .ref u9, .int 0, .ref u10, .ref u11, .int 0, .ref u12, .int (-1), .ref u13, .int 0, .int 0, .ref u14, .int 0, .int 0, .ref u15, .ref u16, .ref u17, .ref u18, .ref u19, .int 0, .ref u20, .int 0, .int 0, .int 0, .int 0, .int 0, .int 0, .ref u21, .ref u22, .ref u23, .ref u24, .int 0, .ref u25, .ref u26, .ref u27, .ref u28, .int 0, .ref u29, .ref u30, .int 0, .int 0, .ref u31, .int 0, .int 0, .int 0, .ref u32, .ref u33, .ref u34, .int 0, .int 0, .ref u35, .ref u36, .ref u37, .ref u38, .ref u39, .ref u40, .ref u41, .ref u42, .ref u43, .ref u44, .int 0, .ref u45, .ref u46, .ref u47])), (h1, .inl (k1, 600, .inl f_3361))] H := hP
  have hD : va_D A [(h0, .inr (13, [.ref h1, .int 11, .ref u0, .ref u1, .int 0, .ref u2, .ref u3, .ref u4, .ref u5, .ref u6, .ref u7, .ref u8, .ref u9, .int 0, .ref u10, .ref u11, .int 0, .ref u12, .int (-1), .ref u13, .int 0, .int 0, .ref u14, .int 0, .int 0, .ref u15, .ref u16, .ref u17, .ref u18, .ref u19, .int 0, .ref u20, .int 0, .int 0, .int 0, .int 0, .int 0, .int 0, .ref u21, .ref u22, .ref u23, .ref u24, .int 0, .ref u25, .ref u26, .ref u27, .ref u28, .int 0, .ref u29, .ref u30, .int 0, .int 0, .ref u31, .int 0, .int 0, .int 0, .ref u32, .ref u33, .ref u34, .int 0, .int 0, .ref u35, .ref u36, .ref u37, .ref u38, .ref u39, .ref u40, .ref u41, .ref u42, .ref u43, .ref u44, .int 0, .ref u45, .ref u46, .ref u47])), (h1, .inl (k1, 600, .inl f_3361))] := hD
  refine lv_iinc (v := 0) (lv' := [(2, .int 0), (0, .ref h0), (1, .int s0)]) hx hb dX13_lay_30 hl (k := 0) rfl (by decide) (by decide) rfl (fun ls hl => ?_)
  refine lv_goto (tgt := 3) hx hb dX13_lay_33 (by decide) ?_
  refine lv_iload_n hx hb dX13_lay_3 rfl (lv_at hl 0 rfl) ?_
  refine lv_if_lt (tgt := 36) hx hb dX13_lay_4 (by decide) (fun c_3363 => absurd c_3363 (by decide)) (fun c_3363 => ?_)
  refine lv_aload_n hx hb dX13_lay_7 rfl (lv_at hl 1 rfl) ?_
  refine va_get (D := (dC, dI)) (ci := 13) (v := .ref h1) (C := RX13) (T := TX13) (N := 75) hx hb hG zuX13 hown hK hP 0 rfl rfl 0 (by decide) (hG _ zw209) (fun _ h9 => h9) rfl dX13_lay_8 ?_
  refine lv_aload_n hx hb dX13_lay_11 rfl (lv_at hl 1 rfl) ?_
  refine va_get (D := (dC, dI)) (ci := 13) (v := .int 11) (C := RX13) (T := TX13) (N := 75) hx hb hG zuX13 hown hK hP 0 rfl rfl 1 (by decide) (hG _ zw303) (fun _ h9 => h9) rfl dX13_lay_12 ?_
  refine lv_iload_n hx hb dX13_lay_15 rfl (lv_at hl 2 rfl) ?_
  refine lv_iload_n hx hb dX13_lay_16 rfl (lv_at hl 0 rfl) ?_
  refine lv_ishr hx hb dX13_lay_17 ?_
  refine lv_topi (fun z_3364 e_z_3364 => ?_)
  refine lv_i2b hx hb dX13_lay_18 rfl ?_
  refine lv_topi (fun z_3365 e_z_3365 => ?_)
  refine va_bast hx hb hK hP hD hS 1 0 rfl rfl (zin_lit (by decide)) dX13_lay_19 (fun H locs hP hD hS => ?_)
  obtain ⟨f_3366, e_f_3366⟩ : ∃ z : Nat → Int32, z = upd f_3361 11 (vp_nar .byte z_3365) := ⟨_, rfl⟩
  have hP : va_P (dC, dI) vwCl [(h0, .inr (13, [.ref h1, .int 11, .ref u0, .ref u1, .int 0, .ref u2, .ref u3, .ref u4, .ref u5, .ref u6, .ref u7, .ref u8, .ref u9, .int 0, .ref u10, .ref u11, .int 0, .ref u12, .int (-1), .ref u13, .int 0, .int 0, .ref u14, .int 0, .int 0, .ref u15, .ref u16, .ref u17, .ref u18, .ref u19, .int 0, .ref u20, .int 0, .int 0, .int 0, .int 0, .int 0, .int 0, .ref u21, .ref u22, .ref u23, .ref u24, .int 0, .ref u25, .ref u26, .ref u27, .ref u28, .int 0, .ref u29, .ref u30, .int 0, .int 0, .ref u31, .int 0, .int 0, .int 0, .ref u32, .ref u33, .ref u34, .int 0, .int 0, .ref u35, .ref u36, .ref u37, .ref u38, .ref u39, .ref u40, .ref u41, .ref u42, .ref u43, .ref u44, .int 0, .ref u45, .ref u46, .ref u47])), (h1, .inl (k1, 600, .inl f_3366))] H := by rw [e_f_3366]; exact hP
  have hD : va_D A [(h0, .inr (13, [.ref h1, .int 11, .ref u0, .ref u1, .int 0, .ref u2, .ref u3, .ref u4, .ref u5, .ref u6, .ref u7, .ref u8, .ref u9, .int 0, .ref u10, .ref u11, .int 0, .ref u12, .int (-1), .ref u13, .int 0, .int 0, .ref u14, .int 0, .int 0, .ref u15, .ref u16, .ref u17, .ref u18, .ref u19, .int 0, .ref u20, .int 0, .int 0, .int 0, .int 0, .int 0, .int 0, .ref u21, .ref u22, .ref u23, .ref u24, .int 0, .ref u25, .ref u26, .ref u27, .ref u28, .int 0, .ref u29, .ref u30, .int 0, .int 0, .ref u31, .int 0, .int 0, .int 0, .ref u32, .ref u33, .ref u34, .int 0, .int 0, .ref u35, .ref u36, .ref u37, .ref u38, .ref u39, .ref u40, .ref u41, .ref u42, .ref u43, .ref u44, .int 0, .ref u45, .ref u46, .ref u47])), (h1, .inl (k1, 600, .inl f_3366))] := by rw [e_f_3366]; exact hD
  refine lv_aload_n hx hb dX13_lay_20 rfl (lv_at hl 1 rfl) ?_
  refine lv_dup hx hb dX13_lay_21 rfl ?_
  refine va_get (D := (dC, dI)) (ci := 13) (v := .int 11) (C := RX13) (T := TX13) (N := 75) hx hb hG zuX13 hown hK hP 0 rfl rfl 1 (by decide) (hG _ zw303) (fun _ h9 => h9) rfl dX13_lay_22 ?_
  refine lv_iconst (v := 1) hx hb dX13_lay_25 (by decide) ?_
  refine lv_iadd hx hb dX13_lay_26 ?_
  refine lv_topi (fun z_3367 e_z_3367 => ?_)
  obtain rfl : z_3367 = (12 : Int32) := e_z_3367.trans (by decide)
  refine va_put (D := (dC, dI)) (ci := 13) (v := .int 12) (ty := .int) (C := RX13) (T := TX13) (N := 75) hx hb hG zuX13 tyX13 tyX13_ok nmX13 hown hK hP hD hS 0 rfl rfl 1 (by decide) (hG _ zw303) (fun _ h9 => h9) rfl (by decide +kernel) rfl rfl (Nat.le_of_ble_eq_true rfl) dX13_lay_27 (fun H locs hP hD hS => ?_)
  have hP : va_P (dC, dI) vwCl [(h0, .inr (13, [.ref h1, .int 12, .ref u0, .ref u1, .int 0, .ref u2, .ref u3, .ref u4, .ref u5, .ref u6, .ref u7, .ref u8, .ref u9, .int 0, .ref u10, .ref u11, .int 0, .ref u12, .int (-1), .ref u13, .int 0, .int 0, .ref u14, .int 0, .int 0, .ref u15, .ref u16, .ref u17, .ref u18, .ref u19, .int 0, .ref u20, .int 0, .int 0, .int 0, .int 0, .int 0, .int 0, .ref u21, .ref u22, .ref u23, .ref u24, .int 0, .ref u25, .ref u26, .ref u27, .ref u28, .int 0, .ref u29, .ref u30, .int 0, .int 0, .ref u31, .int 0, .int 0, .int 0, .ref u32, .ref u33, .ref u34, .int 0, .int 0, .ref u35, .ref u36, .ref u37, .ref u38, .ref u39, .ref u40, .ref u41, .ref u42, .ref u43, .ref u44, .int 0, .ref u45, .ref u46, .ref u47])), (h1, .inl (k1, 600, .inl f_3366))] H := hP
  have hD : va_D A [(h0, .inr (13, [.ref h1, .int 12, .ref u0, .ref u1, .int 0, .ref u2, .ref u3, .ref u4, .ref u5, .ref u6, .ref u7, .ref u8, .ref u9, .int 0, .ref u10, .ref u11, .int 0, .ref u12, .int (-1), .ref u13, .int 0, .int 0, .ref u14, .int 0, .int 0, .ref u15, .ref u16, .ref u17, .ref u18, .ref u19, .int 0, .ref u20, .int 0, .int 0, .int 0, .int 0, .int 0, .int 0, .ref u21, .ref u22, .ref u23, .ref u24, .int 0, .ref u25, .ref u26, .ref u27, .ref u28, .int 0, .ref u29, .ref u30, .int 0, .int 0, .ref u31, .int 0, .int 0, .int 0, .ref u32, .ref u33, .ref u34, .int 0, .int 0, .ref u35, .ref u36, .ref u37, .ref u38, .ref u39, .ref u40, .ref u41, .ref u42, .ref u43, .ref u44, .int 0, .ref u45, .ref u46, .ref u47])), (h1, .inl (k1, 600, .inl f_3366))] := hD
  refine lv_iinc (v := (-8)) (lv' := [(2, .int (-8)), (0, .ref h0), (1, .int s0)]) hx hb dX13_lay_30 hl (k := 0) rfl (by decide) (by decide) rfl (fun ls hl => ?_)
  refine lv_goto (tgt := 3) hx hb dX13_lay_33 (by decide) ?_
  refine lv_iload_n hx hb dX13_lay_3 rfl (lv_at hl 0 rfl) ?_
  refine lv_if_lt (tgt := 36) hx hb dX13_lay_4 (by decide) (fun c_3368 => ?_) (fun c_3368 => absurd c_3368 (by decide))
  have hP9 := hP.sub (ws' := [(h0, .inr (13, [.ref h1, .int 12, .ref u0, .ref u1, .int 0, .ref u2, .ref u3, .ref u4, .ref u5, .ref u6, .ref u7, .ref u8, .ref u9, .int 0, .ref u10, .ref u11, .int 0, .ref u12, .int (-1), .ref u13, .int 0, .int 0, .ref u14, .int 0, .int 0, .ref u15, .ref u16, .ref u17, .ref u18, .ref u19, .int 0, .ref u20, .int 0, .int 0, .int 0, .int 0, .int 0, .int 0, .ref u21, .ref u22, .ref u23, .ref u24, .int 0, .ref u25, .ref u26, .ref u27, .ref u28, .int 0, .ref u29, .ref u30, .int 0, .int 0, .ref u31, .int 0, .int 0, .int 0, .ref u32, .ref u33, .ref u34, .int 0, .int 0, .ref u35, .ref u36, .ref u37, .ref u38, .ref u39, .ref u40, .ref u41, .ref u42, .ref u43, .ref u44, .int 0, .ref u45, .ref u46, .ref u47])), (h1, .inl (k1, 600, .inl f_3366))]) [0, 1] rfl
  have hD9 := hD.sub (ws' := [(h0, .inr (13, [.ref h1, .int 12, .ref u0, .ref u1, .int 0, .ref u2, .ref u3, .ref u4, .ref u5, .ref u6, .ref u7, .ref u8, .ref u9, .int 0, .ref u10, .ref u11, .int 0, .ref u12, .int (-1), .ref u13, .int 0, .int 0, .ref u14, .int 0, .int 0, .ref u15, .ref u16, .ref u17, .ref u18, .ref u19, .int 0, .ref u20, .int 0, .int 0, .int 0, .int 0, .int 0, .int 0, .ref u21, .ref u22, .ref u23, .ref u24, .int 0, .ref u25, .ref u26, .ref u27, .ref u28, .int 0, .ref u29, .ref u30, .int 0, .int 0, .ref u31, .int 0, .int 0, .int 0, .ref u32, .ref u33, .ref u34, .int 0, .int 0, .ref u35, .ref u36, .ref u37, .ref u38, .ref u39, .ref u40, .ref u41, .ref u42, .ref u43, .ref u44, .int 0, .ref u45, .ref u46, .ref u47])), (h1, .inl (k1, 600, .inl f_3366))]) [0, 1] (by decide) rfl
  have hK9 := hK.sub (tys' := [(k1, .byte)]) [0] rfl
  refine W.widen (k := 0) (n := 0) (by decide) (by decide) ?_
  exact W.vret hx hb hr (fun t ht hW => ⟨⟨(), rfl, trivial, f_3366, by rw [ht]; exact hP9, va_K.moved hW.alike hK9, hD9⟩, hS.F ht⟩) hS.2.2 dX13_lay_36
set_option maxHeartbeats 4000000 in
set_option maxRecDepth 100000 in
theorem kX13_lay_3 (l : Launch) (dC : Nat → ClassId) (dI : Nat → Nat → Nat) (h0 h1 u0 u1 u2 u3 u4 u5 u6 u7 u8 u9 u10 u11 u12 u13 u14 u15 u16 u17 u18 u19 u20 u21 u22 u23 u24 u25 u26 u27 u28 u29 u30 u31 u32 u33 u34 u35 u36 u37 u38 u39 u40 u41 u42 u43 u44 u45 u46 u47 : Nat) (k1 : ClassId) (sz : Nat) (s0 : Int32) (s1 : Nat → Int32) : Met l yX13_lay (zw yX13_lay cX13_lay 3 none) { frames := 0, cells := 0, slots := 0, locals := 0 } (zPc dC dI [.ref h0, .int s0] sz [(h0, .inr (13, [.ref h1, .int 12, .ref u0, .ref u1, .int 0, .ref u2, .ref u3, .ref u4, .ref u5, .ref u6, .ref u7, .ref u8, .ref u9, .int 0, .ref u10, .ref u11, .int 0, .ref u12, .int (-1), .ref u13, .int 0, .int 0, .ref u14, .int 0, .int 0, .ref u15, .ref u16, .ref u17, .ref u18, .ref u19, .int 0, .ref u20, .int 0, .int 0, .int 0, .int 0, .int 0, .int 0, .ref u21, .ref u22, .ref u23, .ref u24, .int 0, .ref u25, .ref u26, .ref u27, .ref u28, .int 0, .ref u29, .ref u30, .int 0, .int 0, .ref u31, .int 0, .int 0, .int 0, .ref u32, .ref u33, .ref u34, .int 0, .int 0, .ref u35, .ref u36, .ref u37, .ref u38, .ref u39, .ref u40, .ref u41, .ref u42, .ref u43, .ref u44, .int 0, .ref u45, .ref u46, .ref u47])), (h1, .inl (k1, 600, .inl s1))] [(k1, .byte)]) (va_Qv (fun _ : Unit => True) (fun (_ : Unit) (t : State) => ∃ (f0 : Nat → Int32), va_P (dC, dI) vwCl [(h0, .inr (13, [.ref h1, .int 16, .ref u0, .ref u1, .int 0, .ref u2, .ref u3, .ref u4, .ref u5, .ref u6, .ref u7, .ref u8, .ref u9, .int 0, .ref u10, .ref u11, .int 0, .ref u12, .int (-1), .ref u13, .int 0, .int 0, .ref u14, .int 0, .int 0, .ref u15, .ref u16, .ref u17, .ref u18, .ref u19, .int 0, .ref u20, .int 0, .int 0, .int 0, .int 0, .int 0, .int 0, .ref u21, .ref u22, .ref u23, .ref u24, .int 0, .ref u25, .ref u26, .ref u27, .ref u28, .int 0, .ref u29, .ref u30, .int 0, .int 0, .ref u31, .int 0, .int 0, .int 0, .ref u32, .ref u33, .ref u34, .int 0, .int 0, .ref u35, .ref u36, .ref u37, .ref u38, .ref u39, .ref u40, .ref u41, .ref u42, .ref u43, .ref u44, .int 0, .ref u45, .ref u46, .ref u47])), (h1, .inl (k1, 600, .inl f0))] t.heap ∧ va_K (dC, dI) vwCl [(k1, .byte)] t ∧ va_D (va_A [(h0, .inr (13, [.ref h1, .int 12, .ref u0, .ref u1, .int 0, .ref u2, .ref u3, .ref u4, .ref u5, .ref u6, .ref u7, .ref u8, .ref u9, .int 0, .ref u10, .ref u11, .int 0, .ref u12, .int (-1), .ref u13, .int 0, .int 0, .ref u14, .int 0, .int 0, .ref u15, .ref u16, .ref u17, .ref u18, .ref u19, .int 0, .ref u20, .int 0, .int 0, .int 0, .int 0, .int 0, .int 0, .ref u21, .ref u22, .ref u23, .ref u24, .int 0, .ref u25, .ref u26, .ref u27, .ref u28, .int 0, .ref u29, .ref u30, .int 0, .int 0, .ref u31, .int 0, .int 0, .int 0, .ref u32, .ref u33, .ref u34, .int 0, .int 0, .ref u35, .ref u36, .ref u37, .ref u38, .ref u39, .ref u40, .ref u41, .ref u42, .ref u43, .ref u44, .int 0, .ref u45, .ref u46, .ref u47])), (h1, .inl (k1, 600, .inl s1))] sz) [(h0, .inr (13, [.ref h1, .int 16, .ref u0, .ref u1, .int 0, .ref u2, .ref u3, .ref u4, .ref u5, .ref u6, .ref u7, .ref u8, .ref u9, .int 0, .ref u10, .ref u11, .int 0, .ref u12, .int (-1), .ref u13, .int 0, .int 0, .ref u14, .int 0, .int 0, .ref u15, .ref u16, .ref u17, .ref u18, .ref u19, .int 0, .ref u20, .int 0, .int 0, .int 0, .int 0, .int 0, .int 0, .ref u21, .ref u22, .ref u23, .ref u24, .int 0, .ref u25, .ref u26, .ref u27, .ref u28, .int 0, .ref u29, .ref u30, .int 0, .int 0, .ref u31, .int 0, .int 0, .int 0, .ref u32, .ref u33, .ref u34, .int 0, .int 0, .ref u35, .ref u36, .ref u37, .ref u38, .ref u39, .ref u40, .ref u41, .ref u42, .ref u43, .ref u44, .int 0, .ref u45, .ref u46, .ref u47])), (h1, .inl (k1, 600, .inl f0))]) (va_A [(h0, .inr (13, [.ref h1, .int 12, .ref u0, .ref u1, .int 0, .ref u2, .ref u3, .ref u4, .ref u5, .ref u6, .ref u7, .ref u8, .ref u9, .int 0, .ref u10, .ref u11, .int 0, .ref u12, .int (-1), .ref u13, .int 0, .int 0, .ref u14, .int 0, .int 0, .ref u15, .ref u16, .ref u17, .ref u18, .ref u19, .int 0, .ref u20, .int 0, .int 0, .int 0, .int 0, .int 0, .int 0, .ref u21, .ref u22, .ref u23, .ref u24, .int 0, .ref u25, .ref u26, .ref u27, .ref u28, .int 0, .ref u29, .ref u30, .int 0, .int 0, .ref u31, .int 0, .int 0, .int 0, .ref u32, .ref u33, .ref u34, .int 0, .int 0, .ref u35, .ref u36, .ref u37, .ref u38, .ref u39, .ref u40, .ref u41, .ref u42, .ref u43, .ref u44, .int 0, .ref u45, .ref u46, .ref u47])), (h1, .inl (k1, 600, .inl s1))] sz)) 0 0 (va_A [(h0, .inr (13, [.ref h1, .int 12, .ref u0, .ref u1, .int 0, .ref u2, .ref u3, .ref u4, .ref u5, .ref u6, .ref u7, .ref u8, .ref u9, .int 0, .ref u10, .ref u11, .int 0, .ref u12, .int (-1), .ref u13, .int 0, .int 0, .ref u14, .int 0, .int 0, .ref u15, .ref u16, .ref u17, .ref u18, .ref u19, .int 0, .ref u20, .int 0, .int 0, .int 0, .int 0, .int 0, .int 0, .ref u21, .ref u22, .ref u23, .ref u24, .int 0, .ref u25, .ref u26, .ref u27, .ref u28, .int 0, .ref u29, .ref u30, .int 0, .int 0, .ref u31, .int 0, .int 0, .int 0, .ref u32, .ref u33, .ref u34, .int 0, .int 0, .ref u35, .ref u36, .ref u37, .ref u38, .ref u39, .ref u40, .ref u41, .ref u42, .ref u43, .ref u44, .int 0, .ref u45, .ref u46, .ref u47])), (h1, .inl (k1, 600, .inl s1))] sz) := by
  refine Met.ofW (cc := cX13_lay) (maxL := 3) (ret := none) (by decide) rfl ?_
  intro p e s m args below meth c s₁ B hml hv
  obtain ⟨rfl, hsz, hP, hK, hD0, hE, hZ⟩ := hv
  have hx := B.exec
  have hb := B.bytes
  have hr := B.returns
  have hG : ∀ w ∈ zG, w.before _ s = true := fun w h => atoms_spec (ws := (zw yX13_lay cX13_lay 3 none)) B.pre w (List.mem_cons_of_mem _ h)
  have hown : s.vm.findClass RX13 = some m.cls := findClass_of_methodNamed B.named
  have hlocks := B.notSynchronized
  subst hsz
  have hD := hD0.self (sz := s.heap.size)
  generalize hAe : va_A [(h0, .inr (13, [.ref h1, .int 12, .ref u0, .ref u1, .int 0, .ref u2, .ref u3, .ref u4, .ref u5, .ref u6, .ref u7, .ref u8, .ref u9, .int 0, .ref u10, .ref u11, .int 0, .ref u12, .int (-1), .ref u13, .int 0, .int 0, .ref u14, .int 0, .int 0, .ref u15, .ref u16, .ref u17, .ref u18, .ref u19, .int 0, .ref u20, .int 0, .int 0, .int 0, .int 0, .int 0, .int 0, .ref u21, .ref u22, .ref u23, .ref u24, .int 0, .ref u25, .ref u26, .ref u27, .ref u28, .int 0, .ref u29, .ref u30, .int 0, .int 0, .ref u31, .int 0, .int 0, .int 0, .ref u32, .ref u33, .ref u34, .int 0, .int 0, .ref u35, .ref u36, .ref u37, .ref u38, .ref u39, .ref u40, .ref u41, .ref u42, .ref u43, .ref u44, .int 0, .ref u45, .ref u46, .ref u47])), (h1, .inl (k1, 600, .inl s1))] s.heap.size = A at hD hZ ⊢
  have hA : ∀ q : Nat, s.heap.size ≤ q → A q := fun q h => by rw [← hAe]; exact Or.inr h
  have hS : va_S A s.heap s.heap [] := va_S.rf
  have hl := lv_entry ([.ref h0, .int s0]) (n := 3) (Nat.le_of_ble_eq_true rfl)
  rw [lg_entry_eq]
  generalize (lg_sl ([.ref h0, .int s0]) ++ List.replicate (3 - (lg_sl ([.ref h0, .int s0])).length) Slot.unset).toArray = ls at hl ⊢
  have hl : lv_has ls 3 [(0, .ref h0), (1, .int s0)] := hl
  refine lv_bipush (v := 24) hx hb dX13_lay_0 (by decide) ?_
  refine lv_istore_n (lv' := [(2, .int 24), (0, .ref h0), (1, .int s0)]) hx hb dX13_lay_2 rfl hl (by decide) rfl (fun ls hl => ?_)
  refine lv_iload_n hx hb dX13_lay_3 rfl (lv_at hl 0 rfl) ?_
  refine lv_if_lt (tgt := 36) hx hb dX13_lay_4 (by decide) (fun c_3413 => absurd c_3413 (by decide)) (fun c_3413 => ?_)
  refine lv_aload_n hx hb dX13_lay_7 rfl (lv_at hl 1 rfl) ?_
  refine va_get (D := (dC, dI)) (ci := 13) (v := .ref h1) (C := RX13) (T := TX13) (N := 75) hx hb hG zuX13 hown hK hP 0 rfl rfl 0 (by decide) (hG _ zw209) (fun _ h9 => h9) rfl dX13_lay_8 ?_
  refine lv_aload_n hx hb dX13_lay_11 rfl (lv_at hl 1 rfl) ?_
  refine va_get (D := (dC, dI)) (ci := 13) (v := .int 12) (C := RX13) (T := TX13) (N := 75) hx hb hG zuX13 hown hK hP 0 rfl rfl 1 (by decide) (hG _ zw303) (fun _ h9 => h9) rfl dX13_lay_12 ?_
  refine lv_iload_n hx hb dX13_lay_15 rfl (lv_at hl 2 rfl) ?_
  refine lv_iload_n hx hb dX13_lay_16 rfl (lv_at hl 0 rfl) ?_
  refine lv_ishr hx hb dX13_lay_17 ?_
  refine lv_topi (fun z_3414 e_z_3414 => ?_)
  refine lv_i2b hx hb dX13_lay_18 rfl ?_
  refine lv_topi (fun z_3415 e_z_3415 => ?_)
  refine va_bast hx hb hK hP hD hS 1 0 rfl rfl (zin_lit (by decide)) dX13_lay_19 (fun H locs hP hD hS => ?_)
  obtain ⟨f_3416, e_f_3416⟩ : ∃ z : Nat → Int32, z = upd s1 12 (vp_nar .byte z_3415) := ⟨_, rfl⟩
  have hP : va_P (dC, dI) vwCl [(h0, .inr (13, [.ref h1, .int 12, .ref u0, .ref u1, .int 0, .ref u2, .ref u3, .ref u4, .ref u5, .ref u6, .ref u7, .ref u8, .ref u9, .int 0, .ref u10, .ref u11, .int 0, .ref u12, .int (-1), .ref u13, .int 0, .int 0, .ref u14, .int 0, .int 0, .ref u15, .ref u16, .ref u17, .ref u18, .ref u19, .int 0, .ref u20, .int 0, .int 0, .int 0, .int 0, .int 0, .int 0, .ref u21, .ref u22, .ref u23, .ref u24, .int 0, .ref u25, .ref u26, .ref u27, .ref u28, .int 0, .ref u29, .ref u30, .int 0, .int 0, .ref u31, .int 0, .int 0, .int 0, .ref u32, .ref u33, .ref u34, .int 0, .int 0, .ref u35, .ref u36, .ref u37, .ref u38, .ref u39, .ref u40, .ref u41, .ref u42, .ref u43, .ref u44, .int 0, .ref u45, .ref u46, .ref u47])), (h1, .inl (k1, 600, .inl f_3416))] H := by rw [e_f_3416]; exact hP
  have hD : va_D A [(h0, .inr (13, [.ref h1, .int 12, .ref u0, .ref u1, .int 0, .ref u2, .ref u3, .ref u4, .ref u5, .ref u6, .ref u7, .ref u8, .ref u9, .int 0, .ref u10, .ref u11, .int 0, .ref u12, .int (-1), .ref u13, .int 0, .int 0, .ref u14, .int 0, .int 0, .ref u15, .ref u16, .ref u17, .ref u18, .ref u19, .int 0, .ref u20, .int 0, .int 0, .int 0, .int 0, .int 0, .int 0, .ref u21, .ref u22, .ref u23, .ref u24, .int 0, .ref u25, .ref u26, .ref u27, .ref u28, .int 0, .ref u29, .ref u30, .int 0, .int 0, .ref u31, .int 0, .int 0, .int 0, .ref u32, .ref u33, .ref u34, .int 0, .int 0, .ref u35, .ref u36, .ref u37, .ref u38, .ref u39, .ref u40, .ref u41, .ref u42, .ref u43, .ref u44, .int 0, .ref u45, .ref u46, .ref u47])), (h1, .inl (k1, 600, .inl f_3416))] := by rw [e_f_3416]; exact hD
  refine lv_aload_n hx hb dX13_lay_20 rfl (lv_at hl 1 rfl) ?_
  refine lv_dup hx hb dX13_lay_21 rfl ?_
  refine va_get (D := (dC, dI)) (ci := 13) (v := .int 12) (C := RX13) (T := TX13) (N := 75) hx hb hG zuX13 hown hK hP 0 rfl rfl 1 (by decide) (hG _ zw303) (fun _ h9 => h9) rfl dX13_lay_22 ?_
  refine lv_iconst (v := 1) hx hb dX13_lay_25 (by decide) ?_
  refine lv_iadd hx hb dX13_lay_26 ?_
  refine lv_topi (fun z_3417 e_z_3417 => ?_)
  obtain rfl : z_3417 = (13 : Int32) := e_z_3417.trans (by decide)
  refine va_put (D := (dC, dI)) (ci := 13) (v := .int 13) (ty := .int) (C := RX13) (T := TX13) (N := 75) hx hb hG zuX13 tyX13 tyX13_ok nmX13 hown hK hP hD hS 0 rfl rfl 1 (by decide) (hG _ zw303) (fun _ h9 => h9) rfl (by decide +kernel) rfl rfl (Nat.le_of_ble_eq_true rfl) dX13_lay_27 (fun H locs hP hD hS => ?_)
  have hP : va_P (dC, dI) vwCl [(h0, .inr (13, [.ref h1, .int 13, .ref u0, .ref u1, .int 0, .ref u2, .ref u3, .ref u4, .ref u5, .ref u6, .ref u7, .ref u8, .ref u9, .int 0, .ref u10, .ref u11, .int 0, .ref u12, .int (-1), .ref u13, .int 0, .int 0, .ref u14, .int 0, .int 0, .ref u15, .ref u16, .ref u17, .ref u18, .ref u19, .int 0, .ref u20, .int 0, .int 0, .int 0, .int 0, .int 0, .int 0, .ref u21, .ref u22, .ref u23, .ref u24, .int 0, .ref u25, .ref u26, .ref u27, .ref u28, .int 0, .ref u29, .ref u30, .int 0, .int 0, .ref u31, .int 0, .int 0, .int 0, .ref u32, .ref u33, .ref u34, .int 0, .int 0, .ref u35, .ref u36, .ref u37, .ref u38, .ref u39, .ref u40, .ref u41, .ref u42, .ref u43, .ref u44, .int 0, .ref u45, .ref u46, .ref u47])), (h1, .inl (k1, 600, .inl f_3416))] H := hP
  have hD : va_D A [(h0, .inr (13, [.ref h1, .int 13, .ref u0, .ref u1, .int 0, .ref u2, .ref u3, .ref u4, .ref u5, .ref u6, .ref u7, .ref u8, .ref u9, .int 0, .ref u10, .ref u11, .int 0, .ref u12, .int (-1), .ref u13, .int 0, .int 0, .ref u14, .int 0, .int 0, .ref u15, .ref u16, .ref u17, .ref u18, .ref u19, .int 0, .ref u20, .int 0, .int 0, .int 0, .int 0, .int 0, .int 0, .ref u21, .ref u22, .ref u23, .ref u24, .int 0, .ref u25, .ref u26, .ref u27, .ref u28, .int 0, .ref u29, .ref u30, .int 0, .int 0, .ref u31, .int 0, .int 0, .int 0, .ref u32, .ref u33, .ref u34, .int 0, .int 0, .ref u35, .ref u36, .ref u37, .ref u38, .ref u39, .ref u40, .ref u41, .ref u42, .ref u43, .ref u44, .int 0, .ref u45, .ref u46, .ref u47])), (h1, .inl (k1, 600, .inl f_3416))] := hD
  refine lv_iinc (v := 16) (lv' := [(2, .int 16), (0, .ref h0), (1, .int s0)]) hx hb dX13_lay_30 hl (k := 0) rfl (by decide) (by decide) rfl (fun ls hl => ?_)
  refine lv_goto (tgt := 3) hx hb dX13_lay_33 (by decide) ?_
  refine lv_iload_n hx hb dX13_lay_3 rfl (lv_at hl 0 rfl) ?_
  refine lv_if_lt (tgt := 36) hx hb dX13_lay_4 (by decide) (fun c_3418 => absurd c_3418 (by decide)) (fun c_3418 => ?_)
  refine lv_aload_n hx hb dX13_lay_7 rfl (lv_at hl 1 rfl) ?_
  refine va_get (D := (dC, dI)) (ci := 13) (v := .ref h1) (C := RX13) (T := TX13) (N := 75) hx hb hG zuX13 hown hK hP 0 rfl rfl 0 (by decide) (hG _ zw209) (fun _ h9 => h9) rfl dX13_lay_8 ?_
  refine lv_aload_n hx hb dX13_lay_11 rfl (lv_at hl 1 rfl) ?_
  refine va_get (D := (dC, dI)) (ci := 13) (v := .int 13) (C := RX13) (T := TX13) (N := 75) hx hb hG zuX13 hown hK hP 0 rfl rfl 1 (by decide) (hG _ zw303) (fun _ h9 => h9) rfl dX13_lay_12 ?_
  refine lv_iload_n hx hb dX13_lay_15 rfl (lv_at hl 2 rfl) ?_
  refine lv_iload_n hx hb dX13_lay_16 rfl (lv_at hl 0 rfl) ?_
  refine lv_ishr hx hb dX13_lay_17 ?_
  refine lv_topi (fun z_3419 e_z_3419 => ?_)
  refine lv_i2b hx hb dX13_lay_18 rfl ?_
  refine lv_topi (fun z_3420 e_z_3420 => ?_)
  refine va_bast hx hb hK hP hD hS 1 0 rfl rfl (zin_lit (by decide)) dX13_lay_19 (fun H locs hP hD hS => ?_)
  obtain ⟨f_3421, e_f_3421⟩ : ∃ z : Nat → Int32, z = upd f_3416 13 (vp_nar .byte z_3420) := ⟨_, rfl⟩
  have hP : va_P (dC, dI) vwCl [(h0, .inr (13, [.ref h1, .int 13, .ref u0, .ref u1, .int 0, .ref u2, .ref u3, .ref u4, .ref u5, .ref u6, .ref u7, .ref u8, .ref u9, .int 0, .ref u10, .ref u11, .int 0, .ref u12, .int (-1), .ref u13, .int 0, .int 0, .ref u14, .int 0, .int 0, .ref u15, .ref u16, .ref u17, .ref u18, .ref u19, .int 0, .ref u20, .int 0, .int 0, .int 0, .int 0, .int 0, .int 0, .ref u21, .ref u22, .ref u23, .ref u24, .int 0, .ref u25, .ref u26, .ref u27, .ref u28, .int 0, .ref u29, .ref u30, .int 0, .int 0, .ref u31, .int 0, .int 0, .int 0, .ref u32, .ref u33, .ref u34, .int 0, .int 0, .ref u35, .ref u36, .ref u37, .ref u38, .ref u39, .ref u40, .ref u41, .ref u42, .ref u43, .ref u44, .int 0, .ref u45, .ref u46, .ref u47])), (h1, .inl (k1, 600, .inl f_3421))] H := by rw [e_f_3421]; exact hP
  have hD : va_D A [(h0, .inr (13, [.ref h1, .int 13, .ref u0, .ref u1, .int 0, .ref u2, .ref u3, .ref u4, .ref u5, .ref u6, .ref u7, .ref u8, .ref u9, .int 0, .ref u10, .ref u11, .int 0, .ref u12, .int (-1), .ref u13, .int 0, .int 0, .ref u14, .int 0, .int 0, .ref u15, .ref u16, .ref u17, .ref u18, .ref u19, .int 0, .ref u20, .int 0, .int 0, .int 0, .int 0, .int 0, .int 0, .ref u21, .ref u22, .ref u23, .ref u24, .int 0, .ref u25, .ref u26, .ref u27, .ref u28, .int 0, .ref u29, .ref u30, .int 0, .int 0, .ref u31, .int 0, .int 0, .int 0, .ref u32, .ref u33, .ref u34, .int 0, .int 0, .ref u35, .ref u36, .ref u37, .ref u38, .ref u39, .ref u40, .ref u41, .ref u42, .ref u43, .ref u44, .int 0, .ref u45, .ref u46, .ref u47])), (h1, .inl (k1, 600, .inl f_3421))] := by rw [e_f_3421]; exact hD
  refine lv_aload_n hx hb dX13_lay_20 rfl (lv_at hl 1 rfl) ?_
  refine lv_dup hx hb dX13_lay_21 rfl ?_
  refine va_get (D := (dC, dI)) (ci := 13) (v := .int 13) (C := RX13) (T := TX13) (N := 75) hx hb hG zuX13 hown hK hP 0 rfl rfl 1 (by decide) (hG _ zw303) (fun _ h9 => h9) rfl dX13_lay_22 ?_
  refine lv_iconst (v := 1) hx hb dX13_lay_25 (by decide) ?_
  refine lv_iadd hx hb dX13_lay_26 ?_
  refine lv_topi (fun z_3422 e_z_3422 => ?_)
  obtain rfl : z_3422 = (14 : Int32) := e_z_3422.trans (by decide)
  refine va_put (D := (dC, dI)) (ci := 13) (v := .int 14) (ty := .int) (C := RX13) (T := TX13) (N := 75) hx hb hG zuX13 tyX13 tyX13_ok nmX13 hown hK hP hD hS 0 rfl rfl 1 (by decide) (hG _ zw303) (fun _ h9 => h9) rfl (by decide +kernel) rfl rfl (Nat.le_of_ble_eq_true rfl) dX13_lay_27 (fun H locs hP hD hS => ?_)
  have hP : va_P (dC, dI) vwCl [(h0, .inr (13, [.ref h1, .int 14, .ref u0, .ref u1, .int 0, .ref u2, .ref u3, .ref u4, .ref u5, .ref u6, .ref u7, .ref u8, .ref u9, .int 0, .ref u10, .ref u11, .int 0, .ref u12, .int (-1), .ref u13, .int 0, .int 0, .ref u14, .int 0, .int 0, .ref u15, .ref u16, .ref u17, .ref u18, .ref u19, .int 0, .ref u20, .int 0, .int 0, .int 0, .int 0, .int 0, .int 0, .ref u21, .ref u22, .ref u23, .ref u24, .int 0, .ref u25, .ref u26, .ref u27, .ref u28, .int 0, .ref u29, .ref u30, .int 0, .int 0, .ref u31, .int 0, .int 0, .int 0, .ref u32, .ref u33, .ref u34, .int 0, .int 0, .ref u35, .ref u36, .ref u37, .ref u38, .ref u39, .ref u40, .ref u41, .ref u42, .ref u43, .ref u44, .int 0, .ref u45, .ref u46, .ref u47])), (h1, .inl (k1, 600, .inl f_3421))] H := hP
  have hD : va_D A [(h0, .inr (13, [.ref h1, .int 14, .ref u0, .ref u1, .int 0, .ref u2, .ref u3, .ref u4, .ref u5, .ref u6, .ref u7, .ref u8, .ref u9, .int 0, .ref u10, .ref u11, .int 0, .ref u12, .int (-1), .ref u13, .int 0, .int 0, .ref u14, .int 0, .int 0, .ref u15, .ref u16, .ref u17, .ref u18, .ref u19, .int 0, .ref u20, .int 0, .int 0, .int 0, .int 0, .int 0, .int 0, .ref u21, .ref u22, .ref u23, .ref u24, .int 0, .ref u25, .ref u26, .ref u27, .ref u28, .int 0, .ref u29, .ref u30, .int 0, .int 0, .ref u31, .int 0, .int 0, .int 0, .ref u32, .ref u33, .ref u34, .int 0, .int 0, .ref u35, .ref u36, .ref u37, .ref u38, .ref u39, .ref u40, .ref u41, .ref u42, .ref u43, .ref u44, .int 0, .ref u45, .ref u46, .ref u47])), (h1, .inl (k1, 600, .inl f_3421))] := hD
  refine lv_iinc (v := 8) (lv' := [(2, .int 8), (0, .ref h0), (1, .int s0)]) hx hb dX13_lay_30 hl (k := 0) rfl (by decide) (by decide) rfl (fun ls hl => ?_)
  refine lv_goto (tgt := 3) hx hb dX13_lay_33 (by decide) ?_
  refine lv_iload_n hx hb dX13_lay_3 rfl (lv_at hl 0 rfl) ?_
  refine lv_if_lt (tgt := 36) hx hb dX13_lay_4 (by decide) (fun c_3423 => absurd c_3423 (by decide)) (fun c_3423 => ?_)
  refine lv_aload_n hx hb dX13_lay_7 rfl (lv_at hl 1 rfl) ?_
  refine va_get (D := (dC, dI)) (ci := 13) (v := .ref h1) (C := RX13) (T := TX13) (N := 75) hx hb hG zuX13 hown hK hP 0 rfl rfl 0 (by decide) (hG _ zw209) (fun _ h9 => h9) rfl dX13_lay_8 ?_
  refine lv_aload_n hx hb dX13_lay_11 rfl (lv_at hl 1 rfl) ?_
  refine va_get (D := (dC, dI)) (ci := 13) (v := .int 14) (C := RX13) (T := TX13) (N := 75) hx hb hG zuX13 hown hK hP 0 rfl rfl 1 (by decide) (hG _ zw303) (fun _ h9 => h9) rfl dX13_lay_12 ?_
  refine lv_iload_n hx hb dX13_lay_15 rfl (lv_at hl 2 rfl) ?_
  refine lv_iload_n hx hb dX13_lay_16 rfl (lv_at hl 0 rfl) ?_
  refine lv_ishr hx hb dX13_lay_17 ?_
  refine lv_topi (fun z_3424 e_z_3424 => ?_)
  refine lv_i2b hx hb dX13_lay_18 rfl ?_
  refine lv_topi (fun z_3425 e_z_3425 => ?_)
  refine va_bast hx hb hK hP hD hS 1 0 rfl rfl (zin_lit (by decide)) dX13_lay_19 (fun H locs hP hD hS => ?_)
  obtain ⟨f_3426, e_f_3426⟩ : ∃ z : Nat → Int32, z = upd f_3421 14 (vp_nar .byte z_3425) := ⟨_, rfl⟩
  have hP : va_P (dC, dI) vwCl [(h0, .inr (13, [.ref h1, .int 14, .ref u0, .ref u1, .int 0, .ref u2, .ref u3, .ref u4, .ref u5, .ref u6, .ref u7, .ref u8, .ref u9, .int 0, .ref u10, .ref u11, .int 0, .ref u12, .int (-1), .ref u13, .int 0, .int 0, .ref u14, .int 0, .int 0, .ref u15, .ref u16, .ref u17, .ref u18, .ref u19, .int 0, .ref u20, .int 0, .int 0, .int 0, .int 0, .int 0, .int 0, .ref u21, .ref u22, .ref u23, .ref u24, .int 0, .ref u25, .ref u26, .ref u27, .ref u28, .int 0, .ref u29, .ref u30, .int 0, .int 0, .ref u31, .int 0, .int 0, .int 0, .ref u32, .ref u33, .ref u34, .int 0, .int 0, .ref u35, .ref u36, .ref u37, .ref u38, .ref u39, .ref u40, .ref u41, .ref u42, .ref u43, .ref u44, .int 0, .ref u45, .ref u46, .ref u47])), (h1, .inl (k1, 600, .inl f_3426))] H := by rw [e_f_3426]; exact hP
  have hD : va_D A [(h0, .inr (13, [.ref h1, .int 14, .ref u0, .ref u1, .int 0, .ref u2, .ref u3, .ref u4, .ref u5, .ref u6, .ref u7, .ref u8, .ref u9, .int 0, .ref u10, .ref u11, .int 0, .ref u12, .int (-1), .ref u13, .int 0, .int 0, .ref u14, .int 0, .int 0, .ref u15, .ref u16, .ref u17, .ref u18, .ref u19, .int 0, .ref u20, .int 0, .int 0, .int 0, .int 0, .int 0, .int 0, .ref u21, .ref u22, .ref u23, .ref u24, .int 0, .ref u25, .ref u26, .ref u27, .ref u28, .int 0, .ref u29, .ref u30, .int 0, .int 0, .ref u31, .int 0, .int 0, .int 0, .ref u32, .ref u33, .ref u34, .int 0, .int 0, .ref u35, .ref u36, .ref u37, .ref u38, .ref u39, .ref u40, .ref u41, .ref u42, .ref u43, .ref u44, .int 0, .ref u45, .ref u46, .ref u47])), (h1, .inl (k1, 600, .inl f_3426))] := by rw [e_f_3426]; exact hD
  refine lv_aload_n hx hb dX13_lay_20 rfl (lv_at hl 1 rfl) ?_
  refine lv_dup hx hb dX13_lay_21 rfl ?_
  refine va_get (D := (dC, dI)) (ci := 13) (v := .int 14) (C := RX13) (T := TX13) (N := 75) hx hb hG zuX13 hown hK hP 0 rfl rfl 1 (by decide) (hG _ zw303) (fun _ h9 => h9) rfl dX13_lay_22 ?_
  refine lv_iconst (v := 1) hx hb dX13_lay_25 (by decide) ?_
  refine lv_iadd hx hb dX13_lay_26 ?_
  refine lv_topi (fun z_3427 e_z_3427 => ?_)
  obtain rfl : z_3427 = (15 : Int32) := e_z_3427.trans (by decide)
  refine va_put (D := (dC, dI)) (ci := 13) (v := .int 15) (ty := .int) (C := RX13) (T := TX13) (N := 75) hx hb hG zuX13 tyX13 tyX13_ok nmX13 hown hK hP hD hS 0 rfl rfl 1 (by decide) (hG _ zw303) (fun _ h9 => h9) rfl (by decide +kernel) rfl rfl (Nat.le_of_ble_eq_true rfl) dX13_lay_27 (fun H locs hP hD hS => ?_)
  have hP : va_P (dC, dI) vwCl [(h0, .inr (13, [.ref h1, .int 15, .ref u0, .ref u1, .int 0, .ref u2, .ref u3, .ref u4, .ref u5, .ref u6, .ref u7, .ref u8, .ref u9, .int 0, .ref u10, .ref u11, .int 0, .ref u12, .int (-1), .ref u13, .int 0, .int 0, .ref u14, .int 0, .int 0, .ref u15, .ref u16, .ref u17, .ref u18, .ref u19, .int 0, .ref u20, .int 0, .int 0, .int 0, .int 0, .int 0, .int 0, .ref u21, .ref u22, .ref u23, .ref u24, .int 0, .ref u25, .ref u26, .ref u27, .ref u28, .int 0, .ref u29, .ref u30, .int 0, .int 0, .ref u31, .int 0, .int 0, .int 0, .ref u32, .ref u33, .ref u34, .int 0, .int 0, .ref u35, .ref u36, .ref u37, .ref u38, .ref u39, .ref u40, .ref u41, .ref u42, .ref u43, .ref u44, .int 0, .ref u45, .ref u46, .ref u47])), (h1, .inl (k1, 600, .inl f_3426))] H := hP
  have hD : va_D A [(h0, .inr (13, [.ref h1, .int 15, .ref u0, .ref u1, .int 0, .ref u2, .ref u3, .ref u4, .ref u5, .ref u6, .ref u7, .ref u8, .ref u9, .int 0, .ref u10, .ref u11, .int 0, .ref u12, .int (-1), .ref u13, .int 0, .int 0, .ref u14, .int 0, .int 0, .ref u15, .ref u16, .ref u17, .ref u18, .ref u19, .int 0, .ref u20, .int 0, .int 0, .int 0, .int 0, .int 0, .int 0, .ref u21, .ref u22, .ref u23, .ref u24, .int 0, .ref u25, .ref u26, .ref u27, .ref u28, .int 0, .ref u29, .ref u30, .int 0, .int 0, .ref u31, .int 0, .int 0, .int 0, .ref u32, .ref u33, .ref u34, .int 0, .int 0, .ref u35, .ref u36, .ref u37, .ref u38, .ref u39, .ref u40, .ref u41, .ref u42, .ref u43, .ref u44, .int 0, .ref u45, .ref u46, .ref u47])), (h1, .inl (k1, 600, .inl f_3426))] := hD
  refine lv_iinc (v := 0) (lv' := [(2, .int 0), (0, .ref h0), (1, .int s0)]) hx hb dX13_lay_30 hl (k := 0) rfl (by decide) (by decide) rfl (fun ls hl => ?_)
  refine lv_goto (tgt := 3) hx hb dX13_lay_33 (by decide) ?_
  refine lv_iload_n hx hb dX13_lay_3 rfl (lv_at hl 0 rfl) ?_
  refine lv_if_lt (tgt := 36) hx hb dX13_lay_4 (by decide) (fun c_3428 => absurd c_3428 (by decide)) (fun c_3428 => ?_)
  refine lv_aload_n hx hb dX13_lay_7 rfl (lv_at hl 1 rfl) ?_
  refine va_get (D := (dC, dI)) (ci := 13) (v := .ref h1) (C := RX13) (T := TX13) (N := 75) hx hb hG zuX13 hown hK hP 0 rfl rfl 0 (by decide) (hG _ zw209) (fun _ h9 => h9) rfl dX13_lay_8 ?_
  refine lv_aload_n hx hb dX13_lay_11 rfl (lv_at hl 1 rfl) ?_
  refine va_get (D := (dC, dI)) (ci := 13) (v := .int 15) (C := RX13) (T := TX13) (N := 75) hx hb hG zuX13 hown hK hP 0 rfl rfl 1 (by decide) (hG _ zw303) (fun _ h9 => h9) rfl dX13_lay_12 ?_
  refine lv_iload_n hx hb dX13_lay_15 rfl (lv_at hl 2 rfl) ?_
  refine lv_iload_n hx hb dX13_lay_16 rfl (lv_at hl 0 rfl) ?_
  refine lv_ishr hx hb dX13_lay_17 ?_
  refine lv_topi (fun z_3429 e_z_3429 => ?_)
  refine lv_i2b hx hb dX13_lay_18 rfl ?_
  refine lv_topi (fun z_3430 e_z_3430 => ?_)
  refine va_bast hx hb hK hP hD hS 1 0 rfl rfl (zin_lit (by decide)) dX13_lay_19 (fun H locs hP hD hS => ?_)
  obtain ⟨f_3431, e_f_3431⟩ : ∃ z : Nat → Int32, z = upd f_3426 15 (vp_nar .byte z_3430) := ⟨_, rfl⟩
  have hP : va_P (dC, dI) vwCl [(h0, .inr (13, [.ref h1, .int 15, .ref u0, .ref u1, .int 0, .ref u2, .ref u3, .ref u4, .ref u5, .ref u6, .ref u7, .ref u8, .ref u9, .int 0, .ref u10, .ref u11, .int 0, .ref u12, .int (-1), .ref u13, .int 0, .int 0, .ref u14, .int 0, .int 0, .ref u15, .ref u16, .ref u17, .ref u18, .ref u19, .int 0, .ref u20, .int 0, .int 0, .int 0, .int 0, .int 0, .int 0, .ref u21, .ref u22, .ref u23, .ref u24, .int 0, .ref u25, .ref u26, .ref u27, .ref u28, .int 0, .ref u29, .ref u30, .int 0, .int 0, .ref u31, .int 0, .int 0, .int 0, .ref u32, .ref u33, .ref u34, .int 0, .int 0, .ref u35, .ref u36, .ref u37, .ref u38, .ref u39, .ref u40, .ref u41, .ref u42, .ref u43, .ref u44, .int 0, .ref u45, .ref u46, .ref u47])), (h1, .inl (k1, 600, .inl f_3431))] H := by rw [e_f_3431]; exact hP
  have hD : va_D A [(h0, .inr (13, [.ref h1, .int 15, .ref u0, .ref u1, .int 0, .ref u2, .ref u3, .ref u4, .ref u5, .ref u6, .ref u7, .ref u8, .ref u9, .int 0, .ref u10, .ref u11, .int 0, .ref u12, .int (-1), .ref u13, .int 0, .int 0, .ref u14, .int 0, .int 0, .ref u15, .ref u16, .ref u17, .ref u18, .ref u19, .int 0, .ref u20, .int 0, .int 0, .int 0, .int 0, .int 0, .int 0, .ref u21, .ref u22, .ref u23, .ref u24, .int 0, .ref u25, .ref u26, .ref u27, .ref u28, .int 0, .ref u29, .ref u30, .int 0, .int 0, .ref u31, .int 0, .int 0, .int 0, .ref u32, .ref u33, .ref u34, .int 0, .int 0, .ref u35, .ref u36, .ref u37, .ref u38, .ref u39, .ref u40, .ref u41, .ref u42, .ref u43, .ref u44, .int 0, .ref u45, .ref u46, .ref u47])), (h1, .inl (k1, 600, .inl f_3431))] := by rw [e_f_3431]; exact hD
  refine lv_aload_n hx hb dX13_lay_20 rfl (lv_at hl 1 rfl) ?_
  refine lv_dup hx hb dX13_lay_21 rfl ?_
  refine va_get (D := (dC, dI)) (ci := 13) (v := .int 15) (C := RX13) (T := TX13) (N := 75) hx hb hG zuX13 hown hK hP 0 rfl rfl 1 (by decide) (hG _ zw303) (fun _ h9 => h9) rfl dX13_lay_22 ?_
  refine lv_iconst (v := 1) hx hb dX13_lay_25 (by decide) ?_
  refine lv_iadd hx hb dX13_lay_26 ?_
  refine lv_topi (fun z_3432 e_z_3432 => ?_)
  obtain rfl : z_3432 = (16 : Int32) := e_z_3432.trans (by decide)
  refine va_put (D := (dC, dI)) (ci := 13) (v := .int 16) (ty := .int) (C := RX13) (T := TX13) (N := 75) hx hb hG zuX13 tyX13 tyX13_ok nmX13 hown hK hP hD hS 0 rfl rfl 1 (by decide) (hG _ zw303) (fun _ h9 => h9) rfl (by decide +kernel) rfl rfl (Nat.le_of_ble_eq_true rfl) dX13_lay_27 (fun H locs hP hD hS => ?_)
  have hP : va_P (dC, dI) vwCl [(h0, .inr (13, [.ref h1, .int 16, .ref u0, .ref u1, .int 0, .ref u2, .ref u3, .ref u4, .ref u5, .ref u6, .ref u7, .ref u8, .ref u9, .int 0, .ref u10, .ref u11, .int 0, .ref u12, .int (-1), .ref u13, .int 0, .int 0, .ref u14, .int 0, .int 0, .ref u15, .ref u16, .ref u17, .ref u18, .ref u19, .int 0, .ref u20, .int 0, .int 0, .int 0, .int 0, .int 0, .int 0, .ref u21, .ref u22, .ref u23, .ref u24, .int 0, .ref u25, .ref u26, .ref u27, .ref u28, .int 0, .ref u29, .ref u30, .int 0, .int 0, .ref u31, .int 0, .int 0, .int 0, .ref u32, .ref u33, .ref u34, .int 0, .int 0, .ref u35, .ref u36, .ref u37, .ref u38, .ref u39, .ref u40, .ref u41, .ref u42, .ref u43, .ref u44, .int 0, .ref u45, .ref u46, .ref u47])), (h1, .inl (k1, 600, .inl f_3431))] H := hP
  have hD : va_D A [(h0, .inr (13, [.ref h1, .int 16, .ref u0, .ref u1, .int 0, .ref u2, .ref u3, .ref u4, .ref u5, .ref u6, .ref u7, .ref u8, .ref u9, .int 0, .ref u10, .ref u11, .int 0, .ref u12, .int (-1), .ref u13, .int 0, .int 0, .ref u14, .int 0, .int 0, .ref u15, .ref u16, .ref u17, .ref u18, .ref u19, .int 0, .ref u20, .int 0, .int 0, .int 0, .int 0, .int 0, .int 0, .ref u21, .ref u22, .ref u23, .ref u24, .int 0, .ref u25, .ref u26, .ref u27, .ref u28, .int 0, .ref u29, .ref u30, .int 0, .int 0, .ref u31, .int 0, .int 0, .int 0, .ref u32, .ref u33, .ref u34, .int 0, .int 0, .ref u35, .ref u36, .ref u37, .ref u38, .ref u39, .ref u40, .ref u41, .ref u42, .ref u43, .ref u44, .int 0, .ref u45, .ref u46, .ref u47])), (h1, .inl (k1, 600, .inl f_3431))] := hD
  refine lv_iinc (v := (-8)) (lv' := [(2, .int (-8)), (0, .ref h0), (1, .int s0)]) hx hb dX13_lay_30 hl (k := 0) rfl (by decide) (by decide) rfl (fun ls hl => ?_)
  refine lv_goto (tgt := 3) hx hb dX13_lay_33 (by decide) ?_
  refine lv_iload_n hx hb dX13_lay_3 rfl (lv_at hl 0 rfl) ?_
  refine lv_if_lt (tgt := 36) hx hb dX13_lay_4 (by decide) (fun c_3433 => ?_) (fun c_3433 => absurd c_3433 (by decide))
  have hP9 := hP.sub (ws' := [(h0, .inr (13, [.ref h1, .int 16, .ref u0, .ref u1, .int 0, .ref u2, .ref u3, .ref u4, .ref u5, .ref u6, .ref u7, .ref u8, .ref u9, .int 0, .ref u10, .ref u11, .int 0, .ref u12, .int (-1), .ref u13, .int 0, .int 0, .ref u14, .int 0, .int 0, .ref u15, .ref u16, .ref u17, .ref u18, .ref u19, .int 0, .ref u20, .int 0, .int 0, .int 0, .int 0, .int 0, .int 0, .ref u21, .ref u22, .ref u23, .ref u24, .int 0, .ref u25, .ref u26, .ref u27, .ref u28, .int 0, .ref u29, .ref u30, .int 0, .int 0, .ref u31, .int 0, .int 0, .int 0, .ref u32, .ref u33, .ref u34, .int 0, .int 0, .ref u35, .ref u36, .ref u37, .ref u38, .ref u39, .ref u40, .ref u41, .ref u42, .ref u43, .ref u44, .int 0, .ref u45, .ref u46, .ref u47])), (h1, .inl (k1, 600, .inl f_3431))]) [0, 1] rfl
  have hD9 := hD.sub (ws' := [(h0, .inr (13, [.ref h1, .int 16, .ref u0, .ref u1, .int 0, .ref u2, .ref u3, .ref u4, .ref u5, .ref u6, .ref u7, .ref u8, .ref u9, .int 0, .ref u10, .ref u11, .int 0, .ref u12, .int (-1), .ref u13, .int 0, .int 0, .ref u14, .int 0, .int 0, .ref u15, .ref u16, .ref u17, .ref u18, .ref u19, .int 0, .ref u20, .int 0, .int 0, .int 0, .int 0, .int 0, .int 0, .ref u21, .ref u22, .ref u23, .ref u24, .int 0, .ref u25, .ref u26, .ref u27, .ref u28, .int 0, .ref u29, .ref u30, .int 0, .int 0, .ref u31, .int 0, .int 0, .int 0, .ref u32, .ref u33, .ref u34, .int 0, .int 0, .ref u35, .ref u36, .ref u37, .ref u38, .ref u39, .ref u40, .ref u41, .ref u42, .ref u43, .ref u44, .int 0, .ref u45, .ref u46, .ref u47])), (h1, .inl (k1, 600, .inl f_3431))]) [0, 1] (by decide) rfl
  have hK9 := hK.sub (tys' := [(k1, .byte)]) [0] rfl
  refine W.widen (k := 0) (n := 0) (by decide) (by decide) ?_
  exact W.vret hx hb hr (fun t ht hW => ⟨⟨(), rfl, trivial, f_3431, by rw [ht]; exact hP9, va_K.moved hW.alike hK9, hD9⟩, hS.F ht⟩) hS.2.2 dX13_lay_36
set_option maxHeartbeats 4000000 in
set_option maxRecDepth 100000 in
theorem kX13_lay_4 (l : Launch) (dC : Nat → ClassId) (dI : Nat → Nat → Nat) (h0 h1 u0 u1 u2 u3 u4 u5 u6 u7 u8 u9 u10 u11 u12 u13 u14 u15 u16 u17 u18 u19 u20 u21 u22 u23 u24 u25 u26 u27 u28 u29 u30 u31 u32 u33 u34 u35 u36 u37 u38 u39 u40 u41 u42 u43 u44 u45 u46 u47 : Nat) (k1 : ClassId) (sz : Nat) (s0 : Int32) (s1 : Nat → Int32) : Met l yX13_lay (zw yX13_lay cX13_lay 3 none) { frames := 0, cells := 0, slots := 0, locals := 0 } (zPc dC dI [.ref h0, .int s0] sz [(h0, .inr (13, [.ref h1, .int 16, .ref u0, .ref u1, .int 0, .ref u2, .ref u3, .ref u4, .ref u5, .ref u6, .ref u7, .ref u8, .ref u9, .int 0, .ref u10, .ref u11, .int 0, .ref u12, .int (-1), .ref u13, .int 0, .int 0, .ref u14, .int 0, .int 0, .ref u15, .ref u16, .ref u17, .ref u18, .ref u19, .int 0, .ref u20, .int 0, .int 0, .int 0, .int 0, .int 0, .int 0, .ref u21, .ref u22, .ref u23, .ref u24, .int 0, .ref u25, .ref u26, .ref u27, .ref u28, .int 0, .ref u29, .ref u30, .int 0, .int 0, .ref u31, .int 0, .int 0, .int 0, .ref u32, .ref u33, .ref u34, .int 0, .int 0, .ref u35, .ref u36, .ref u37, .ref u38, .ref u39, .ref u40, .ref u41, .ref u42, .ref u43, .ref u44, .int 0, .ref u45, .ref u46, .ref u47])), (h1, .inl (k1, 600, .inl s1))] [(k1, .byte)]) (va_Qv (fun _ : Unit => True) (fun (_ : Unit) (t : State) => ∃ (f0 : Nat → Int32), va_P (dC, dI) vwCl [(h0, .inr (13, [.ref h1, .int 20, .ref u0, .ref u1, .int 0, .ref u2, .ref u3, .ref u4, .ref u5, .ref u6, .ref u7, .ref u8, .ref u9, .int 0, .ref u10, .ref u11, .int 0, .ref u12, .int (-1), .ref u13, .int 0, .int 0, .ref u14, .int 0, .int 0, .ref u15, .ref u16, .ref u17, .ref u18, .ref u19, .int 0, .ref u20, .int 0, .int 0, .int 0, .int 0, .int 0, .int 0, .ref u21, .ref u22, .ref u23, .ref u24, .int 0, .ref u25, .ref u26, .ref u27, .ref u28, .int 0, .ref u29, .ref u30, .int 0, .int 0, .ref u31, .int 0, .int 0, .int 0, .ref u32, .ref u33, .ref u34, .int 0, .int 0, .ref u35, .ref u36, .ref u37, .ref u38, .ref u39, .ref u40, .ref u41, .ref u42, .ref u43, .ref u44, .int 0, .ref u45, .ref u46, .ref u47])), (h1, .inl (k1, 600, .inl f0))] t.heap ∧ va_K (dC, dI) vwCl [(k1, .byte)] t ∧ va_D (va_A [(h0, .inr (13, [.ref h1, .int 16, .ref u0, .ref u1, .int 0, .ref u2, .ref u3, .ref u4, .ref u5, .ref u6, .ref u7, .ref u8, .ref u9, .int 0, .ref u10, .ref u11, .int 0, .ref u12, .int (-1), .ref u13, .int 0, .int 0, .ref u14, .int 0, .int 0, .ref u15, .ref u16, .ref u17, .ref u18, .ref u19, .int 0, .ref u20, .int 0, .int 0, .int 0, .int 0, .int 0, .int 0, .ref u21, .ref u22, .ref u23, .ref u24, .int 0, .ref u25, .ref u26, .ref u27, .ref u28, .int 0, .ref u29, .ref u30, .int 0, .int 0, .ref u31, .int 0, .int 0, .int 0, .ref u32, .ref u33, .ref u34, .int 0, .int 0, .ref u35, .ref u36, .ref u37, .ref u38, .ref u39, .ref u40, .ref u41, .ref u42, .ref u43, .ref u44, .int 0, .ref u45, .ref u46, .ref u47])), (h1, .inl (k1, 600, .inl s1))] sz) [(h0, .inr (13, [.ref h1, .int 20, .ref u0, .ref u1, .int 0, .ref u2, .ref u3, .ref u4, .ref u5, .ref u6, .ref u7, .ref u8, .ref u9, .int 0, .ref u10, .ref u11, .int 0, .ref u12, .int (-1), .ref u13, .int 0, .int 0, .ref u14, .int 0, .int 0, .ref u15, .ref u16, .ref u17, .ref u18, .ref u19, .int 0, .ref u20, .int 0, .int 0, .int 0, .int 0, .int 0, .int 0, .ref u21, .ref u22, .ref u23, .ref u24, .int 0, .ref u25, .ref u26, .ref u27, .ref u28, .int 0, .ref u29, .ref u30, .int 0, .int 0, .ref u31, .int 0, .int 0, .int 0, .ref u32, .ref u33, .ref u34, .int 0, .int 0, .ref u35, .ref u36, .ref u37, .ref u38, .ref u39, .ref u40, .ref u41, .ref u42, .ref u43, .ref u44, .int 0, .ref u45, .ref u46, .ref u47])), (h1, .inl (k1, 600, .inl f0))]) (va_A [(h0, .inr (13, [.ref h1, .int 16, .ref u0, .ref u1, .int 0, .ref u2, .ref u3, .ref u4, .ref u5, .ref u6, .ref u7, .ref u8, .ref u9, .int 0, .ref u10, .ref u11, .int 0, .ref u12, .int (-1), .ref u13, .int 0, .int 0, .ref u14, .int 0, .int 0, .ref u15, .ref u16, .ref u17, .ref u18, .ref u19, .int 0, .ref u20, .int 0, .int 0, .int 0, .int 0, .int 0, .int 0, .ref u21, .ref u22, .ref u23, .ref u24, .int 0, .ref u25, .ref u26, .ref u27, .ref u28, .int 0, .ref u29, .ref u30, .int 0, .int 0, .ref u31, .int 0, .int 0, .int 0, .ref u32, .ref u33, .ref u34, .int 0, .int 0, .ref u35, .ref u36, .ref u37, .ref u38, .ref u39, .ref u40, .ref u41, .ref u42, .ref u43, .ref u44, .int 0, .ref u45, .ref u46, .ref u47])), (h1, .inl (k1, 600, .inl s1))] sz)) 0 0 (va_A [(h0, .inr (13, [.ref h1, .int 16, .ref u0, .ref u1, .int 0, .ref u2, .ref u3, .ref u4, .ref u5, .ref u6, .ref u7, .ref u8, .ref u9, .int 0, .ref u10, .ref u11, .int 0, .ref u12, .int (-1), .ref u13, .int 0, .int 0, .ref u14, .int 0, .int 0, .ref u15, .ref u16, .ref u17, .ref u18, .ref u19, .int 0, .ref u20, .int 0, .int 0, .int 0, .int 0, .int 0, .int 0, .ref u21, .ref u22, .ref u23, .ref u24, .int 0, .ref u25, .ref u26, .ref u27, .ref u28, .int 0, .ref u29, .ref u30, .int 0, .int 0, .ref u31, .int 0, .int 0, .int 0, .ref u32, .ref u33, .ref u34, .int 0, .int 0, .ref u35, .ref u36, .ref u37, .ref u38, .ref u39, .ref u40, .ref u41, .ref u42, .ref u43, .ref u44, .int 0, .ref u45, .ref u46, .ref u47])), (h1, .inl (k1, 600, .inl s1))] sz) := by
  refine Met.ofW (cc := cX13_lay) (maxL := 3) (ret := none) (by decide) rfl ?_
  intro p e s m args below meth c s₁ B hml hv
  obtain ⟨rfl, hsz, hP, hK, hD0, hE, hZ⟩ := hv
  have hx := B.exec
  have hb := B.bytes
  have hr := B.returns
  have hG : ∀ w ∈ zG, w.before _ s = true := fun w h => atoms_spec (ws := (zw yX13_lay cX13_lay 3 none)) B.pre w (List.mem_cons_of_mem _ h)
  have hown : s.vm.findClass RX13 = some m.cls := findClass_of_methodNamed B.named
  have hlocks := B.notSynchronized
  subst hsz
  have hD := hD0.self (sz := s.heap.size)
  generalize hAe : va_A [(h0, .inr (13, [.ref h1, .int 16, .ref u0, .ref u1, .int 0, .ref u2, .ref u3, .ref u4, .ref u5, .ref u6, .ref u7, .ref u8, .ref u9, .int 0, .ref u10, .ref u11, .int 0, .ref u12, .int (-1), .ref u13, .int 0, .int 0, .ref u14, .int 0, .int 0, .ref u15, .ref u16, .ref u17, .ref u18, .ref u19, .int 0, .ref u20, .int 0, .int 0, .int 0, .int 0, .int 0, .int 0, .ref u21, .ref u22, .ref u23, .ref u24, .int 0, .ref u25, .ref u26, .ref u27, .ref u28, .int 0, .ref u29, .ref u30, .int 0, .int 0, .ref u31, .int 0, .int 0, .int 0, .ref u32, .ref u33, .ref u34, .int 0, .int 0, .ref u35, .ref u36, .ref u37, .ref u38, .ref u39, .ref u40, .ref u41, .ref u42, .ref u43, .ref u44, .int 0, .ref u45, .ref u46, .ref u47])), (h1, .inl (k1, 600, .inl s1))] s.heap.size = A at hD hZ ⊢
  have hA : ∀ q : Nat, s.heap.size ≤ q → A q := fun q h => by rw [← hAe]; exact Or.inr h
  have hS : va_S A s.heap s.heap [] := va_S.rf
  have hl := lv_entry ([.ref h0, .int s0]) (n := 3) (Nat.le_of_ble_eq_true rfl)
  rw [lg_entry_eq]
  generalize (lg_sl ([.ref h0, .int s0]) ++ List.replicate (3 - (lg_sl ([.ref h0, .int s0])).length) Slot.unset).toArray = ls at hl ⊢
  have hl : lv_has ls 3 [(0, .ref h0), (1, .int s0)] := hl
  refine lv_bipush (v := 24) hx hb dX13_lay_0 (by decide) ?_
  refine lv_istore_n (lv' := [(2, .int 24), (0, .ref h0), (1, .int s0)]) hx hb dX13_lay_2 rfl hl (by decide) rfl (fun ls hl => ?_)
  refine lv_iload_n hx hb dX13_lay_3 rfl (lv_at hl 0 rfl) ?_
  refine lv_if_lt (tgt := 36) hx hb dX13_lay_4 (by decide) (fun c_3478 => absurd c_3478 (by decide)) (fun c_3478 => ?_)
  refine lv_aload_n hx hb dX13_lay_7 rfl (lv_at hl 1 rfl) ?_
  refine va_get (D := (dC, dI)) (ci := 13) (v := .ref h1) (C := RX13) (T := TX13) (N := 75) hx hb hG zuX13 hown hK hP 0 rfl rfl 0 (by decide) (hG _ zw209) (fun _ h9 => h9) rfl dX13_lay_8 ?_
  refine lv_aload_n hx hb dX13_lay_11 rfl (lv_at hl 1 rfl) ?_
  refine va_get (D := (dC, dI)) (ci := 13) (v := .int 16) (C := RX13) (T := TX13) (N := 75) hx hb hG zuX13 hown hK hP 0 rfl rfl 1 (by decide) (hG _ zw303) (fun _ h9 => h9) rfl dX13_lay_12 ?_
  refine lv_iload_n hx hb dX13_lay_15 rfl (lv_at hl 2 rfl) ?_
  refine lv_iload_n hx hb dX13_lay_16 rfl (lv_at hl 0 rfl) ?_
  refine lv_ishr hx hb dX13_lay_17 ?_
  refine lv_topi (fun z_3479 e_z_3479 => ?_)
  refine lv_i2b hx hb dX13_lay_18 rfl ?_
  refine lv_topi (fun z_3480 e_z_3480 => ?_)
  refine va_bast hx hb hK hP hD hS 1 0 rfl rfl (zin_lit (by decide)) dX13_lay_19 (fun H locs hP hD hS => ?_)
  obtain ⟨f_3481, e_f_3481⟩ : ∃ z : Nat → Int32, z = upd s1 16 (vp_nar .byte z_3480) := ⟨_, rfl⟩
  have hP : va_P (dC, dI) vwCl [(h0, .inr (13, [.ref h1, .int 16, .ref u0, .ref u1, .int 0, .ref u2, .ref u3, .ref u4, .ref u5, .ref u6, .ref u7, .ref u8, .ref u9, .int 0, .ref u10, .ref u11, .int 0, .ref u12, .int (-1), .ref u13, .int 0, .int 0, .ref u14, .int 0, .int 0, .ref u15, .ref u16, .ref u17, .ref u18, .ref u19, .int 0, .ref u20, .int 0, .int 0, .int 0, .int 0, .int 0, .int 0, .ref u21, .ref u22, .ref u23, .ref u24, .int 0, .ref u25, .ref u26, .ref u27, .ref u28, .int 0, .ref u29, .ref u30, .int 0, .int 0, .ref u31, .int 0, .int 0, .int 0, .ref u32, .ref u33, .ref u34, .int 0, .int 0, .ref u35, .ref u36, .ref u37, .ref u38, .ref u39, .ref u40, .ref u41, .ref u42, .ref u43, .ref u44, .int 0, .ref u45, .ref u46, .ref u47])), (h1, .inl (k1, 600, .inl f_3481))] H := by rw [e_f_3481]; exact hP
  have hD : va_D A [(h0, .inr (13, [.ref h1, .int 16, .ref u0, .ref u1, .int 0, .ref u2, .ref u3, .ref u4, .ref u5, .ref u6, .ref u7, .ref u8, .ref u9, .int 0, .ref u10, .ref u11, .int 0, .ref u12, .int (-1), .ref u13, .int 0, .int 0, .ref u14, .int 0, .int 0, .ref u15, .ref u16, .ref u17, .ref u18, .ref u19, .int 0, .ref u20, .int 0, .int 0, .int 0, .int 0, .int 0, .int 0, .ref u21, .ref u22, .ref u23, .ref u24, .int 0, .ref u25, .ref u26, .ref u27, .ref u28, .int 0, .ref u29, .ref u30, .int 0, .int 0, .ref u31, .int 0, .int 0, .int 0, .ref u32, .ref u33, .ref u34, .int 0, .int 0, .ref u35, .ref u36, .ref u37, .ref u38, .ref u39, .ref u40, .ref u41, .ref u42, .ref u43, .ref u44, .int 0, .ref u45, .ref u46, .ref u47])), (h1, .inl (k1, 600, .inl f_3481))] := by rw [e_f_3481]; exact hD
  refine lv_aload_n hx hb dX13_lay_20 rfl (lv_at hl 1 rfl) ?_
  refine lv_dup hx hb dX13_lay_21 rfl ?_
  refine va_get (D := (dC, dI)) (ci := 13) (v := .int 16) (C := RX13) (T := TX13) (N := 75) hx hb hG zuX13 hown hK hP 0 rfl rfl 1 (by decide) (hG _ zw303) (fun _ h9 => h9) rfl dX13_lay_22 ?_
  refine lv_iconst (v := 1) hx hb dX13_lay_25 (by decide) ?_
  refine lv_iadd hx hb dX13_lay_26 ?_
  refine lv_topi (fun z_3482 e_z_3482 => ?_)
  obtain rfl : z_3482 = (17 : Int32) := e_z_3482.trans (by decide)
  refine va_put (D := (dC, dI)) (ci := 13) (v := .int 17) (ty := .int) (C := RX13) (T := TX13) (N := 75) hx hb hG zuX13 tyX13 tyX13_ok nmX13 hown hK hP hD hS 0 rfl rfl 1 (by decide) (hG _ zw303) (fun _ h9 => h9) rfl (by decide +kernel) rfl rfl (Nat.le_of_ble_eq_true rfl) dX13_lay_27 (fun H locs hP hD hS => ?_)
  have hP : va_P (dC, dI) vwCl [(h0, .inr (13, [.ref h1, .int 17, .ref u0, .ref u1, .int 0, .ref u2, .ref u3, .ref u4, .ref u5, .ref u6, .ref u7, .ref u8, .ref u9, .int 0, .ref u10, .ref u11, .int 0, .ref u12, .int (-1), .ref u13, .int 0, .int 0, .ref u14, .int 0, .int 0, .ref u15, .ref u16, .ref u17, .ref u18, .ref u19, .int 0, .ref u20, .int 0, .int 0, .int 0, .int 0, .int 0, .int 0, .ref u21, .ref u22, .ref u23, .ref u24, .int 0, .ref u25, .ref u26, .ref u27, .ref u28, .int 0, .ref u29, .ref u30, .int 0, .int 0, .ref u31, .int 0, .int 0, .int 0, .ref u32, .ref u33, .ref u34, .int 0, .int 0, .ref u35, .ref u36, .ref u37, .ref u38, .ref u39, .ref u40, .ref u41, .ref u42, .ref u43, .ref u44, .int 0, .ref u45, .ref u46, .ref u47])), (h1, .inl (k1, 600, .inl f_3481))] H := hP
  have hD : va_D A [(h0, .inr (13, [.ref h1, .int 17, .ref u0, .ref u1, .int 0, .ref u2, .ref u3, .ref u4, .ref u5, .ref u6, .ref u7, .ref u8, .ref u9, .int 0, .ref u10, .ref u11, .int 0, .ref u12, .int (-1), .ref u13, .int 0, .int 0, .ref u14, .int 0, .int 0, .ref u15, .ref u16, .ref u17, .ref u18, .ref u19, .int 0, .ref u20, .int 0, .int 0, .int 0, .int 0, .int 0, .int 0, .ref u21, .ref u22, .ref u23, .ref u24, .int 0, .ref u25, .ref u26, .ref u27, .ref u28, .int 0, .ref u29, .ref u30, .int 0, .int 0, .ref u31, .int 0, .int 0, .int 0, .ref u32, .ref u33, .ref u34, .int 0, .int 0, .ref u35, .ref u36, .ref u37, .ref u38, .ref u39, .ref u40, .ref u41, .ref u42, .ref u43, .ref u44, .int 0, .ref u45, .ref u46, .ref u47])), (h1, .inl (k1, 600, .inl f_3481))] := hD
  refine lv_iinc (v := 16) (lv' := [(2, .int 16), (0, .ref h0), (1, .int s0)]) hx hb dX13_lay_30 hl (k := 0) rfl (by decide) (by decide) rfl (fun ls hl => ?_)
  refine lv_goto (tgt := 3) hx hb dX13_lay_33 (by decide) ?_
  refine lv_iload_n hx hb dX13_lay_3 rfl (lv_at hl 0 rfl) ?_
  refine lv_if_lt (tgt := 36) hx hb dX13_lay_4 (by decide) (fun c_3483 => absurd c_3483 (by decide)) (fun c_3483 => ?_)
  refine lv_aload_n hx hb dX13_lay_7 rfl (lv_at hl 1 rfl) ?_
  refine va_get (D := (dC, dI)) (ci := 13) (v := .ref h1) (C := RX13) (T := TX13) (N := 75) hx hb hG zuX13 hown hK hP 0 rfl rfl 0 (by decide) (hG _ zw209) (fun _ h9 => h9) rfl dX13_lay_8 ?_
  refine lv_aload_n hx hb dX13_lay_11 rfl (lv_at hl 1 rfl) ?_
  refine va_get (D := (dC, dI)) (ci := 13) (v := .int 17) (C := RX13) (T := TX13) (N := 75) hx hb hG zuX13 hown hK hP 0 rfl rfl 1 (by decide) (hG _ zw303) (fun _ h9 => h9) rfl dX13_lay_12 ?_
  refine lv_iload_n hx hb dX13_lay_15 rfl (lv_at hl 2 rfl) ?_
  refine lv_iload_n hx hb dX13_lay_16 rfl (lv_at hl 0 rfl) ?_
  refine lv_ishr hx hb dX13_lay_17 ?_
  refine lv_topi (fun z_3484 e_z_3484 => ?_)
  refine lv_i2b hx hb dX13_lay_18 rfl ?_
  refine lv_topi (fun z_3485 e_z_3485 => ?_)
  refine va_bast hx hb hK hP hD hS 1 0 rfl rfl (zin_lit (by decide)) dX13_lay_19 (fun H locs hP hD hS => ?_)
  obtain ⟨f_3486, e_f_3486⟩ : ∃ z : Nat → Int32, z = upd f_3481 17 (vp_nar .byte z_3485) := ⟨_, rfl⟩
  have hP : va_P (dC, dI) vwCl [(h0, .inr (13, [.ref h1, .int 17, .ref u0, .ref u1, .int 0, .ref u2, .ref u3, .ref u4, .ref u5, .ref u6, .ref u7, .ref u8, .ref u9, .int 0, .ref u10, .ref u11, .int 0, .ref u12, .int (-1), .ref u13, .int 0, .int 0, .ref u14, .int 0, .int 0, .ref u15, .ref u16, .ref u17, .ref u18, .ref u19, .int 0, .ref u20, .int 0, .int 0, .int 0, .int 0, .int 0, .int 0, .ref u21, .ref u22, .ref u23, .ref u24, .int 0, .ref u25, .ref u26, .ref u27, .ref u28, .int 0, .ref u29, .ref u30, .int 0, .int 0, .ref u31, .int 0, .int 0, .int 0, .ref u32, .ref u33, .ref u34, .int 0, .int 0, .ref u35, .ref u36, .ref u37, .ref u38, .ref u39, .ref u40, .ref u41, .ref u42, .ref u43, .ref u44, .int 0, .ref u45, .ref u46, .ref u47])), (h1, .inl (k1, 600, .inl f_3486))] H := by rw [e_f_3486]; exact hP
  have hD : va_D A [(h0, .inr (13, [.ref h1, .int 17, .ref u0, .ref u1, .int 0, .ref u2, .ref u3, .ref u4, .ref u5, .ref u6, .ref u7, .ref u8, .ref u9, .int 0, .ref u10, .ref u11, .int 0, .ref u12, .int (-1), .ref u13, .int 0, .int 0, .ref u14, .int 0, .int 0, .ref u15, .ref u16, .ref u17, .ref u18, .ref u19, .int 0, .ref u20, .int 0, .int 0, .int 0, .int 0, .int 0, .int 0, .ref u21, .ref u22, .ref u23, .ref u24, .int 0, .ref u25, .ref u26, .ref u27, .ref u28, .int 0, .ref u29, .ref u30, .int 0, .int 0, .ref u31, .int 0, .int 0, .int 0, .ref u32, .ref u33, .ref u34, .int 0, .int 0, .ref u35, .ref u36, .ref u37, .ref u38, .ref u39, .ref u40, .ref u41, .ref u42, .ref u43, .ref u44, .int 0, .ref u45, .ref u46, .ref u47])), (h1, .inl (k1, 600, .inl f_3486))] := by rw [e_f_3486]; exact hD
  refine lv_aload_n hx hb dX13_lay_20 rfl (lv_at hl 1 rfl) ?_
  refine lv_dup hx hb dX13_lay_21 rfl ?_
  refine va_get (D := (dC, dI)) (ci := 13) (v := .int 17) (C := RX13) (T := TX13) (N := 75) hx hb hG zuX13 hown hK hP 0 rfl rfl 1 (by decide) (hG _ zw303) (fun _ h9 => h9) rfl dX13_lay_22 ?_
  refine lv_iconst (v := 1) hx hb dX13_lay_25 (by decide) ?_
  refine lv_iadd hx hb dX13_lay_26 ?_
  refine lv_topi (fun z_3487 e_z_3487 => ?_)
  obtain rfl : z_3487 = (18 : Int32) := e_z_3487.trans (by decide)
  refine va_put (D := (dC, dI)) (ci := 13) (v := .int 18) (ty := .int) (C := RX13) (T := TX13) (N := 75) hx hb hG zuX13 tyX13 tyX13_ok nmX13 hown hK hP hD hS 0 rfl rfl 1 (by decide) (hG _ zw303) (fun _ h9 => h9) rfl (by decide +kernel) rfl rfl (Nat.le_of_ble_eq_true rfl) dX13_lay_27 (fun H locs hP hD hS => ?_)
  have hP : va_P (dC, dI) vwCl [(h0, .inr (13, [.ref h1, .int 18, .ref u0, .ref u1, .int 0, .ref u2, .ref u3, .ref u4, .ref u5, .ref u6, .ref u7, .ref u8, .ref u9, .int 0, .ref u10, .ref u11, .int 0, .ref u12, .int (-1), .ref u13, .int 0, .int 0, .ref u14, .int 0, .int 0, .ref u15, .ref u16, .ref u17, .ref u18, .ref u19, .int 0, .ref u20, .int 0, .int 0, .int 0, .int 0, .int 0, .int 0, .ref u21, .ref u22, .ref u23, .ref u24, .int 0, .ref u25, .ref u26, .ref u27, .ref u28, .int 0, .ref u29, .ref u30, .int 0, .int 0, .ref u31, .int 0, .int 0, .int 0, .ref u32, .ref u33, .ref u34, .int 0, .int 0, .ref u35, .ref u36, .ref u37, .ref u38, .ref u39, .ref u40, .ref u41, .ref u42, .ref u43, .ref u44, .int 0, .ref u45, .ref u46, .ref u47])), (h1, .inl (k1, 600, .inl f_3486))] H := hP
  have hD : va_D A [(h0, .inr (13, [.ref h1, .int 18, .ref u0, .ref u1, .int 0, .ref u2, .ref u3, .ref u4, .ref u5, .ref u6, .ref u7, .ref u8, .ref u9, .int 0, .ref u10, .ref u11, .int 0, .ref u12, .int (-1), .ref u13, .int 0, .int 0, .ref u14, .int 0, .int 0, .ref u15, .ref u16, .ref u17, .ref u18, .ref u19, .int 0, .ref u20, .int 0, .int 0, .int 0, .int 0, .int 0, .int 0, .ref u21, .ref u22, .ref u23, .ref u24, .int 0, .ref u25, .ref u26, .ref u27, .ref u28, .int 0, .ref u29, .ref u30, .int 0, .int 0, .ref u31, .int 0, .int 0, .int 0, .ref u32, .ref u33, .ref u34, .int 0, .int 0, .ref u35, .ref u36, .ref u37, .ref u38, .ref u39, .ref u40, .ref u41, .ref u42, .ref u43, .ref u44, .int 0, .ref u45, .ref u46, .ref u47])), (h1, .inl (k1, 600, .inl f_3486))] := hD
  refine lv_iinc (v := 8) (lv' := [(2, .int 8), (0, .ref h0), (1, .int s0)]) hx hb dX13_lay_30 hl (k := 0) rfl (by decide) (by decide) rfl (fun ls hl => ?_)
  refine lv_goto (tgt := 3) hx hb dX13_lay_33 (by decide) ?_
  refine lv_iload_n hx hb dX13_lay_3 rfl (lv_at hl 0 rfl) ?_
  refine lv_if_lt (tgt := 36) hx hb dX13_lay_4 (by decide) (fun c_3488 => absurd c_3488 (by decide)) (fun c_3488 => ?_)
  refine lv_aload_n hx hb dX13_lay_7 rfl (lv_at hl 1 rfl) ?_
  refine va_get (D := (dC, dI)) (ci := 13) (v := .ref h1) (C := RX13) (T := TX13) (N := 75) hx hb hG zuX13 hown hK hP 0 rfl rfl 0 (by decide) (hG _ zw209) (fun _ h9 => h9) rfl dX13_lay_8 ?_
  refine lv_aload_n hx hb dX13_lay_11 rfl (lv_at hl 1 rfl) ?_
  refine va_get (D := (dC, dI)) (ci := 13) (v := .int 18) (C := RX13) (T := TX13) (N := 75) hx hb hG zuX13 hown hK hP 0 rfl rfl 1 (by decide) (hG _ zw303) (fun _ h9 => h9) rfl dX13_lay_12 ?_
  refine lv_iload_n hx hb dX13_lay_15 rfl (lv_at hl 2 rfl) ?_
  refine lv_iload_n hx hb dX13_lay_16 rfl (lv_at hl 0 rfl) ?_
  refine lv_ishr hx hb dX13_lay_17 ?_
  refine lv_topi (fun z_3489 e_z_3489 => ?_)
  refine lv_i2b hx hb dX13_lay_18 rfl ?_
  refine lv_topi (fun z_3490 e_z_3490 => ?_)
  refine va_bast hx hb hK hP hD hS 1 0 rfl rfl (zin_lit (by decide)) dX13_lay_19 (fun H locs hP hD hS => ?_)
  obtain ⟨f_3491, e_f_3491⟩ : ∃ z : Nat → Int32, z = upd f_3486 18 (vp_nar .byte z_3490) := ⟨_, rfl⟩
  have hP : va_P (dC, dI) vwCl [(h0, .inr (13, [.ref h1, .int 18, .ref u0, .ref u1, .int 0, .ref u2, .ref u3, .ref u4, .ref u5, .ref u6, .ref u7, .ref u8, .ref u9, .int 0, .ref u10, .ref u11, .int 0, .ref u12, .int (-1), .ref u13, .int 0, .int 0, .ref u14, .int 0, .int 0, .ref u15, .ref u16, .ref u17, .ref u18, .ref u19, .int 0, .ref u20, .int 0, .int 0, .int 0, .int 0, .int 0, .int 0, .ref u21, .ref u22, .ref u23, .ref u24, .int 0, .ref u25, .ref u26, .ref u27, .ref u28, .int 0, .ref u29, .ref u30, .int 0, .int 0, .ref u31, .int 0, .int 0, .int 0, .ref u32, .ref u33, .ref u34, .int 0, .int 0, .ref u35, .ref u36, .ref u37, .ref u38, .ref u39, .ref u40, .ref u41, .ref u42, .ref u43, .ref u44, .int 0, .ref u45, .ref u46, .ref u47])), (h1, .inl (k1, 600, .inl f_3491))] H := by rw [e_f_3491]; exact hP
  have hD : va_D A [(h0, .inr (13, [.ref h1, .int 18, .ref u0, .ref u1, .int 0, .ref u2, .ref u3, .ref u4, .ref u5, .ref u6, .ref u7, .ref u8, .ref u9, .int 0, .ref u10, .ref u11, .int 0, .ref u12, .int (-1), .ref u13, .int 0, .int 0, .ref u14, .int 0, .int 0, .ref u15, .ref u16, .ref u17, .ref u18, .ref u19, .int 0, .ref u20, .int 0, .int 0, .int 0, .int 0, .int 0, .int 0, .ref u21, .ref u22, .ref u23, .ref u24, .int 0, .ref u25, .ref u26, .ref u27, .ref u28, .int 0, .ref u29, .ref u30, .int 0, .int 0, .ref u31, .int 0, .int 0, .int 0, .ref u32, .ref u33, .ref u34, .int 0, .int 0, .ref u35, .ref u36, .ref u37, .ref u38, .ref u39, .ref u40, .ref u41, .ref u42, .ref u43, .ref u44, .int 0, .ref u45, .ref u46, .ref u47])), (h1, .inl (k1, 600, .inl f_3491))] := by rw [e_f_3491]; exact hD
  refine lv_aload_n hx hb dX13_lay_20 rfl (lv_at hl 1 rfl) ?_
  refine lv_dup hx hb dX13_lay_21 rfl ?_
  refine va_get (D := (dC, dI)) (ci := 13) (v := .int 18) (C := RX13) (T := TX13) (N := 75) hx hb hG zuX13 hown hK hP 0 rfl rfl 1 (by decide) (hG _ zw303) (fun _ h9 => h9) rfl dX13_lay_22 ?_
  refine lv_iconst (v := 1) hx hb dX13_lay_25 (by decide) ?_
  refine lv_iadd hx hb dX13_lay_26 ?_
  refine lv_topi (fun z_3492 e_z_3492 => ?_)
  obtain rfl : z_3492 = (19 : Int32) := e_z_3492.trans (by decide)
  refine va_put (D := (dC, dI)) (ci := 13) (v := .int 19) (ty := .int) (C := RX13) (T := TX13) (N := 75) hx hb hG zuX13 tyX13 tyX13_ok nmX13 hown hK hP hD hS 0 rfl rfl 1 (by decide) (hG _ zw303) (fun _ h9 => h9) rfl (by decide +kernel) rfl rfl (Nat.le_of_ble_eq_true rfl) dX13_lay_27 (fun H locs hP hD hS => ?_)
  have hP : va_P (dC, dI) vwCl [(h0, .inr (13, [.ref h1, .int 19, .ref u0, .ref u1, .int 0, .ref u2, .ref u3, .ref u4, .ref u5, .ref u6, .ref u7, .ref u8, .ref u9, .int 0, .ref u10, .ref u11, .int 0, .ref u12, .int (-1), .ref u13, .int 0, .int 0, .ref u14, .int 0, .int 0, .ref u15, .ref u16, .ref u17, .ref u18, .ref u19, .int 0, .ref u20, .int 0, .int 0, .int 0, .int 0, .int 0, .int 0, .ref u21, .ref u22, .ref u23, .ref u24, .int 0, .ref u25, .ref u26, .ref u27, .ref u28, .int 0, .ref u29, .ref u30, .int 0, .int 0, .ref u31, .int 0, .int 0, .int 0, .ref u32, .ref u33, .ref u34, .int 0, .int 0, .ref u35, .ref u36, .ref u37, .ref u38, .ref u39, .ref u40, .ref u41, .ref u42, .ref u43, .ref u44, .int 0, .ref u45, .ref u46, .ref u47])), (h1, .inl (k1, 600, .inl f_3491))] H := hP
  have hD : va_D A [(h0, .inr (13, [.ref h1, .int 19, .ref u0, .ref u1, .int 0, .ref u2, .ref u3, .ref u4, .ref u5, .ref u6, .ref u7, .ref u8, .ref u9, .int 0, .ref u10, .ref u11, .int 0, .ref u12, .int (-1), .ref u13, .int 0, .int 0, .ref u14, .int 0, .int 0, .ref u15, .ref u16, .ref u17, .ref u18, .ref u19, .int 0, .ref u20, .int 0, .int 0, .int 0, .int 0, .int 0, .int 0, .ref u21, .ref u22, .ref u23, .ref u24, .int 0, .ref u25, .ref u26, .ref u27, .ref u28, .int 0, .ref u29, .ref u30, .int 0, .int 0, .ref u31, .int 0, .int 0, .int 0, .ref u32, .ref u33, .ref u34, .int 0, .int 0, .ref u35, .ref u36, .ref u37, .ref u38, .ref u39, .ref u40, .ref u41, .ref u42, .ref u43, .ref u44, .int 0, .ref u45, .ref u46, .ref u47])), (h1, .inl (k1, 600, .inl f_3491))] := hD
  refine lv_iinc (v := 0) (lv' := [(2, .int 0), (0, .ref h0), (1, .int s0)]) hx hb dX13_lay_30 hl (k := 0) rfl (by decide) (by decide) rfl (fun ls hl => ?_)
  refine lv_goto (tgt := 3) hx hb dX13_lay_33 (by decide) ?_
  refine lv_iload_n hx hb dX13_lay_3 rfl (lv_at hl 0 rfl) ?_
  refine lv_if_lt (tgt := 36) hx hb dX13_lay_4 (by decide) (fun c_3493 => absurd c_3493 (by decide)) (fun c_3493 => ?_)
  refine lv_aload_n hx hb dX13_lay_7 rfl (lv_at hl 1 rfl) ?_
  refine va_get (D := (dC, dI)) (ci := 13) (v := .ref h1) (C := RX13) (T := TX13) (N := 75) hx hb hG zuX13 hown hK hP 0 rfl rfl 0 (by decide) (hG _ zw209) (fun _ h9 => h9) rfl dX13_lay_8 ?_
  refine lv_aload_n hx hb dX13_lay_11 rfl (lv_at hl 1 rfl) ?_
  refine va_get (D := (dC, dI)) (ci := 13) (v := .int 19) (C := RX13) (T := TX13) (N := 75) hx hb hG zuX13 hown hK hP 0 rfl rfl 1 (by decide) (hG _ zw303) (fun _ h9 => h9) rfl dX13_lay_12 ?_
  refine lv_iload_n hx hb dX13_lay_15 rfl (lv_at hl 2 rfl) ?_
  refine lv_iload_n hx hb dX13_lay_16 rfl (lv_at hl 0 rfl) ?_
  refine lv_ishr hx hb dX13_lay_17 ?_
  refine lv_topi (fun z_3494 e_z_3494 => ?_)
  refine lv_i2b hx hb dX13_lay_18 rfl ?_
  refine lv_topi (fun z_3495 e_z_3495 => ?_)
  refine va_bast hx hb hK hP hD hS 1 0 rfl rfl (zin_lit (by decide)) dX13_lay_19 (fun H locs hP hD hS => ?_)
  obtain ⟨f_3496, e_f_3496⟩ : ∃ z : Nat → Int32, z = upd f_3491 19 (vp_nar .byte z_3495) := ⟨_, rfl⟩
  have hP : va_P (dC, dI) vwCl [(h0, .inr (13, [.ref h1, .int 19, .ref u0, .ref u1, .int 0, .ref u2, .ref u3, .ref u4, .ref u5, .ref u6, .ref u7, .ref u8, .ref u9, .int 0, .ref u10, .ref u11, .int 0, .ref u12, .int (-1), .ref u13, .int 0, .int 0, .ref u14, .int 0, .int 0, .ref u15, .ref u16, .ref u17, .ref u18, .ref u19, .int 0, .ref u20, .int 0, .int 0, .int 0, .int 0, .int 0, .int 0, .ref u21, .ref u22, .ref u23, .ref u24, .int 0, .ref u25, .ref u26, .ref u27, .ref u28, .int 0, .ref u29, .ref u30, .int 0, .int 0, .ref u31, .int 0, .int 0, .int 0, .ref u32, .ref u33, .ref u34, .int 0, .int 0, .ref u35, .ref u36, .ref u37, .ref u38, .ref u39, .ref u40, .ref u41, .ref u42, .ref u43, .ref u44, .int 0, .ref u45, .ref u46, .ref u47])), (h1, .inl (k1, 600, .inl f_3496))] H := by rw [e_f_3496]; exact hP
  have hD : va_D A [(h0, .inr (13, [.ref h1, .int 19, .ref u0, .ref u1, .int 0, .ref u2, .ref u3, .ref u4, .ref u5, .ref u6, .ref u7, .ref u8, .ref u9, .int 0, .ref u10, .ref u11, .int 0, .ref u12, .int (-1), .ref u13, .int 0, .int 0, .ref u14, .int 0, .int 0, .ref u15, .ref u16, .ref u17, .ref u18, .ref u19, .int 0, .ref u20, .int 0, .int 0, .int 0, .int 0, .int 0, .int 0, .ref u21, .ref u22, .ref u23, .ref u24, .int 0, .ref u25, .ref u26, .ref u27, .ref u28, .int 0, .ref u29, .ref u30, .int 0, .int 0, .ref u31, .int 0, .int 0, .int 0, .ref u32, .ref u33, .ref u34, .int 0, .int 0, .ref u35, .ref u36, .ref u37, .ref u38, .ref u39, .ref u40, .ref u41, .ref u42, .ref u43, .ref u44, .int 0, .ref u45, .ref u46, .ref u47])), (h1, .inl (k1, 600, .inl f_3496))] := by rw [e_f_3496]; exact hD
  refine lv_aload_n hx hb dX13_lay_20 rfl (lv_at hl 1 rfl) ?_
  refine lv_dup hx hb dX13_lay_21 rfl ?_
  refine va_get (D := (dC, dI)) (ci := 13) (v := .int 19) (C := RX13) (T := TX13) (N := 75) hx hb hG zuX13 hown hK hP 0 rfl rfl 1 (by decide) (hG _ zw303) (fun _ h9 => h9) rfl dX13_lay_22 ?_
  refine lv_iconst (v := 1) hx hb dX13_lay_25 (by decide) ?_
  refine lv_iadd hx hb dX13_lay_26 ?_
  refine lv_topi (fun z_3497 e_z_3497 => ?_)
  obtain rfl : z_3497 = (20 : Int32) := e_z_3497.trans (by decide)
  refine va_put (D := (dC, dI)) (ci := 13) (v := .int 20) (ty := .int) (C := RX13) (T := TX13) (N := 75) hx hb hG zuX13 tyX13 tyX13_ok nmX13 hown hK hP hD hS 0 rfl rfl 1 (by decide) (hG _ zw303) (fun _ h9 => h9) rfl (by decide +kernel) rfl rfl (Nat.le_of_ble_eq_true rfl) dX13_lay_27 (fun H locs hP hD hS => ?_)
  have hP : va_P (dC, dI) vwCl [(h0, .inr (13, [.ref h1, .int 20, .ref u0, .ref u1, .int 0, .ref u2, .ref u3, .ref u4, .ref u5, .ref u6, .ref u7, .ref u8, .ref u9, .int 0, .ref u10, .ref u11, .int 0, .ref u12, .int (-1), .ref u13, .int 0, .int 0, .ref u14, .int 0, .int 0, .ref u15, .ref u16, .ref u17, .ref u18, .ref u19, .int 0, .ref u20, .int 0, .int 0, .int 0, .int 0, .int 0, .int 0, .ref u21, .ref u22, .ref u23, .ref u24, .int 0, .ref u25, .ref u26, .ref u27, .ref u28, .int 0, .ref u29, .ref u30, .int 0, .int 0, .ref u31, .int 0, .int 0, .int 0, .ref u32, .ref u33, .ref u34, .int 0, .int 0, .ref u35, .ref u36, .ref u37, .ref u38, .ref u39, .ref u40, .ref u41, .ref u42, .ref u43, .ref u44, .int 0, .ref u45, .ref u46, .ref u47])), (h1, .inl (k1, 600, .inl f_3496))] H := hP
  have hD : va_D A [(h0, .inr (13, [.ref h1, .int 20, .ref u0, .ref u1, .int 0, .ref u2, .ref u3, .ref u4, .ref u5, .ref u6, .ref u7, .ref u8, .ref u9, .int 0, .ref u10, .ref u11, .int 0, .ref u12, .int (-1), .ref u13, .int 0, .int 0, .ref u14, .int 0, .int 0, .ref u15, .ref u16, .ref u17, .ref u18, .ref u19, .int 0, .ref u20, .int 0, .int 0, .int 0, .int 0, .int 0, .int 0, .ref u21, .ref u22, .ref u23, .ref u24, .int 0, .ref u25, .ref u26, .ref u27, .ref u28, .int 0, .ref u29, .ref u30, .int 0, .int 0, .ref u31, .int 0, .int 0, .int 0, .ref u32, .ref u33, .ref u34, .int 0, .int 0, .ref u35, .ref u36, .ref u37, .ref u38, .ref u39, .ref u40, .ref u41, .ref u42, .ref u43, .ref u44, .int 0, .ref u45, .ref u46, .ref u47])), (h1, .inl (k1, 600, .inl f_3496))] := hD
  refine lv_iinc (v := (-8)) (lv' := [(2, .int (-8)), (0, .ref h0), (1, .int s0)]) hx hb dX13_lay_30 hl (k := 0) rfl (by decide) (by decide) rfl (fun ls hl => ?_)
  refine lv_goto (tgt := 3) hx hb dX13_lay_33 (by decide) ?_
  refine lv_iload_n hx hb dX13_lay_3 rfl (lv_at hl 0 rfl) ?_
  refine lv_if_lt (tgt := 36) hx hb dX13_lay_4 (by decide) (fun c_3498 => ?_) (fun c_3498 => absurd c_3498 (by decide))
  have hP9 := hP.sub (ws' := [(h0, .inr (13, [.ref h1, .int 20, .ref u0, .ref u1, .int 0, .ref u2, .ref u3, .ref u4, .ref u5, .ref u6, .ref u7, .ref u8, .ref u9, .int 0, .ref u10, .ref u11, .int 0, .ref u12, .int (-1), .ref u13, .int 0, .int 0, .ref u14, .int 0, .int 0, .ref u15, .ref u16, .ref u17, .ref u18, .ref u19, .int 0, .ref u20, .int 0, .int 0, .int 0, .int 0, .int 0, .int 0, .ref u21, .ref u22, .ref u23, .ref u24, .int 0, .ref u25, .ref u26, .ref u27, .ref u28, .int 0, .ref u29, .ref u30, .int 0, .int 0, .ref u31, .int 0, .int 0, .int 0, .ref u32, .ref u33, .ref u34, .int 0, .int 0, .ref u35, .ref u36, .ref u37, .ref u38, .ref u39, .ref u40, .ref u41, .ref u42, .ref u43, .ref u44, .int 0, .ref u45, .ref u46, .ref u47])), (h1, .inl (k1, 600, .inl f_3496))]) [0, 1] rfl
  have hD9 := hD.sub (ws' := [(h0, .inr (13, [.ref h1, .int 20, .ref u0, .ref u1, .int 0, .ref u2, .ref u3, .ref u4, .ref u5, .ref u6, .ref u7, .ref u8, .ref u9, .int 0, .ref u10, .ref u11, .int 0, .ref u12, .int (-1), .ref u13, .int 0, .int 0, .ref u14, .int 0, .int 0, .ref u15, .ref u16, .ref u17, .ref u18, .ref u19, .int 0, .ref u20, .int 0, .int 0, .int 0, .int 0, .int 0, .int 0, .ref u21, .ref u22, .ref u23, .ref u24, .int 0, .ref u25, .ref u26, .ref u27, .ref u28, .int 0, .ref u29, .ref u30, .int 0, .int 0, .ref u31, .int 0, .int 0, .int 0, .ref u32, .ref u33, .ref u34, .int 0, .int 0, .ref u35, .ref u36, .ref u37, .ref u38, .ref u39, .ref u40, .ref u41, .ref u42, .ref u43, .ref u44, .int 0, .ref u45, .ref u46, .ref u47])), (h1, .inl (k1, 600, .inl f_3496))]) [0, 1] (by decide) rfl
  have hK9 := hK.sub (tys' := [(k1, .byte)]) [0] rfl
  refine W.widen (k := 0) (n := 0) (by decide) (by decide) ?_
  exact W.vret hx hb hr (fun t ht hW => ⟨⟨(), rfl, trivial, f_3496, by rw [ht]; exact hP9, va_K.moved hW.alike hK9, hD9⟩, hS.F ht⟩) hS.2.2 dX13_lay_36
set_option maxHeartbeats 4000000 in
set_option maxRecDepth 100000 in
theorem kX13_feed_0 (l : Launch) (dC : Nat → ClassId) (dI : Nat → Nat → Nat) (h0 h1 u0 u1 u2 u3 u4 u5 u6 u7 u8 u9 u10 u11 u12 u13 u14 u15 u16 u17 u18 u19 u20 u21 u22 u23 u24 u25 u26 u27 u28 u29 u30 u31 u32 u33 u34 u35 u36 u37 u38 u39 u40 u41 u42 u43 u44 u45 u46 u47 : Nat) (k1 : ClassId) (sz : Nat) (s0 : Int32) (s1 : Int32) (s2 : Int32) (s3 : Int32) (s4 : Int32) : Met l yX13_feed (zw yX13_feed cX13_feed 6 (some .int)) { frames := 1, cells := 0, slots := 0, locals := 22 } (zPc dC dI [.ref h0, .int s0, .int s1, .int s2, .int s3, .int s4] sz [(h0, .inr (13, [.ref h1, .int 0, .ref u0, .ref u1, .int 0, .ref u2, .ref u3, .ref u4, .ref u5, .ref u6, .ref u7, .ref u8, .ref u9, .int 0, .ref u10, .ref u11, .int 0, .ref u12, .int (-1), .ref u13, .int 0, .int 0, .ref u14, .int 0, .int 0, .ref u15, .ref u16, .ref u17, .ref u18, .ref u19, .int 0, .ref u20, .int 0, .int 0, .int 0, .int 0, .int 0, .int 0, .ref u21, .ref u22, .ref u23, .ref u24, .int 0, .ref u25, .ref u26, .ref u27, .ref u28, .int 0, .ref u29, .ref u30, .int 0, .int 0, .ref u31, .int 0, .int 0, .int 0, .ref u32, .ref u33, .ref u34, .int 0, .int 0, .ref u35, .ref u36, .ref u37, .ref u38, .ref u39, .ref u40, .ref u41, .ref u42, .ref u43, .ref u44, .int 0, .ref u45, .ref u46, .ref u47])), (h1, .inl (k1, 600, .inl (fun _ => 0)))] [(k1, .byte)]) (va_Qi (fun (r : Int32) (_ : Unit) => r = 20) (fun (_ : Unit) (t : State) => ∃ (f0 : Nat → Int32), va_P (dC, dI) vwCl [(h0, .inr (13, [.ref h1, .int 20, .ref u0, .ref u1, .int 0, .ref u2, .ref u3, .ref u4, .ref u5, .ref u6, .ref u7, .ref u8, .ref u9, .int 0, .ref u10, .ref u11, .int 0, .ref u12, .int (-1), .ref u13, .int 0, .int 0, .ref u14, .int 0, .int 0, .ref u15, .ref u16, .ref u17, .ref u18, .ref u19, .int 0, .ref u20, .int 0, .int 0, .int 0, .int 0, .int 0, .int 0, .ref u21, .ref u22, .ref u23, .ref u24, .int 0, .ref u25, .ref u26, .ref u27, .ref u28, .int 0, .ref u29, .ref u30, .int 0, .int 0, .ref u31, .int 0, .int 0, .int 0, .ref u32, .ref u33, .ref u34, .int 0, .int 0, .ref u35, .ref u36, .ref u37, .ref u38, .ref u39, .ref u40, .ref u41, .ref u42, .ref u43, .ref u44, .int 0, .ref u45, .ref u46, .ref u47])), (h1, .inl (k1, 600, .inl f0))] t.heap ∧ va_K (dC, dI) vwCl [(k1, .byte)] t ∧ va_D (va_A [(h0, .inr (13, [.ref h1, .int 0, .ref u0, .ref u1, .int 0, .ref u2, .ref u3, .ref u4, .ref u5, .ref u6, .ref u7, .ref u8, .ref u9, .int 0, .ref u10, .ref u11, .int 0, .ref u12, .int (-1), .ref u13, .int 0, .int 0, .ref u14, .int 0, .int 0, .ref u15, .ref u16, .ref u17, .ref u18, .ref u19, .int 0, .ref u20, .int 0, .int 0, .int 0, .int 0, .int 0, .int 0, .ref u21, .ref u22, .ref u23, .ref u24, .int 0, .ref u25, .ref u26, .ref u27, .ref u28, .int 0, .ref u29, .ref u30, .int 0, .int 0, .ref u31, .int 0, .int 0, .int 0, .ref u32, .ref u33, .ref u34, .int 0, .int 0, .ref u35, .ref u36, .ref u37, .ref u38, .ref u39, .ref u40, .ref u41, .ref u42, .ref u43, .ref u44, .int 0, .ref u45, .ref u46, .ref u47])), (h1, .inl (k1, 600, .inl (fun _ => 0)))] sz) [(h0, .inr (13, [.ref h1, .int 20, .ref u0, .ref u1, .int 0, .ref u2, .ref u3, .ref u4, .ref u5, .ref u6, .ref u7, .ref u8, .ref u9, .int 0, .ref u10, .ref u11, .int 0, .ref u12, .int (-1), .ref u13, .int 0, .int 0, .ref u14, .int 0, .int 0, .ref u15, .ref u16, .ref u17, .ref u18, .ref u19, .int 0, .ref u20, .int 0, .int 0, .int 0, .int 0, .int 0, .int 0, .ref u21, .ref u22, .ref u23, .ref u24, .int 0, .ref u25, .ref u26, .ref u27, .ref u28, .int 0, .ref u29, .ref u30, .int 0, .int 0, .ref u31, .int 0, .int 0, .int 0, .ref u32, .ref u33, .ref u34, .int 0, .int 0, .ref u35, .ref u36, .ref u37, .ref u38, .ref u39, .ref u40, .ref u41, .ref u42, .ref u43, .ref u44, .int 0, .ref u45, .ref u46, .ref u47])), (h1, .inl (k1, 600, .inl f0))]) (va_A [(h0, .inr (13, [.ref h1, .int 0, .ref u0, .ref u1, .int 0, .ref u2, .ref u3, .ref u4, .ref u5, .ref u6, .ref u7, .ref u8, .ref u9, .int 0, .ref u10, .ref u11, .int 0, .ref u12, .int (-1), .ref u13, .int 0, .int 0, .ref u14, .int 0, .int 0, .ref u15, .ref u16, .ref u17, .ref u18, .ref u19, .int 0, .ref u20, .int 0, .int 0, .int 0, .int 0, .int 0, .int 0, .ref u21, .ref u22, .ref u23, .ref u24, .int 0, .ref u25, .ref u26, .ref u27, .ref u28, .int 0, .ref u29, .ref u30, .int 0, .int 0, .ref u31, .int 0, .int 0, .int 0, .ref u32, .ref u33, .ref u34, .int 0, .int 0, .ref u35, .ref u36, .ref u37, .ref u38, .ref u39, .ref u40, .ref u41, .ref u42, .ref u43, .ref u44, .int 0, .ref u45, .ref u46, .ref u47])), (h1, .inl (k1, 600, .inl (fun _ => 0)))] sz)) 0 0 (va_A [(h0, .inr (13, [.ref h1, .int 0, .ref u0, .ref u1, .int 0, .ref u2, .ref u3, .ref u4, .ref u5, .ref u6, .ref u7, .ref u8, .ref u9, .int 0, .ref u10, .ref u11, .int 0, .ref u12, .int (-1), .ref u13, .int 0, .int 0, .ref u14, .int 0, .int 0, .ref u15, .ref u16, .ref u17, .ref u18, .ref u19, .int 0, .ref u20, .int 0, .int 0, .int 0, .int 0, .int 0, .int 0, .ref u21, .ref u22, .ref u23, .ref u24, .int 0, .ref u25, .ref u26, .ref u27, .ref u28, .int 0, .ref u29, .ref u30, .int 0, .int 0, .ref u31, .int 0, .int 0, .int 0, .ref u32, .ref u33, .ref u34, .int 0, .int 0, .ref u35, .ref u36, .ref u37, .ref u38, .ref u39, .ref u40, .ref u41, .ref u42, .ref u43, .ref u44, .int 0, .ref u45, .ref u46, .ref u47])), (h1, .inl (k1, 600, .inl (fun _ => 0)))] sz) := by
  refine Met.ofW (cc := cX13_feed) (maxL := 6) (ret := (some .int)) (by decide) rfl ?_
  intro p e s m args below meth c s₁ B hml hv
  obtain ⟨rfl, hsz, hP, hK, hD0, hE, hZ⟩ := hv
  have hx := B.exec
  have hb := B.bytes
  have hr := B.returns
  have hG : ∀ w ∈ zG, w.before _ s = true := fun w h => atoms_spec (ws := (zw yX13_feed cX13_feed 6 (some .int))) B.pre w (List.mem_cons_of_mem _ h)
  have hown : s.vm.findClass RX13 = some m.cls := findClass_of_methodNamed B.named
  have hlocks := B.notSynchronized
  subst hsz
  have hD := hD0.self (sz := s.heap.size)
  generalize hAe : va_A [(h0, .inr (13, [.ref h1, .int 0, .ref u0, .ref u1, .int 0, .ref u2, .ref u3, .ref u4, .ref u5, .ref u6, .ref u7, .ref u8, .ref u9, .int 0, .ref u10, .ref u11, .int 0, .ref u12, .int (-1), .ref u13, .int 0, .int 0, .ref u14, .int 0, .int 0, .ref u15, .ref u16, .ref u17, .ref u18, .ref u19, .int 0, .ref u20, .int 0, .int 0, .int 0, .int 0, .int 0, .int 0, .ref u21, .ref u22, .ref u23, .ref u24, .int 0, .ref u25, .ref u26, .ref u27, .ref u28, .int 0, .ref u29, .ref u30, .int 0, .int 0, .ref u31, .int 0, .int 0, .int 0, .ref u32, .ref u33, .ref u34, .int 0, .int 0, .ref u35, .ref u36, .ref u37, .ref u38, .ref u39, .ref u40, .ref u41, .ref u42, .ref u43, .ref u44, .int 0, .ref u45, .ref u46, .ref u47])), (h1, .inl (k1, 600, .inl (fun _ => 0)))] s.heap.size = A at hD hZ ⊢
  have hA : ∀ q : Nat, s.heap.size ≤ q → A q := fun q h => by rw [← hAe]; exact Or.inr h
  have hS : va_S A s.heap s.heap [] := va_S.rf
  have hl := lv_entry ([.ref h0, .int s0, .int s1, .int s2, .int s3, .int s4]) (n := 6) (Nat.le_of_ble_eq_true rfl)
  rw [lg_entry_eq]
  generalize (lg_sl ([.ref h0, .int s0, .int s1, .int s2, .int s3, .int s4]) ++ List.replicate (6 - (lg_sl ([.ref h0, .int s0, .int s1, .int s2, .int s3, .int s4])).length) Slot.unset).toArray = ls at hl ⊢
  have hl : lv_has ls 6 [(0, .ref h0), (1, .int s0), (2, .int s1), (3, .int s2), (4, .int s3), (5, .int s4)] := hl
  refine lv_aload_n hx hb dX13_feed_0 rfl (lv_at hl 0 rfl) ?_
  refine lv_iconst (v := 0) hx hb dX13_feed_1 (by decide) ?_
  refine va_put (D := (dC, dI)) (ci := 13) (v := .int 0) (ty := .int) (C := RX13) (T := TX13) (N := 75) hx hb hG zuX13 tyX13 tyX13_ok nmX13 hown hK hP hD hS 0 rfl rfl 21 (by decide) (hG _ zw302) (fun _ h9 => h9) rfl (by decide +kernel) rfl rfl (Nat.le_of_ble_eq_true rfl) dX13_feed_2 (fun H locs hP hD hS => ?_)
  have hP : va_P (dC, dI) vwCl [(h0, .inr (13, [.ref h1, .int 0, .ref u0, .ref u1, .int 0, .ref u2, .ref u3, .ref u4, .ref u5, .ref u6, .ref u7, .ref u8, .ref u9, .int 0, .ref u10, .ref u11, .int 0, .ref u12, .int (-1), .ref u13, .int 0, .int 0, .ref u14, .int 0, .int 0, .ref u15, .ref u16, .ref u17, .ref u18, .ref u19, .int 0, .ref u20, .int 0, .int 0, .int 0, .int 0, .int 0, .int 0, .ref u21, .ref u22, .ref u23, .ref u24, .int 0, .ref u25, .ref u26, .ref u27, .ref u28, .int 0, .ref u29, .ref u30, .int 0, .int 0, .ref u31, .int 0, .int 0, .int 0, .ref u32, .ref u33, .ref u34, .int 0, .int 0, .ref u35, .ref u36, .ref u37, .ref u38, .ref u39, .ref u40, .ref u41, .ref u42, .ref u43, .ref u44, .int 0, .ref u45, .ref u46, .ref u47])), (h1, .inl (k1, 600, .inl (fun _ => 0)))] H := hP
  have hD : va_D A [(h0, .inr (13, [.ref h1, .int 0, .ref u0, .ref u1, .int 0, .ref u2, .ref u3, .ref u4, .ref u5, .ref u6, .ref u7, .ref u8, .ref u9, .int 0, .ref u10, .ref u11, .int 0, .ref u12, .int (-1), .ref u13, .int 0, .int 0, .ref u14, .int 0, .int 0, .ref u15, .ref u16, .ref u17, .ref u18, .ref u19, .int 0, .ref u20, .int 0, .int 0, .int 0, .int 0, .int 0, .int 0, .ref u21, .ref u22, .ref u23, .ref u24, .int 0, .ref u25, .ref u26, .ref u27, .ref u28, .int 0, .ref u29, .ref u30, .int 0, .int 0, .ref u31, .int 0, .int 0, .int 0, .ref u32, .ref u33, .ref u34, .int 0, .int 0, .ref u35, .ref u36, .ref u37, .ref u38, .ref u39, .ref u40, .ref u41, .ref u42, .ref u43, .ref u44, .int 0, .ref u45, .ref u46, .ref u47])), (h1, .inl (k1, 600, .inl (fun _ => 0)))] := hD
  refine lv_aload_n hx hb dX13_feed_5 rfl (lv_at hl 0 rfl) ?_
  refine va_get (D := (dC, dI)) (ci := 13) (v := .int 0) (C := RX13) (T := TX13) (N := 75) hx hb hG zuX13 hown hK hP 0 rfl rfl 1 (by decide) (hG _ zw303) (fun _ h9 => h9) rfl dX13_feed_6 ?_
  refine lv_bipush (v := 20) hx hb dX13_feed_9 (by decide) ?_
  refine lv_iadd hx hb dX13_feed_11 ?_
  refine lv_topi (fun z_3618 e_z_3618 => ?_)
  obtain rfl : z_3618 = (20 : Int32) := e_z_3618.trans (by decide)
  refine lv_sipush (v := 600) hx hb dX13_feed_12 (by decide) ?_
  refine lv_icmp_le (tgt := 21) hx hb dX13_feed_15 (by decide) (fun c_3619 => ?_) (fun c_3619 => absurd c_3619 (by decide))
  refine lv_aload_n hx hb dX13_feed_21 rfl (lv_at hl 0 rfl) ?_
  refine lv_iload_n hx hb dX13_feed_22 rfl (lv_at hl 1 rfl) ?_
  have hPc := hP.sub (ws' := [(h0, .inr (13, [.ref h1, .int 0, .ref u0, .ref u1, .int 0, .ref u2, .ref u3, .ref u4, .ref u5, .ref u6, .ref u7, .ref u8, .ref u9, .int 0, .ref u10, .ref u11, .int 0, .ref u12, .int (-1), .ref u13, .int 0, .int 0, .ref u14, .int 0, .int 0, .ref u15, .ref u16, .ref u17, .ref u18, .ref u19, .int 0, .ref u20, .int 0, .int 0, .int 0, .int 0, .int 0, .int 0, .ref u21, .ref u22, .ref u23, .ref u24, .int 0, .ref u25, .ref u26, .ref u27, .ref u28, .int 0, .ref u29, .ref u30, .int 0, .int 0, .ref u31, .int 0, .int 0, .int 0, .ref u32, .ref u33, .ref u34, .int 0, .int 0, .ref u35, .ref u36, .ref u37, .ref u38, .ref u39, .ref u40, .ref u41, .ref u42, .ref u43, .ref u44, .int 0, .ref u45, .ref u46, .ref u47])), (h1, .inl (k1, 600, .inl (fun _ => 0)))]) [0, 1] rfl
  have hDc := hD.sub (ws' := [(h0, .inr (13, [.ref h1, .int 0, .ref u0, .ref u1, .int 0, .ref u2, .ref u3, .ref u4, .ref u5, .ref u6, .ref u7, .ref u8, .ref u9, .int 0, .ref u10, .ref u11, .int 0, .ref u12, .int (-1), .ref u13, .int 0, .int 0, .ref u14, .int 0, .int 0, .ref u15, .ref u16, .ref u17, .ref u18, .ref u19, .int 0, .ref u20, .int 0, .int 0, .int 0, .int 0, .int 0, .int 0, .ref u21, .ref u22, .ref u23, .ref u24, .int 0, .ref u25, .ref u26, .ref u27, .ref u28, .int 0, .ref u29, .ref u30, .int 0, .int 0, .ref u31, .int 0, .int 0, .int 0, .ref u32, .ref u33, .ref u34, .int 0, .int 0, .ref u35, .ref u36, .ref u37, .ref u38, .ref u39, .ref u40, .ref u41, .ref u42, .ref u43, .ref u44, .int 0, .ref u45, .ref u46, .ref u47])), (h1, .inl (k1, 600, .inl (fun _ => 0)))]) [0, 1] (by decide) rfl
  have hKc := hK.sub (tys' := [(k1, .byte)]) [0] rfl
  have hFc := va_free (wc := [(h0, .inr (13, [.ref h1, .int 0, .ref u0, .ref u1, .int 0, .ref u2, .ref u3, .ref u4, .ref u5, .ref u6, .ref u7, .ref u8, .ref u9, .int 0, .ref u10, .ref u11, .int 0, .ref u12, .int (-1), .ref u13, .int 0, .int 0, .ref u14, .int 0, .int 0, .ref u15, .ref u16, .ref u17, .ref u18, .ref u19, .int 0, .ref u20, .int 0, .int 0, .int 0, .int 0, .int 0, .int 0, .ref u21, .ref u22, .ref u23, .ref u24, .int 0, .ref u25, .ref u26, .ref u27, .ref u28, .int 0, .ref u29, .ref u30, .int 0, .int 0, .ref u31, .int 0, .int 0, .int 0, .ref u32, .ref u33, .ref u34, .int 0, .int 0, .ref u35, .ref u36, .ref u37, .ref u38, .ref u39, .ref u40, .ref u41, .ref u42, .ref u43, .ref u44, .int 0, .ref u45, .ref u46, .ref u47])), (h1, .inl (k1, 600, .inl (fun _ => 0)))]) hD hS hA [0, 1] rfl
  refine va_callv (va_runV (As := [.int s0]) (rest := []) ⟨hx, hb, hml, hown, hG⟩ (kX13_lay_0 l dC dI h0 h1 u0 u1 u2 u3 u4 u5 u6 u7 u8 u9 u10 u11 u12 u13 u14 u15 u16 u17 u18 u19 u20 u21 u22 u23 u24 u25 u26 u27 u28 u29 u30 u31 u32 u33 u34 u35 u36 u37 u38 u39 u40 u41 u42 u43 u44 u45 u46 u47 k1 H.size s0) (cwV 1 hG (zgV zw304 zw305 zw306 zw207 zw307) rfl rfl rfl (by decide +kernel) ⟨Nat.le_of_ble_eq_true rfl, Nat.le_of_ble_eq_true rfl⟩) ⟨zPc_blind, va_recv hKc hPc (ci := 13) (q0 := 0) rfl rfl, zPc_pre hPc hKc hDc hE hS hFc hZ⟩ rfl rfl hl.1 rfl (lv_room (Nat.le_of_ble_eq_true rfl)) dX13_feed_23 ⟨Nat.le_of_ble_eq_true rfl, Nat.le_of_ble_eq_true rfl⟩) hS (fun q _ h => hFc q h) hFc (fun u t H1 locs ht hvm hw hB hz1 hk1 hS => ?_)
  obtain ⟨f_3642, hP1, hK1, hD1⟩ := hB
  rw [ht] at hP1
  obtain ⟨hP, hD⟩ := va_join (wr := []) (w1 := [(h0, .inr (13, [.ref h1, .int 4, .ref u0, .ref u1, .int 0, .ref u2, .ref u3, .ref u4, .ref u5, .ref u6, .ref u7, .ref u8, .ref u9, .int 0, .ref u10, .ref u11, .int 0, .ref u12, .int (-1), .ref u13, .int 0, .int 0, .ref u14, .int 0, .int 0, .ref u15, .ref u16, .ref u17, .ref u18, .ref u19, .int 0, .ref u20, .int 0, .int 0, .int 0, .int 0, .int 0, .int 0, .ref u21, .ref u22, .ref u23, .ref u24, .int 0, .ref u25, .ref u26, .ref u27, .ref u28, .int 0, .ref u29, .ref u30, .int 0, .int 0, .ref u31, .int 0, .int 0, .int 0, .ref u32, .ref u33, .ref u34, .int 0, .int 0, .ref u35, .ref u36, .ref u37, .ref u38, .ref u39, .ref u40, .ref u41, .ref u42, .ref u43, .ref u44, .int 0, .ref u45, .ref u46, .ref u47])), (h1, .inl (k1, 600, .inl f_3642))]) hP hD [0, 1] [] rfl rfl (by decide) (by decide) hk1 hFc hP1 hD1
  generalize H1 = H at hP hS ⊢
  have hP : va_P (dC, dI) vwCl [(h0, .inr (13, [.ref h1, .int 4, .ref u0, .ref u1, .int 0, .ref u2, .ref u3, .ref u4, .ref u5, .ref u6, .ref u7, .ref u8, .ref u9, .int 0, .ref u10, .ref u11, .int 0, .ref u12, .int (-1), .ref u13, .int 0, .int 0, .ref u14, .int 0, .int 0, .ref u15, .ref u16, .ref u17, .ref u18, .ref u19, .int 0, .ref u20, .int 0, .int 0, .int 0, .int 0, .int 0, .int 0, .ref u21, .ref u22, .ref u23, .ref u24, .int 0, .ref u25, .ref u26, .ref u27, .ref u28, .int 0, .ref u29, .ref u30, .int 0, .int 0, .ref u31, .int 0, .int 0, .int 0, .ref u32, .ref u33, .ref u34, .int 0, .int 0, .ref u35, .ref u36, .ref u37, .ref u38, .ref u39, .ref u40, .ref u41, .ref u42, .ref u43, .ref u44, .int 0, .ref u45, .ref u46, .ref u47])), (h1, .inl (k1, 600, .inl f_3642))] H := hP
  have hD : va_D A [(h0, .inr (13, [.ref h1, .int 4, .ref u0, .ref u1, .int 0, .ref u2, .ref u3, .ref u4, .ref u5, .ref u6, .ref u7, .ref u8, .ref u9, .int 0, .ref u10, .ref u11, .int 0, .ref u12, .int (-1), .ref u13, .int 0, .int 0, .ref u14, .int 0, .int 0, .ref u15, .ref u16, .ref u17, .ref u18, .ref u19, .int 0, .ref u20, .int 0, .int 0, .int 0, .int 0, .int 0, .int 0, .ref u21, .ref u22, .ref u23, .ref u24, .int 0, .ref u25, .ref u26, .ref u27, .ref u28, .int 0, .ref u29, .ref u30, .int 0, .int 0, .ref u31, .int 0, .int 0, .int 0, .ref u32, .ref u33, .ref u34, .int 0, .int 0, .ref u35, .ref u36, .ref u37, .ref u38, .ref u39, .ref u40, .ref u41, .ref u42, .ref u43, .ref u44, .int 0, .ref u45, .ref u46, .ref u47])), (h1, .inl (k1, 600, .inl f_3642))] := hD
  refine lv_aload_n hx hb dX13_feed_26 rfl (lv_at hl 0 rfl) ?_
  refine lv_iload_n hx hb dX13_feed_27 rfl (lv_at hl 2 rfl) ?_
  have hPc := hP.sub (ws' := [(h0, .inr (13, [.ref h1, .int 4, .ref u0, .ref u1, .int 0, .ref u2, .ref u3, .ref u4, .ref u5, .ref u6, .ref u7, .ref u8, .ref u9, .int 0, .ref u10, .ref u11, .int 0, .ref u12, .int (-1), .ref u13, .int 0, .int 0, .ref u14, .int 0, .int 0, .ref u15, .ref u16, .ref u17, .ref u18, .ref u19, .int 0, .ref u20, .int 0, .int 0, .int 0, .int 0, .int 0, .int 0, .ref u21, .ref u22, .ref u23, .ref u24, .int 0, .ref u25, .ref u26, .ref u27, .ref u28, .int 0, .ref u29, .ref u30, .int 0, .int 0, .ref u31, .int 0, .int 0, .int 0, .ref u32, .ref u33, .ref u34, .int 0, .int 0, .ref u35, .ref u36, .ref u37, .ref u38, .ref u39, .ref u40, .ref u41, .ref u42, .ref u43, .ref u44, .int 0, .ref u45, .ref u46, .ref u47])), (h1, .inl (k1, 600, .inl f_3642))]) [0, 1] rfl
  have hDc := hD.sub (ws' := [(h0, .inr (13, [.ref h1, .int 4, .ref u0, .ref u1, .int 0, .ref u2, .ref u3, .ref u4, .ref u5, .ref u6, .ref u7, .ref u8, .ref u9, .int 0, .ref u10, .ref u11, .int 0, .ref u12, .int (-1), .ref u13, .int 0, .int 0, .ref u14, .int 0, .int 0, .ref u15, .ref u16, .ref u17, .ref u18, .ref u19, .int 0, .ref u20, .int 0, .int 0, .int 0, .int 0, .int 0, .int 0, .ref u21, .ref u22, .ref u23, .ref u24, .int 0, .ref u25, .ref u26, .ref u27, .ref u28, .int 0, .ref u29, .ref u30, .int 0, .int 0, .ref u31, .int 0, .int 0, .int 0, .ref u32, .ref u33, .ref u34, .int 0, .int 0, .ref u35, .ref u36, .ref u37, .ref u38, .ref u39, .ref u40, .ref u41, .ref u42, .ref u43, .ref u44, .int 0, .ref u45, .ref u46, .ref u47])), (h1, .inl (k1, 600, .inl f_3642))]) [0, 1] (by decide) rfl
  have hKc := hK.sub (tys' := [(k1, .byte)]) [0] rfl
  have hFc := va_free (wc := [(h0, .inr (13, [.ref h1, .int 4, .ref u0, .ref u1, .int 0, .ref u2, .ref u3, .ref u4, .ref u5, .ref u6, .ref u7, .ref u8, .ref u9, .int 0, .ref u10, .ref u11, .int 0, .ref u12, .int (-1), .ref u13, .int 0, .int 0, .ref u14, .int 0, .int 0, .ref u15, .ref u16, .ref u17, .ref u18, .ref u19, .int 0, .ref u20, .int 0, .int 0, .int 0, .int 0, .int 0, .int 0, .ref u21, .ref u22, .ref u23, .ref u24, .int 0, .ref u25, .ref u26, .ref u27, .ref u28, .int 0, .ref u29, .ref u30, .int 0, .int 0, .ref u31, .int 0, .int 0, .int 0, .ref u32, .ref u33, .ref u34, .int 0, .int 0, .ref u35, .ref u36, .ref u37, .ref u38, .ref u39, .ref u40, .ref u41, .ref u42, .ref u43, .ref u44, .int 0, .ref u45, .ref u46, .ref u47])), (h1, .inl (k1, 600, .inl f_3642))]) hD hS hA [0, 1] rfl
  refine va_callv (va_runV (As := [.int s1]) (rest := []) ⟨hx, hb, hml, hown, hG⟩ (kX13_lay_1 l dC dI h0 h1 u0 u1 u2 u3 u4 u5 u6 u7 u8 u9 u10 u11 u12 u13 u14 u15 u16 u17 u18 u19 u20 u21 u22 u23 u24 u25 u26 u27 u28 u29 u30 u31 u32 u33 u34 u35 u36 u37 u38 u39 u40 u41 u42 u43 u44 u45 u46 u47 k1 H.size s1 f_3642) (cwV 1 hG (zgV zw304 zw305 zw306 zw207 zw307) rfl rfl rfl (by decide +kernel) ⟨Nat.le_of_ble_eq_true rfl, Nat.le_of_ble_eq_true rfl⟩) ⟨zPc_blind, va_recv hKc hPc (ci := 13) (q0 := 0) rfl rfl, zPc_pre hPc hKc hDc hE hS hFc hZ⟩ rfl rfl hl.1 rfl (lv_room (Nat.le_of_ble_eq_true rfl)) dX13_feed_28 ⟨Nat.le_of_ble_eq_true rfl, Nat.le_of_ble_eq_true rfl⟩) hS (fun q _ h => hFc q h) hFc (fun u t H1 locs ht hvm hw hB hz1 hk1 hS => ?_)
  obtain ⟨f_3665, hP1, hK1, hD1⟩ := hB
  rw [ht] at hP1
  obtain ⟨hP, hD⟩ := va_join (wr := []) (w1 := [(h0, .inr (13, [.ref h1, .int 8, .ref u0, .ref u1, .int 0, .ref u2, .ref u3, .ref u4, .ref u5, .ref u6, .ref u7, .ref u8, .ref u9, .int 0, .ref u10, .ref u11, .int 0, .ref u12, .int (-1), .ref u13, .int 0, .int 0, .ref u14, .int 0, .int 0, .ref u15, .ref u16, .ref u17, .ref u18, .ref u19, .int 0, .ref u20, .int 0, .int 0, .int 0, .int 0, .int 0, .int 0, .ref u21, .ref u22, .ref u23, .ref u24, .int 0, .ref u25, .ref u26, .ref u27, .ref u28, .int 0, .ref u29, .ref u30, .int 0, .int 0, .ref u31, .int 0, .int 0, .int 0, .ref u32, .ref u33, .ref u34, .int 0, .int 0, .ref u35, .ref u36, .ref u37, .ref u38, .ref u39, .ref u40, .ref u41, .ref u42, .ref u43, .ref u44, .int 0, .ref u45, .ref u46, .ref u47])), (h1, .inl (k1, 600, .inl f_3665))]) hP hD [0, 1] [] rfl rfl (by decide) (by decide) hk1 hFc hP1 hD1
  generalize H1 = H at hP hS ⊢
  have hP : va_P (dC, dI) vwCl [(h0, .inr (13, [.ref h1, .int 8, .ref u0, .ref u1, .int 0, .ref u2, .ref u3, .ref u4, .ref u5, .ref u6, .ref u7, .ref u8, .ref u9, .int 0, .ref u10, .ref u11, .int 0, .ref u12, .int (-1), .ref u13, .int 0, .int 0, .ref u14, .int 0, .int 0, .ref u15, .ref u16, .ref u17, .ref u18, .ref u19, .int 0, .ref u20, .int 0, .int 0, .int 0, .int 0, .int 0, .int 0, .ref u21, .ref u22, .ref u23, .ref u24, .int 0, .ref u25, .ref u26, .ref u27, .ref u28, .int 0, .ref u29, .ref u30, .int 0, .int 0, .ref u31, .int 0, .int 0, .int 0, .ref u32, .ref u33, .ref u34, .int 0, .int 0, .ref u35, .ref u36, .ref u37, .ref u38, .ref u39, .ref u40, .ref u41, .ref u42, .ref u43, .ref u44, .int 0, .ref u45, .ref u46, .ref u47])), (h1, .inl (k1, 600, .inl f_3665))] H := hP
  have hD : va_D A [(h0, .inr (13, [.ref h1, .int 8, .ref u0, .ref u1, .int 0, .ref u2, .ref u3, .ref u4, .ref u5, .ref u6, .ref u7, .ref u8, .ref u9, .int 0, .ref u10, .ref u11, .int 0, .ref u12, .int (-1), .ref u13, .int 0, .int 0, .ref u14, .int 0, .int 0, .ref u15, .ref u16, .ref u17, .ref u18, .ref u19, .int 0, .ref u20, .int 0, .int 0, .int 0, .int 0, .int 0, .int 0, .ref u21, .ref u22, .ref u23, .ref u24, .int 0, .ref u25, .ref u26, .ref u27, .ref u28, .int 0, .ref u29, .ref u30, .int 0, .int 0, .ref u31, .int 0, .int 0, .int 0, .ref u32, .ref u33, .ref u34, .int 0, .int 0, .ref u35, .ref u36, .ref u37, .ref u38, .ref u39, .ref u40, .ref u41, .ref u42, .ref u43, .ref u44, .int 0, .ref u45, .ref u46, .ref u47])), (h1, .inl (k1, 600, .inl f_3665))] := hD
  refine lv_aload_n hx hb dX13_feed_31 rfl (lv_at hl 0 rfl) ?_
  refine lv_iload_n hx hb dX13_feed_32 rfl (lv_at hl 3 rfl) ?_
  have hPc := hP.sub (ws' := [(h0, .inr (13, [.ref h1, .int 8, .ref u0, .ref u1, .int 0, .ref u2, .ref u3, .ref u4, .ref u5, .ref u6, .ref u7, .ref u8, .ref u9, .int 0, .ref u10, .ref u11, .int 0, .ref u12, .int (-1), .ref u13, .int 0, .int 0, .ref u14, .int 0, .int 0, .ref u15, .ref u16, .ref u17, .ref u18, .ref u19, .int 0, .ref u20, .int 0, .int 0, .int 0, .int 0, .int 0, .int 0, .ref u21, .ref u22, .ref u23, .ref u24, .int 0, .ref u25, .ref u26, .ref u27, .ref u28, .int 0, .ref u29, .ref u30, .int 0, .int 0, .ref u31, .int 0, .int 0, .int 0, .ref u32, .ref u33, .ref u34, .int 0, .int 0, .ref u35, .ref u36, .ref u37, .ref u38, .ref u39, .ref u40, .ref u41, .ref u42, .ref u43, .ref u44, .int 0, .ref u45, .ref u46, .ref u47])), (h1, .inl (k1, 600, .inl f_3665))]) [0, 1] rfl
  have hDc := hD.sub (ws' := [(h0, .inr (13, [.ref h1, .int 8, .ref u0, .ref u1, .int 0, .ref u2, .ref u3, .ref u4, .ref u5, .ref u6, .ref u7, .ref u8, .ref u9, .int 0, .ref u10, .ref u11, .int 0, .ref u12, .int (-1), .ref u13, .int 0, .int 0, .ref u14, .int 0, .int 0, .ref u15, .ref u16, .ref u17, .ref u18, .ref u19, .int 0, .ref u20, .int 0, .int 0, .int 0, .int 0, .int 0, .int 0, .ref u21, .ref u22, .ref u23, .ref u24, .int 0, .ref u25, .ref u26, .ref u27, .ref u28, .int 0, .ref u29, .ref u30, .int 0, .int 0, .ref u31, .int 0, .int 0, .int 0, .ref u32, .ref u33, .ref u34, .int 0, .int 0, .ref u35, .ref u36, .ref u37, .ref u38, .ref u39, .ref u40, .ref u41, .ref u42, .ref u43, .ref u44, .int 0, .ref u45, .ref u46, .ref u47])), (h1, .inl (k1, 600, .inl f_3665))]) [0, 1] (by decide) rfl
  have hKc := hK.sub (tys' := [(k1, .byte)]) [0] rfl
  have hFc := va_free (wc := [(h0, .inr (13, [.ref h1, .int 8, .ref u0, .ref u1, .int 0, .ref u2, .ref u3, .ref u4, .ref u5, .ref u6, .ref u7, .ref u8, .ref u9, .int 0, .ref u10, .ref u11, .int 0, .ref u12, .int (-1), .ref u13, .int 0, .int 0, .ref u14, .int 0, .int 0, .ref u15, .ref u16, .ref u17, .ref u18, .ref u19, .int 0, .ref u20, .int 0, .int 0, .int 0, .int 0, .int 0, .int 0, .ref u21, .ref u22, .ref u23, .ref u24, .int 0, .ref u25, .ref u26, .ref u27, .ref u28, .int 0, .ref u29, .ref u30, .int 0, .int 0, .ref u31, .int 0, .int 0, .int 0, .ref u32, .ref u33, .ref u34, .int 0, .int 0, .ref u35, .ref u36, .ref u37, .ref u38, .ref u39, .ref u40, .ref u41, .ref u42, .ref u43, .ref u44, .int 0, .ref u45, .ref u46, .ref u47])), (h1, .inl (k1, 600, .inl f_3665))]) hD hS hA [0, 1] rfl
  refine va_callv (va_runV (As := [.int s2]) (rest := []) ⟨hx, hb, hml, hown, hG⟩ (kX13_lay_2 l dC dI h0 h1 u0 u1 u2 u3 u4 u5 u6 u7 u8 u9 u10 u11 u12 u13 u14 u15 u16 u17 u18 u19 u20 u21 u22 u23 u24 u25 u26 u27 u28 u29 u30 u31 u32 u33 u34 u35 u36 u37 u38 u39 u40 u41 u42 u43 u44 u45 u46 u47 k1 H.size s2 f_3665) (cwV 1 hG (zgV zw304 zw305 zw306 zw207 zw307) rfl rfl rfl (by decide +kernel) ⟨Nat.le_of_ble_eq_true rfl, Nat.le_of_ble_eq_true rfl⟩) ⟨zPc_blind, va_recv hKc hPc (ci := 13) (q0 := 0) rfl rfl, zPc_pre hPc hKc hDc hE hS hFc hZ⟩ rfl rfl hl.1 rfl (lv_room (Nat.le_of_ble_eq_true rfl)) dX13_feed_33 ⟨Nat.le_of_ble_eq_true rfl, Nat.le_of_ble_eq_true rfl⟩) hS (fun q _ h => hFc q h) hFc (fun u t H1 locs ht hvm hw hB hz1 hk1 hS => ?_)
  obtain ⟨f_3688, hP1, hK1, hD1⟩ := hB
  rw [ht] at hP1
  obtain ⟨hP, hD⟩ := va_join (wr := []) (w1 := [(h0, .inr (13, [.ref h1, .int 12, .ref u0, .ref u1, .int 0, .ref u2, .ref u3, .ref u4, .ref u5, .ref u6, .ref u7, .ref u8, .ref u9, .int 0, .ref u10, .ref u11, .int 0, .ref u12, .int (-1), .ref u13, .int 0, .int 0, .ref u14, .int 0, .int 0, .ref u15, .ref u16, .ref u17, .ref u18, .ref u19, .int 0, .ref u20, .int 0, .int 0, .int 0, .int 0, .int 0, .int 0, .ref u21, .ref u22, .ref u23, .ref u24, .int 0, .ref u25, .ref u26, .ref u27, .ref u28, .int 0, .ref u29, .ref u30, .int 0, .int 0, .ref u31, .int 0, .int 0, .int 0, .ref u32, .ref u33, .ref u34, .int 0, .int 0, .ref u35, .ref u36, .ref u37, .ref u38, .ref u39, .ref u40, .ref u41, .ref u42, .ref u43, .ref u44, .int 0, .ref u45, .ref u46, .ref u47])), (h1, .inl (k1, 600, .inl f_3688))]) hP hD [0, 1] [] rfl rfl (by decide) (by decide) hk1 hFc hP1 hD1
  generalize H1 = H at hP hS ⊢
  have hP : va_P (dC, dI) vwCl [(h0, .inr (13, [.ref h1, .int 12, .ref u0, .ref u1, .int 0, .ref u2, .ref u3, .ref u4, .ref u5, .ref u6, .ref u7, .ref u8, .ref u9, .int 0, .ref u10, .ref u11, .int 0, .ref u12, .int (-1), .ref u13, .int 0, .int 0, .ref u14, .int 0, .int 0, .ref u15, .ref u16, .ref u17, .ref u18, .ref u19, .int 0, .ref u20, .int 0, .int 0, .int 0, .int 0, .int 0, .int 0, .ref u21, .ref u22, .ref u23, .ref u24, .int 0, .ref u25, .ref u26, .ref u27, .ref u28, .int 0, .ref u29, .ref u30, .int 0, .int 0, .ref u31, .int 0, .int 0, .int 0, .ref u32, .ref u33, .ref u34, .int 0, .int 0, .ref u35, .ref u36, .ref u37, .ref u38, .ref u39, .ref u40, .ref u41, .ref u42, .ref u43, .ref u44, .int 0, .ref u45, .ref u46, .ref u47])), (h1, .inl (k1, 600, .inl f_3688))] H := hP
  have hD : va_D A [(h0, .inr (13, [.ref h1, .int 12, .ref u0, .ref u1, .int 0, .ref u2, .ref u3, .ref u4, .ref u5, .ref u6, .ref u7, .ref u8, .ref u9, .int 0, .ref u10, .ref u11, .int 0, .ref u12, .int (-1), .ref u13, .int 0, .int 0, .ref u14, .int 0, .int 0, .ref u15, .ref u16, .ref u17, .ref u18, .ref u19, .int 0, .ref u20, .int 0, .int 0, .int 0, .int 0, .int 0, .int 0, .ref u21, .ref u22, .ref u23, .ref u24, .int 0, .ref u25, .ref u26, .ref u27, .ref u28, .int 0, .ref u29, .ref u30, .int 0, .int 0, .ref u31, .int 0, .int 0, .int 0, .ref u32, .ref u33, .ref u34, .int 0, .int 0, .ref u35, .ref u36, .ref u37, .ref u38, .ref u39, .ref u40, .ref u41, .ref u42, .ref u43, .ref u44, .int 0, .ref u45, .ref u46, .ref u47])), (h1, .inl (k1, 600, .inl f_3688))] := hD
  refine lv_aload_n hx hb dX13_feed_36 rfl (lv_at hl 0 rfl) ?_
  refine lv_iload hx hb dX13_feed_37 (lv_at hl 4 rfl) ?_
  have hPc := hP.sub (ws' := [(h0, .inr (13, [.ref h1, .int 12, .ref u0, .ref u1, .int 0, .ref u2, .ref u3, .ref u4, .ref u5, .ref u6, .ref u7, .ref u8, .ref u9, .int 0, .ref u10, .ref u11, .int 0, .ref u12, .int (-1), .ref u13, .int 0, .int 0, .ref u14, .int 0, .int 0, .ref u15, .ref u16, .ref u17, .ref u18, .ref u19, .int 0, .ref u20, .int 0, .int 0, .int 0, .int 0, .int 0, .int 0, .ref u21, .ref u22, .ref u23, .ref u24, .int 0, .ref u25, .ref u26, .ref u27, .ref u28, .int 0, .ref u29, .ref u30, .int 0, .int 0, .ref u31, .int 0, .int 0, .int 0, .ref u32, .ref u33, .ref u34, .int 0, .int 0, .ref u35, .ref u36, .ref u37, .ref u38, .ref u39, .ref u40, .ref u41, .ref u42, .ref u43, .ref u44, .int 0, .ref u45, .ref u46, .ref u47])), (h1, .inl (k1, 600, .inl f_3688))]) [0, 1] rfl
  have hDc := hD.sub (ws' := [(h0, .inr (13, [.ref h1, .int 12, .ref u0, .ref u1, .int 0, .ref u2, .ref u3, .ref u4, .ref u5, .ref u6, .ref u7, .ref u8, .ref u9, .int 0, .ref u10, .ref u11, .int 0, .ref u12, .int (-1), .ref u13, .int 0, .int 0, .ref u14, .int 0, .int 0, .ref u15, .ref u16, .ref u17, .ref u18, .ref u19, .int 0, .ref u20, .int 0, .int 0, .int 0, .int 0, .int 0, .int 0, .ref u21, .ref u22, .ref u23, .ref u24, .int 0, .ref u25, .ref u26, .ref u27, .ref u28, .int 0, .ref u29, .ref u30, .int 0, .int 0, .ref u31, .int 0, .int 0, .int 0, .ref u32, .ref u33, .ref u34, .int 0, .int 0, .ref u35, .ref u36, .ref u37, .ref u38, .ref u39, .ref u40, .ref u41, .ref u42, .ref u43, .ref u44, .int 0, .ref u45, .ref u46, .ref u47])), (h1, .inl (k1, 600, .inl f_3688))]) [0, 1] (by decide) rfl
  have hKc := hK.sub (tys' := [(k1, .byte)]) [0] rfl
  have hFc := va_free (wc := [(h0, .inr (13, [.ref h1, .int 12, .ref u0, .ref u1, .int 0, .ref u2, .ref u3, .ref u4, .ref u5, .ref u6, .ref u7, .ref u8, .ref u9, .int 0, .ref u10, .ref u11, .int 0, .ref u12, .int (-1), .ref u13, .int 0, .int 0, .ref u14, .int 0, .int 0, .ref u15, .ref u16, .ref u17, .ref u18, .ref u19, .int 0, .ref u20, .int 0, .int 0, .int 0, .int 0, .int 0, .int 0, .ref u21, .ref u22, .ref u23, .ref u24, .int 0, .ref u25, .ref u26, .ref u27, .ref u28, .int 0, .ref u29, .ref u30, .int 0, .int 0, .ref u31, .int 0, .int 0, .int 0, .ref u32, .ref u33, .ref u34, .int 0, .int 0, .ref u35, .ref u36, .ref u37, .ref u38, .ref u39, .ref u40, .ref u41, .ref u42, .ref u43, .ref u44, .int 0, .ref u45, .ref u46, .ref u47])), (h1, .inl (k1, 600, .inl f_3688))]) hD hS hA [0, 1] rfl
  refine va_callv (va_runV (As := [.int s3]) (rest := []) ⟨hx, hb, hml, hown, hG⟩ (kX13_lay_3 l dC dI h0 h1 u0 u1 u2 u3 u4 u5 u6 u7 u8 u9 u10 u11 u12 u13 u14 u15 u16 u17 u18 u19 u20 u21 u22 u23 u24 u25 u26 u27 u28 u29 u30 u31 u32 u33 u34 u35 u36 u37 u38 u39 u40 u41 u42 u43 u44 u45 u46 u47 k1 H.size s3 f_3688) (cwV 1 hG (zgV zw304 zw305 zw306 zw207 zw307) rfl rfl rfl (by decide +kernel) ⟨Nat.le_of_ble_eq_true rfl, Nat.le_of_ble_eq_true rfl⟩) ⟨zPc_blind, va_recv hKc hPc (ci := 13) (q0 := 0) rfl rfl, zPc_pre hPc hKc hDc hE hS hFc hZ⟩ rfl rfl hl.1 rfl (lv_room (Nat.le_of_ble_eq_true rfl)) dX13_feed_39 ⟨Nat.le_of_ble_eq_true rfl, Nat.le_of_ble_eq_true rfl⟩) hS (fun q _ h => hFc q h) hFc (fun u t H1 locs ht hvm hw hB hz1 hk1 hS => ?_)
  obtain ⟨f_3711, hP1, hK1, hD1⟩ := hB
  rw [ht] at hP1
  obtain ⟨hP, hD⟩ := va_join (wr := []) (w1 := [(h0, .inr (13, [.ref h1, .int 16, .ref u0, .ref u1, .int 0, .ref u2, .ref u3, .ref u4, .ref u5, .ref u6, .ref u7, .ref u8, .ref u9, .int 0, .ref u10, .ref u11, .int 0, .ref u12, .int (-1), .ref u13, .int 0, .int 0, .ref u14, .int 0, .int 0, .ref u15, .ref u16, .ref u17, .ref u18, .ref u19, .int 0, .ref u20, .int 0, .int 0, .int 0, .int 0, .int 0, .int 0, .ref u21, .ref u22, .ref u23, .ref u24, .int 0, .ref u25, .ref u26, .ref u27, .ref u28, .int 0, .ref u29, .ref u30, .int 0, .int 0, .ref u31, .int 0, .int 0, .int 0, .ref u32, .ref u33, .ref u34, .int 0, .int 0, .ref u35, .ref u36, .ref u37, .ref u38, .ref u39, .ref u40, .ref u41, .ref u42, .ref u43, .ref u44, .int 0, .ref u45, .ref u46, .ref u47])), (h1, .inl (k1, 600, .inl f_3711))]) hP hD [0, 1] [] rfl rfl (by decide) (by decide) hk1 hFc hP1 hD1
  generalize H1 = H at hP hS ⊢
  have hP : va_P (dC, dI) vwCl [(h0, .inr (13, [.ref h1, .int 16, .ref u0, .ref u1, .int 0, .ref u2, .ref u3, .ref u4, .ref u5, .ref u6, .ref u7, .ref u8, .ref u9, .int 0, .ref u10, .ref u11, .int 0, .ref u12, .int (-1), .ref u13, .int 0, .int 0, .ref u14, .int 0, .int 0, .ref u15, .ref u16, .ref u17, .ref u18, .ref u19, .int 0, .ref u20, .int 0, .int 0, .int 0, .int 0, .int 0, .int 0, .ref u21, .ref u22, .ref u23, .ref u24, .int 0, .ref u25, .ref u26, .ref u27, .ref u28, .int 0, .ref u29, .ref u30, .int 0, .int 0, .ref u31, .int 0, .int 0, .int 0, .ref u32, .ref u33, .ref u34, .int 0, .int 0, .ref u35, .ref u36, .ref u37, .ref u38, .ref u39, .ref u40, .ref u41, .ref u42, .ref u43, .ref u44, .int 0, .ref u45, .ref u46, .ref u47])), (h1, .inl (k1, 600, .inl f_3711))] H := hP
  have hD : va_D A [(h0, .inr (13, [.ref h1, .int 16, .ref u0, .ref u1, .int 0, .ref u2, .ref u3, .ref u4, .ref u5, .ref u6, .ref u7, .ref u8, .ref u9, .int 0, .ref u10, .ref u11, .int 0, .ref u12, .int (-1), .ref u13, .int 0, .int 0, .ref u14, .int 0, .int 0, .ref u15, .ref u16, .ref u17, .ref u18, .ref u19, .int 0, .ref u20, .int 0, .int 0, .int 0, .int 0, .int 0, .int 0, .ref u21, .ref u22, .ref u23, .ref u24, .int 0, .ref u25, .ref u26, .ref u27, .ref u28, .int 0, .ref u29, .ref u30, .int 0, .int 0, .ref u31, .int 0, .int 0, .int 0, .ref u32, .ref u33, .ref u34, .int 0, .int 0, .ref u35, .ref u36, .ref u37, .ref u38, .ref u39, .ref u40, .ref u41, .ref u42, .ref u43, .ref u44, .int 0, .ref u45, .ref u46, .ref u47])), (h1, .inl (k1, 600, .inl f_3711))] := hD
  refine lv_aload_n hx hb dX13_feed_42 rfl (lv_at hl 0 rfl) ?_
  refine lv_iload hx hb dX13_feed_43 (lv_at hl 5 rfl) ?_
  have hPc := hP.sub (ws' := [(h0, .inr (13, [.ref h1, .int 16, .ref u0, .ref u1, .int 0, .ref u2, .ref u3, .ref u4, .ref u5, .ref u6, .ref u7, .ref u8, .ref u9, .int 0, .ref u10, .ref u11, .int 0, .ref u12, .int (-1), .ref u13, .int 0, .int 0, .ref u14, .int 0, .int 0, .ref u15, .ref u16, .ref u17, .ref u18, .ref u19, .int 0, .ref u20, .int 0, .int 0, .int 0, .int 0, .int 0, .int 0, .ref u21, .ref u22, .ref u23, .ref u24, .int 0, .ref u25, .ref u26, .ref u27, .ref u28, .int 0, .ref u29, .ref u30, .int 0, .int 0, .ref u31, .int 0, .int 0, .int 0, .ref u32, .ref u33, .ref u34, .int 0, .int 0, .ref u35, .ref u36, .ref u37, .ref u38, .ref u39, .ref u40, .ref u41, .ref u42, .ref u43, .ref u44, .int 0, .ref u45, .ref u46, .ref u47])), (h1, .inl (k1, 600, .inl f_3711))]) [0, 1] rfl
  have hDc := hD.sub (ws' := [(h0, .inr (13, [.ref h1, .int 16, .ref u0, .ref u1, .int 0, .ref u2, .ref u3, .ref u4, .ref u5, .ref u6, .ref u7, .ref u8, .ref u9, .int 0, .ref u10, .ref u11, .int 0, .ref u12, .int (-1), .ref u13, .int 0, .int 0, .ref u14, .int 0, .int 0, .ref u15, .ref u16, .ref u17, .ref u18, .ref u19, .int 0, .ref u20, .int 0, .int 0, .int 0, .int 0, .int 0, .int 0, .ref u21, .ref u22, .ref u23, .ref u24, .int 0, .ref u25, .ref u26, .ref u27, .ref u28, .int 0, .ref u29, .ref u30, .int 0, .int 0, .ref u31, .int 0, .int 0, .int 0, .ref u32, .ref u33, .ref u34, .int 0, .int 0, .ref u35, .ref u36, .ref u37, .ref u38, .ref u39, .ref u40, .ref u41, .ref u42, .ref u43, .ref u44, .int 0, .ref u45, .ref u46, .ref u47])), (h1, .inl (k1, 600, .inl f_3711))]) [0, 1] (by decide) rfl
  have hKc := hK.sub (tys' := [(k1, .byte)]) [0] rfl
  have hFc := va_free (wc := [(h0, .inr (13, [.ref h1, .int 16, .ref u0, .ref u1, .int 0, .ref u2, .ref u3, .ref u4, .ref u5, .ref u6, .ref u7, .ref u8, .ref u9, .int 0, .ref u10, .ref u11, .int 0, .ref u12, .int (-1), .ref u13, .int 0, .int 0, .ref u14, .int 0, .int 0, .ref u15, .ref u16, .ref u17, .ref u18, .ref u19, .int 0, .ref u20, .int 0, .int 0, .int 0, .int 0, .int 0, .int 0, .ref u21, .ref u22, .ref u23, .ref u24, .int 0, .ref u25, .ref u26, .ref u27, .ref u28, .int 0, .ref u29, .ref u30, .int 0, .int 0, .ref u31, .int 0, .int 0, .int 0, .ref u32, .ref u33, .ref u34, .int 0, .int 0, .ref u35, .ref u36, .ref u37, .ref u38, .ref u39, .ref u40, .ref u41, .ref u42, .ref u43, .ref u44, .int 0, .ref u45, .ref u46, .ref u47])), (h1, .inl (k1, 600, .inl f_3711))]) hD hS hA [0, 1] rfl
  refine va_callv (va_runV (As := [.int s4]) (rest := []) ⟨hx, hb, hml, hown, hG⟩ (kX13_lay_4 l dC dI h0 h1 u0 u1 u2 u3 u4 u5 u6 u7 u8 u9 u10 u11 u12 u13 u14 u15 u16 u17 u18 u19 u20 u21 u22 u23 u24 u25 u26 u27 u28 u29 u30 u31 u32 u33 u34 u35 u36 u37 u38 u39 u40 u41 u42 u43 u44 u45 u46 u47 k1 H.size s4 f_3711) (cwV 1 hG (zgV zw304 zw305 zw306 zw207 zw307) rfl rfl rfl (by decide +kernel) ⟨Nat.le_of_ble_eq_true rfl, Nat.le_of_ble_eq_true rfl⟩) ⟨zPc_blind, va_recv hKc hPc (ci := 13) (q0 := 0) rfl rfl, zPc_pre hPc hKc hDc hE hS hFc hZ⟩ rfl rfl hl.1 rfl (lv_room (Nat.le_of_ble_eq_true rfl)) dX13_feed_45 ⟨Nat.le_of_ble_eq_true rfl, Nat.le_of_ble_eq_true rfl⟩) hS (fun q _ h => hFc q h) hFc (fun u t H1 locs ht hvm hw hB hz1 hk1 hS => ?_)
  obtain ⟨f_3734, hP1, hK1, hD1⟩ := hB
  rw [ht] at hP1
  obtain ⟨hP, hD⟩ := va_join (wr := []) (w1 := [(h0, .inr (13, [.ref h1, .int 20, .ref u0, .ref u1, .int 0, .ref u2, .ref u3, .ref u4, .ref u5, .ref u6, .ref u7, .ref u8, .ref u9, .int 0, .ref u10, .ref u11, .int 0, .ref u12, .int (-1), .ref u13, .int 0, .int 0, .ref u14, .int 0, .int 0, .ref u15, .ref u16, .ref u17, .ref u18, .ref u19, .int 0, .ref u20, .int 0, .int 0, .int 0, .int 0, .int 0, .int 0, .ref u21, .ref u22, .ref u23, .ref u24, .int 0, .ref u25, .ref u26, .ref u27, .ref u28, .int 0, .ref u29, .ref u30, .int 0, .int 0, .ref u31, .int 0, .int 0, .int 0, .ref u32, .ref u33, .ref u34, .int 0, .int 0, .ref u35, .ref u36, .ref u37, .ref u38, .ref u39, .ref u40, .ref u41, .ref u42, .ref u43, .ref u44, .int 0, .ref u45, .ref u46, .ref u47])), (h1, .inl (k1, 600, .inl f_3734))]) hP hD [0, 1] [] rfl rfl (by decide) (by decide) hk1 hFc hP1 hD1
  generalize H1 = H at hP hS ⊢
  have hP : va_P (dC, dI) vwCl [(h0, .inr (13, [.ref h1, .int 20, .ref u0, .ref u1, .int 0, .ref u2, .ref u3, .ref u4, .ref u5, .ref u6, .ref u7, .ref u8, .ref u9, .int 0, .ref u10, .ref u11, .int 0, .ref u12, .int (-1), .ref u13, .int 0, .int 0, .ref u14, .int 0, .int 0, .ref u15, .ref u16, .ref u17, .ref u18, .ref u19, .int 0, .ref u20, .int 0, .int 0, .int 0, .int 0, .int 0, .int 0, .ref u21, .ref u22, .ref u23, .ref u24, .int 0, .ref u25, .ref u26, .ref u27, .ref u28, .int 0, .ref u29, .ref u30, .int 0, .int 0, .ref u31, .int 0, .int 0, .int 0, .ref u32, .ref u33, .ref u34, .int 0, .int 0, .ref u35, .ref u36, .ref u37, .ref u38, .ref u39, .ref u40, .ref u41, .ref u42, .ref u43, .ref u44, .int 0, .ref u45, .ref u46, .ref u47])), (h1, .inl (k1, 600, .inl f_3734))] H := hP
  have hD : va_D A [(h0, .inr (13, [.ref h1, .int 20, .ref u0, .ref u1, .int 0, .ref u2, .ref u3, .ref u4, .ref u5, .ref u6, .ref u7, .ref u8, .ref u9, .int 0, .ref u10, .ref u11, .int 0, .ref u12, .int (-1), .ref u13, .int 0, .int 0, .ref u14, .int 0, .int 0, .ref u15, .ref u16, .ref u17, .ref u18, .ref u19, .int 0, .ref u20, .int 0, .int 0, .int 0, .int 0, .int 0, .int 0, .ref u21, .ref u22, .ref u23, .ref u24, .int 0, .ref u25, .ref u26, .ref u27, .ref u28, .int 0, .ref u29, .ref u30, .int 0, .int 0, .ref u31, .int 0, .int 0, .int 0, .ref u32, .ref u33, .ref u34, .int 0, .int 0, .ref u35, .ref u36, .ref u37, .ref u38, .ref u39, .ref u40, .ref u41, .ref u42, .ref u43, .ref u44, .int 0, .ref u45, .ref u46, .ref u47])), (h1, .inl (k1, 600, .inl f_3734))] := hD
  refine lv_aload_n hx hb dX13_feed_48 rfl (lv_at hl 0 rfl) ?_
  refine va_get (D := (dC, dI)) (ci := 13) (v := .int 20) (C := RX13) (T := TX13) (N := 75) hx hb hG zuX13 hown hK hP 0 rfl rfl 1 (by decide) (hG _ zw303) (fun _ h9 => h9) rfl dX13_feed_49 ?_
  have hP9 := hP.sub (ws' := [(h0, .inr (13, [.ref h1, .int 20, .ref u0, .ref u1, .int 0, .ref u2, .ref u3, .ref u4, .ref u5, .ref u6, .ref u7, .ref u8, .ref u9, .int 0, .ref u10, .ref u11, .int 0, .ref u12, .int (-1), .ref u13, .int 0, .int 0, .ref u14, .int 0, .int 0, .ref u15, .ref u16, .ref u17, .ref u18, .ref u19, .int 0, .ref u20, .int 0, .int 0, .int 0, .int 0, .int 0, .int 0, .ref u21, .ref u22, .ref u23, .ref u24, .int 0, .ref u25, .ref u26, .ref u27, .ref u28, .int 0, .ref u29, .ref u30, .int 0, .int 0, .ref u31, .int 0, .int 0, .int 0, .ref u32, .ref u33, .ref u34, .int 0, .int 0, .ref u35, .ref u36, .ref u37, .ref u38, .ref u39, .ref u40, .ref u41, .ref u42, .ref u43, .ref u44, .int 0, .ref u45, .ref u46, .ref u47])), (h1, .inl (k1, 600, .inl f_3734))]) [0, 1] rfl
  have hD9 := hD.sub (ws' := [(h0, .inr (13, [.ref h1, .int 20, .ref u0, .ref u1, .int 0, .ref u2, .ref u3, .ref u4, .ref u5, .ref u6, .ref u7, .ref u8, .ref u9, .int 0, .ref u10, .ref u11, .int 0, .ref u12, .int (-1), .ref u13, .int 0, .int 0, .ref u14, .int 0, .int 0, .ref u15, .ref u16, .ref u17, .ref u18, .ref u19, .int 0, .ref u20, .int 0, .int 0, .int 0, .int 0, .int 0, .int 0, .ref u21, .ref u22, .ref u23, .ref u24, .int 0, .ref u25, .ref u26, .ref u27, .ref u28, .int 0, .ref u29, .ref u30, .int 0, .int 0, .ref u31, .int 0, .int 0, .int 0, .ref u32, .ref u33, .ref u34, .int 0, .int 0, .ref u35, .ref u36, .ref u37, .ref u38, .ref u39, .ref u40, .ref u41, .ref u42, .ref u43, .ref u44, .int 0, .ref u45, .ref u46, .ref u47])), (h1, .inl (k1, 600, .inl f_3734))]) [0, 1] (by decide) rfl
  have hK9 := hK.sub (tys' := [(k1, .byte)]) [0] rfl
  refine W.widen (k := 0) (n := 0) (by decide) (by decide) ?_
  exact W.iret (v := 20) hx hb hr (fun t ht hW => ⟨⟨20, (), rfl, rfl, f_3734, by rw [ht]; exact hP9, va_K.moved hW.alike hK9, hD9⟩, hS.F ht⟩) hS.2.2 dX13_feed_52
