set_option maxHeartbeats 4000000 in
set_option maxRecDepth 100000 in
theorem kX9_hasRoom_0 (l : Launch) (dC : Nat → ClassId) (dI : Nat → Nat → Nat) (h0 u0 u1 : Nat) (sz : Nat) : Met l yX9_hasRoom (zw yX9_hasRoom cX9_hasRoom 2 (some .boolean)) { frames := 0, cells := 0, slots := 0, locals := 0 } (zPc dC dI [.ref h0, .int 20] sz [(h0, .inr (9, [.ref u0, .ref u1, .int 0, .int 0]))] []) (va_Qi (fun (r : Int32) (_ : Unit) => r = 1) (fun (_ : Unit) (t : State) => va_P (dC, dI) vwCl [(h0, .inr (9, [.ref u0, .ref u1, .int 0, .int 0]))] t.heap ∧ va_K (dC, dI) vwCl [] t ∧ va_D (va_A [(h0, .inr (9, [.ref u0, .ref u1, .int 0, .int 0]))] sz) [(h0, .inr (9, [.ref u0, .ref u1, .int 0, .int 0]))]) (va_A [(h0, .inr (9, [.ref u0, .ref u1, .int 0, .int 0]))] sz)) 0 0 (va_A [(h0, .inr (9, [.ref u0, .ref u1, .int 0, .int 0]))] sz) := by
  refine Met.ofW (cc := cX9_hasRoom) (maxL := 2) (ret := (some .boolean)) (by decide) rfl ?_
  intro p e s m args below meth c s₁ B hml hv
  obtain ⟨rfl, hsz, hP, hK, hD0, hE, hZ⟩ := hv
  have hx := B.exec
  have hb := B.bytes
  have hr := B.returns
  have hG : ∀ w ∈ zG, w.before _ s = true := fun w h => atoms_spec (ws := (zw yX9_hasRoom cX9_hasRoom 2 (some .boolean))) B.pre w (List.mem_cons_of_mem _ h)
  have hown : s.vm.findClass RX9 = some m.cls := findClass_of_methodNamed B.named
  have hlocks := B.notSynchronized
  subst hsz
  have hD := hD0.self (sz := s.heap.size)
  generalize hAe : va_A [(h0, .inr (9, [.ref u0, .ref u1, .int 0, .int 0]))] s.heap.size = A at hD hZ ⊢
  have hA : ∀ q : Nat, s.heap.size ≤ q → A q := fun q h => by rw [← hAe]; exact Or.inr h
  have hS : va_S A s.heap s.heap [] := va_S.rf
  have hl := lv_entry ([.ref h0, .int 20]) (n := 2) (Nat.le_of_ble_eq_true rfl)
  rw [lg_entry_eq]
  generalize (lg_sl ([.ref h0, .int 20]) ++ List.replicate (2 - (lg_sl ([.ref h0, .int 20])).length) Slot.unset).toArray = ls at hl ⊢
  have hl : lv_has ls 2 [(0, .ref h0), (1, .int 20)] := hl
  refine lv_aload_n hx hb dX9_hasRoom_0 rfl (lv_at hl 0 rfl) ?_
  refine va_get (D := (dC, dI)) (ci := 9) (v := .int 0) (C := RX9) (T := TX9) (N := 4) hx hb hG zuX9 hown hK hP 0 rfl rfl 2 (by decide) (hG _ zw13) (fun _ h9 => h9) rfl dX9_hasRoom_1 ?_
  refine lv_iload_n hx hb dX9_hasRoom_4 rfl (lv_at hl 1 rfl) ?_
  refine lv_iadd hx hb dX9_hasRoom_5 ?_
  refine lv_topi (fun z_2339 e_z_2339 => ?_)
  obtain rfl : z_2339 = (20 : Int32) := e_z_2339.trans (by decide)
  refine lv_sipush (v := 600) hx hb dX9_hasRoom_6 (by decide) ?_
  refine lv_icmp_gt (tgt := 16) hx hb dX9_hasRoom_9 (by decide) (fun c_2340 => absurd c_2340 (by decide)) (fun c_2340 => ?_)
  refine lv_iconst (v := 1) hx hb dX9_hasRoom_12 (by decide) ?_
  refine lv_goto (tgt := 17) hx hb dX9_hasRoom_13 (by decide) ?_
  have hP9 := hP.sub (ws' := [(h0, .inr (9, [.ref u0, .ref u1, .int 0, .int 0]))]) [0] rfl
  have hD9 := hD.sub (ws' := [(h0, .inr (9, [.ref u0, .ref u1, .int 0, .int 0]))]) [0] (by decide) rfl
  have hK9 := hK.sub (tys' := []) [] rfl
  refine W.widen (k := 0) (n := 0) (by decide) (by decide) ?_
  exact W.zret (v := 1) hx hb hr rfl (fun t ht hW => ⟨⟨1, (), rfl, rfl, by rw [ht]; exact hP9, va_K.moved hW.alike hK9, hD9⟩, hS.F ht⟩) hS.2.2 dX9_hasRoom_17
set_option maxHeartbeats 4000000 in
set_option maxRecDepth 100000 in
theorem kX9_put_0 (l : Launch) (dC : Nat → ClassId) (dI : Nat → Nat → Nat) (h0 h1 u0 : Nat) (k1 : ClassId) (sz : Nat) (s0 : Int32) : Met l yX9_put (zw yX9_put cX9_put 3 none) { frames := 0, cells := 0, slots := 0, locals := 0 } (zPc dC dI [.ref h0, .int s0] sz [(h0, .inr (9, [.ref h1, .ref u0, .int 0, .int 0])), (h1, .inl (k1, 600, .inl (fun _ => 0)))] [(k1, .byte)]) (va_Qv (fun _ : Unit => True) (fun (_ : Unit) (t : State) => ∃ (f0 : Nat → Int32), va_P (dC, dI) vwCl [(h0, .inr (9, [.ref h1, .ref u0, .int 4, .int 0])), (h1, .inl (k1, 600, .inl f0))] t.heap ∧ va_K (dC, dI) vwCl [(k1, .byte)] t ∧ va_D (va_A [(h0, .inr (9, [.ref h1, .ref u0, .int 0, .int 0])), (h1, .inl (k1, 600, .inl (fun _ => 0)))] sz) [(h0, .inr (9, [.ref h1, .ref u0, .int 4, .int 0])), (h1, .inl (k1, 600, .inl f0))]) (va_A [(h0, .inr (9, [.ref h1, .ref u0, .int 0, .int 0])), (h1, .inl (k1, 600, .inl (fun _ => 0)))] sz)) 0 0 (va_A [(h0, .inr (9, [.ref h1, .ref u0, .int 0, .int 0])), (h1, .inl (k1, 600, .inl (fun _ => 0)))] sz) := by
  refine Met.ofW (cc := cX9_put) (maxL := 3) (ret := none) (by decide) rfl ?_
  intro p e s m args below meth c s₁ B hml hv
  obtain ⟨rfl, hsz, hP, hK, hD0, hE, hZ⟩ := hv
  have hx := B.exec
  have hb := B.bytes
  have hr := B.returns
  have hG : ∀ w ∈ zG, w.before _ s = true := fun w h => atoms_spec (ws := (zw yX9_put cX9_put 3 none)) B.pre w (List.mem_cons_of_mem _ h)
  have hown : s.vm.findClass RX9 = some m.cls := findClass_of_methodNamed B.named
  have hlocks := B.notSynchronized
  subst hsz
  have hD := hD0.self (sz := s.heap.size)
  generalize hAe : va_A [(h0, .inr (9, [.ref h1, .ref u0, .int 0, .int 0])), (h1, .inl (k1, 600, .inl (fun _ => 0)))] s.heap.size = A at hD hZ ⊢
  have hA : ∀ q : Nat, s.heap.size ≤ q → A q := fun q h => by rw [← hAe]; exact Or.inr h
  have hS : va_S A s.heap s.heap [] := va_S.rf
  have hl := lv_entry ([.ref h0, .int s0]) (n := 3) (Nat.le_of_ble_eq_true rfl)
  rw [lg_entry_eq]
  generalize (lg_sl ([.ref h0, .int s0]) ++ List.replicate (3 - (lg_sl ([.ref h0, .int s0])).length) Slot.unset).toArray = ls at hl ⊢
  have hl : lv_has ls 3 [(0, .ref h0), (1, .int s0)] := hl
  refine lv_bipush (v := 24) hx hb dX9_put_0 (by decide) ?_
  refine lv_istore_n (lv' := [(2, .int 24), (0, .ref h0), (1, .int s0)]) hx hb dX9_put_2 rfl hl (by decide) rfl (fun ls hl => ?_)
  refine lv_iload_n hx hb dX9_put_3 rfl (lv_at hl 0 rfl) ?_
  refine lv_if_lt (tgt := 46) hx hb dX9_put_4 (by decide) (fun c_2394 => absurd c_2394 (by decide)) (fun c_2394 => ?_)
  refine lv_aload_n hx hb dX9_put_7 rfl (lv_at hl 1 rfl) ?_
  refine va_get (D := (dC, dI)) (ci := 9) (v := .int 0) (C := RX9) (T := TX9) (N := 4) hx hb hG zuX9 hown hK hP 0 rfl rfl 2 (by decide) (hG _ zw13) (fun _ h9 => h9) rfl dX9_put_8 ?_
  refine lv_sipush (v := 600) hx hb dX9_put_11 (by decide) ?_
  refine lv_icmp_ge (tgt := 46) hx hb dX9_put_14 (by decide) (fun c_2395 => absurd c_2395 (by decide)) (fun c_2395 => ?_)
  refine lv_aload_n hx hb dX9_put_17 rfl (lv_at hl 1 rfl) ?_
  refine va_get (D := (dC, dI)) (ci := 9) (v := .ref h1) (C := RX9) (T := TX9) (N := 4) hx hb hG zuX9 hown hK hP 0 rfl rfl 0 (by decide) (hG _ zw11) (fun _ h9 => h9) rfl dX9_put_18 ?_
  refine lv_aload_n hx hb dX9_put_21 rfl (lv_at hl 1 rfl) ?_
  refine va_get (D := (dC, dI)) (ci := 9) (v := .int 0) (C := RX9) (T := TX9) (N := 4) hx hb hG zuX9 hown hK hP 0 rfl rfl 2 (by decide) (hG _ zw13) (fun _ h9 => h9) rfl dX9_put_22 ?_
  refine lv_iload_n hx hb dX9_put_25 rfl (lv_at hl 2 rfl) ?_
  refine lv_iload_n hx hb dX9_put_26 rfl (lv_at hl 0 rfl) ?_
  refine lv_iushr hx hb dX9_put_27 rfl ?_
  refine lv_topi (fun z_2396 e_z_2396 => ?_)
  refine lv_i2b hx hb dX9_put_28 rfl ?_
  refine lv_topi (fun z_2397 e_z_2397 => ?_)
  refine va_bast hx hb hK hP hD hS 1 0 rfl rfl (zin_lit (by decide)) dX9_put_29 (fun H locs hP hD hS => ?_)
  obtain ⟨f_2398, e_f_2398⟩ : ∃ z : Nat → Int32, z = upd (fun _ => 0) 0 (vp_nar .byte z_2397) := ⟨_, rfl⟩
  have hP : va_P (dC, dI) vwCl [(h0, .inr (9, [.ref h1, .ref u0, .int 0, .int 0])), (h1, .inl (k1, 600, .inl f_2398))] H := by rw [e_f_2398]; exact hP
  have hD : va_D A [(h0, .inr (9, [.ref h1, .ref u0, .int 0, .int 0])), (h1, .inl (k1, 600, .inl f_2398))] := by rw [e_f_2398]; exact hD
  refine lv_aload_n hx hb dX9_put_30 rfl (lv_at hl 1 rfl) ?_
  refine lv_dup hx hb dX9_put_31 rfl ?_
  refine va_get (D := (dC, dI)) (ci := 9) (v := .int 0) (C := RX9) (T := TX9) (N := 4) hx hb hG zuX9 hown hK hP 0 rfl rfl 2 (by decide) (hG _ zw13) (fun _ h9 => h9) rfl dX9_put_32 ?_
  refine lv_iconst (v := 1) hx hb dX9_put_35 (by decide) ?_
  refine lv_iadd hx hb dX9_put_36 ?_
  refine lv_topi (fun z_2399 e_z_2399 => ?_)
  obtain rfl : z_2399 = (1 : Int32) := e_z_2399.trans (by decide)
  refine va_put (D := (dC, dI)) (ci := 9) (v := .int 1) (ty := .int) (C := RX9) (T := TX9) (N := 4) hx hb hG zuX9 tyX9 tyX9_ok nmX9 hown hK hP hD hS 0 rfl rfl 2 (by decide) (hG _ zw13) (fun _ h9 => h9) rfl (by decide +kernel) rfl rfl (Nat.le_of_ble_eq_true rfl) dX9_put_37 (fun H locs hP hD hS => ?_)
  have hP : va_P (dC, dI) vwCl [(h0, .inr (9, [.ref h1, .ref u0, .int 1, .int 0])), (h1, .inl (k1, 600, .inl f_2398))] H := hP
  have hD : va_D A [(h0, .inr (9, [.ref h1, .ref u0, .int 1, .int 0])), (h1, .inl (k1, 600, .inl f_2398))] := hD
  refine lv_iinc (v := 16) (lv' := [(2, .int 16), (0, .ref h0), (1, .int s0)]) hx hb dX9_put_40 hl (k := 0) rfl (by decide) (by decide) rfl (fun ls hl => ?_)
  refine lv_goto (tgt := 3) hx hb dX9_put_43 (by decide) ?_
  refine lv_iload_n hx hb dX9_put_3 rfl (lv_at hl 0 rfl) ?_
  refine lv_if_lt (tgt := 46) hx hb dX9_put_4 (by decide) (fun c_2400 => absurd c_2400 (by decide)) (fun c_2400 => ?_)
  refine lv_aload_n hx hb dX9_put_7 rfl (lv_at hl 1 rfl) ?_
  refine va_get (D := (dC, dI)) (ci := 9) (v := .int 1) (C := RX9) (T := TX9) (N := 4) hx hb hG zuX9 hown hK hP 0 rfl rfl 2 (by decide) (hG _ zw13) (fun _ h9 => h9) rfl dX9_put_8 ?_
  refine lv_sipush (v := 600) hx hb dX9_put_11 (by decide) ?_
  refine lv_icmp_ge (tgt := 46) hx hb dX9_put_14 (by decide) (fun c_2401 => absurd c_2401 (by decide)) (fun c_2401 => ?_)
  refine lv_aload_n hx hb dX9_put_17 rfl (lv_at hl 1 rfl) ?_
  refine va_get (D := (dC, dI)) (ci := 9) (v := .ref h1) (C := RX9) (T := TX9) (N := 4) hx hb hG zuX9 hown hK hP 0 rfl rfl 0 (by decide) (hG _ zw11) (fun _ h9 => h9) rfl dX9_put_18 ?_
  refine lv_aload_n hx hb dX9_put_21 rfl (lv_at hl 1 rfl) ?_
  refine va_get (D := (dC, dI)) (ci := 9) (v := .int 1) (C := RX9) (T := TX9) (N := 4) hx hb hG zuX9 hown hK hP 0 rfl rfl 2 (by decide) (hG _ zw13) (fun _ h9 => h9) rfl dX9_put_22 ?_
  refine lv_iload_n hx hb dX9_put_25 rfl (lv_at hl 2 rfl) ?_
  refine lv_iload_n hx hb dX9_put_26 rfl (lv_at hl 0 rfl) ?_
  refine lv_iushr hx hb dX9_put_27 rfl ?_
  refine lv_topi (fun z_2402 e_z_2402 => ?_)
  refine lv_i2b hx hb dX9_put_28 rfl ?_
  refine lv_topi (fun z_2403 e_z_2403 => ?_)
  refine va_bast hx hb hK hP hD hS 1 0 rfl rfl (zin_lit (by decide)) dX9_put_29 (fun H locs hP hD hS => ?_)
  obtain ⟨f_2404, e_f_2404⟩ : ∃ z : Nat → Int32, z = upd f_2398 1 (vp_nar .byte z_2403) := ⟨_, rfl⟩
  have hP : va_P (dC, dI) vwCl [(h0, .inr (9, [.ref h1, .ref u0, .int 1, .int 0])), (h1, .inl (k1, 600, .inl f_2404))] H := by rw [e_f_2404]; exact hP
  have hD : va_D A [(h0, .inr (9, [.ref h1, .ref u0, .int 1, .int 0])), (h1, .inl (k1, 600, .inl f_2404))] := by rw [e_f_2404]; exact hD
  refine lv_aload_n hx hb dX9_put_30 rfl (lv_at hl 1 rfl) ?_
  refine lv_dup hx hb dX9_put_31 rfl ?_
  refine va_get (D := (dC, dI)) (ci := 9) (v := .int 1) (C := RX9) (T := TX9) (N := 4) hx hb hG zuX9 hown hK hP 0 rfl rfl 2 (by decide) (hG _ zw13) (fun _ h9 => h9) rfl dX9_put_32 ?_
  refine lv_iconst (v := 1) hx hb dX9_put_35 (by decide) ?_
  refine lv_iadd hx hb dX9_put_36 ?_
  refine lv_topi (fun z_2405 e_z_2405 => ?_)
  obtain rfl : z_2405 = (2 : Int32) := e_z_2405.trans (by decide)
  refine va_put (D := (dC, dI)) (ci := 9) (v := .int 2) (ty := .int) (C := RX9) (T := TX9) (N := 4) hx hb hG zuX9 tyX9 tyX9_ok nmX9 hown hK hP hD hS 0 rfl rfl 2 (by decide) (hG _ zw13) (fun _ h9 => h9) rfl (by decide +kernel) rfl rfl (Nat.le_of_ble_eq_true rfl) dX9_put_37 (fun H locs hP hD hS => ?_)
  have hP : va_P (dC, dI) vwCl [(h0, .inr (9, [.ref h1, .ref u0, .int 2, .int 0])), (h1, .inl (k1, 600, .inl f_2404))] H := hP
  have hD : va_D A [(h0, .inr (9, [.ref h1, .ref u0, .int 2, .int 0])), (h1, .inl (k1, 600, .inl f_2404))] := hD
  refine lv_iinc (v := 8) (lv' := [(2, .int 8), (0, .ref h0), (1, .int s0)]) hx hb dX9_put_40 hl (k := 0) rfl (by decide) (by decide) rfl (fun ls hl => ?_)
  refine lv_goto (tgt := 3) hx hb dX9_put_43 (by decide) ?_
  refine lv_iload_n hx hb dX9_put_3 rfl (lv_at hl 0 rfl) ?_
  refine lv_if_lt (tgt := 46) hx hb dX9_put_4 (by decide) (fun c_2406 => absurd c_2406 (by decide)) (fun c_2406 => ?_)
  refine lv_aload_n hx hb dX9_put_7 rfl (lv_at hl 1 rfl) ?_
  refine va_get (D := (dC, dI)) (ci := 9) (v := .int 2) (C := RX9) (T := TX9) (N := 4) hx hb hG zuX9 hown hK hP 0 rfl rfl 2 (by decide) (hG _ zw13) (fun _ h9 => h9) rfl dX9_put_8 ?_
  refine lv_sipush (v := 600) hx hb dX9_put_11 (by decide) ?_
  refine lv_icmp_ge (tgt := 46) hx hb dX9_put_14 (by decide) (fun c_2407 => absurd c_2407 (by decide)) (fun c_2407 => ?_)
  refine lv_aload_n hx hb dX9_put_17 rfl (lv_at hl 1 rfl) ?_
  refine va_get (D := (dC, dI)) (ci := 9) (v := .ref h1) (C := RX9) (T := TX9) (N := 4) hx hb hG zuX9 hown hK hP 0 rfl rfl 0 (by decide) (hG _ zw11) (fun _ h9 => h9) rfl dX9_put_18 ?_
  refine lv_aload_n hx hb dX9_put_21 rfl (lv_at hl 1 rfl) ?_
  refine va_get (D := (dC, dI)) (ci := 9) (v := .int 2) (C := RX9) (T := TX9) (N := 4) hx hb hG zuX9 hown hK hP 0 rfl rfl 2 (by decide) (hG _ zw13) (fun _ h9 => h9) rfl dX9_put_22 ?_
  refine lv_iload_n hx hb dX9_put_25 rfl (lv_at hl 2 rfl) ?_
  refine lv_iload_n hx hb dX9_put_26 rfl (lv_at hl 0 rfl) ?_
  refine lv_iushr hx hb dX9_put_27 rfl ?_
  refine lv_topi (fun z_2408 e_z_2408 => ?_)
  refine lv_i2b hx hb dX9_put_28 rfl ?_
  refine lv_topi (fun z_2409 e_z_2409 => ?_)
  refine va_bast hx hb hK hP hD hS 1 0 rfl rfl (zin_lit (by decide)) dX9_put_29 (fun H locs hP hD hS => ?_)
  obtain ⟨f_2410, e_f_2410⟩ : ∃ z : Nat → Int32, z = upd f_2404 2 (vp_nar .byte z_2409) := ⟨_, rfl⟩
  have hP : va_P (dC, dI) vwCl [(h0, .inr (9, [.ref h1, .ref u0, .int 2, .int 0])), (h1, .inl (k1, 600, .inl f_2410))] H := by rw [e_f_2410]; exact hP
  have hD : va_D A [(h0, .inr (9, [.ref h1, .ref u0, .int 2, .int 0])), (h1, .inl (k1, 600, .inl f_2410))] := by rw [e_f_2410]; exact hD
  refine lv_aload_n hx hb dX9_put_30 rfl (lv_at hl 1 rfl) ?_
  refine lv_dup hx hb dX9_put_31 rfl ?_
  refine va_get (D := (dC, dI)) (ci := 9) (v := .int 2) (C := RX9) (T := TX9) (N := 4) hx hb hG zuX9 hown hK hP 0 rfl rfl 2 (by decide) (hG _ zw13) (fun _ h9 => h9) rfl dX9_put_32 ?_
  refine lv_iconst (v := 1) hx hb dX9_put_35 (by decide) ?_
  refine lv_iadd hx hb dX9_put_36 ?_
  refine lv_topi (fun z_2411 e_z_2411 => ?_)
  obtain rfl : z_2411 = (3 : Int32) := e_z_2411.trans (by decide)
  refine va_put (D := (dC, dI)) (ci := 9) (v := .int 3) (ty := .int) (C := RX9) (T := TX9) (N := 4) hx hb hG zuX9 tyX9 tyX9_ok nmX9 hown hK hP hD hS 0 rfl rfl 2 (by decide) (hG _ zw13) (fun _ h9 => h9) rfl (by decide +kernel) rfl rfl (Nat.le_of_ble_eq_true rfl) dX9_put_37 (fun H locs hP hD hS => ?_)
  have hP : va_P (dC, dI) vwCl [(h0, .inr (9, [.ref h1, .ref u0, .int 3, .int 0])), (h1, .inl (k1, 600, .inl f_2410))] H := hP
  have hD : va_D A [(h0, .inr (9, [.ref h1, .ref u0, .int 3, .int 0])), (h1, .inl (k1, 600, .inl f_2410))] := hD
  refine lv_iinc (v := 0) (lv' := [(2, .int 0), (0, .ref h0), (1, .int s0)]) hx hb dX9_put_40 hl (k := 0) rfl (by decide) (by decide) rfl (fun ls hl => ?_)
  refine lv_goto (tgt := 3) hx hb dX9_put_43 (by decide) ?_
  refine lv_iload_n hx hb dX9_put_3 rfl (lv_at hl 0 rfl) ?_
  refine lv_if_lt (tgt := 46) hx hb dX9_put_4 (by decide) (fun c_2412 => absurd c_2412 (by decide)) (fun c_2412 => ?_)
  refine lv_aload_n hx hb dX9_put_7 rfl (lv_at hl 1 rfl) ?_
  refine va_get (D := (dC, dI)) (ci := 9) (v := .int 3) (C := RX9) (T := TX9) (N := 4) hx hb hG zuX9 hown hK hP 0 rfl rfl 2 (by decide) (hG _ zw13) (fun _ h9 => h9) rfl dX9_put_8 ?_
  refine lv_sipush (v := 600) hx hb dX9_put_11 (by decide) ?_
  refine lv_icmp_ge (tgt := 46) hx hb dX9_put_14 (by decide) (fun c_2413 => absurd c_2413 (by decide)) (fun c_2413 => ?_)
  refine lv_aload_n hx hb dX9_put_17 rfl (lv_at hl 1 rfl) ?_
  refine va_get (D := (dC, dI)) (ci := 9) (v := .ref h1) (C := RX9) (T := TX9) (N := 4) hx hb hG zuX9 hown hK hP 0 rfl rfl 0 (by decide) (hG _ zw11) (fun _ h9 => h9) rfl dX9_put_18 ?_
  refine lv_aload_n hx hb dX9_put_21 rfl (lv_at hl 1 rfl) ?_
  refine va_get (D := (dC, dI)) (ci := 9) (v := .int 3) (C := RX9) (T := TX9) (N := 4) hx hb hG zuX9 hown hK hP 0 rfl rfl 2 (by decide) (hG _ zw13) (fun _ h9 => h9) rfl dX9_put_22 ?_
  refine lv_iload_n hx hb dX9_put_25 rfl (lv_at hl 2 rfl) ?_
  refine lv_iload_n hx hb dX9_put_26 rfl (lv_at hl 0 rfl) ?_
  refine lv_iushr hx hb dX9_put_27 rfl ?_
  refine lv_topi (fun z_2414 e_z_2414 => ?_)
  refine lv_i2b hx hb dX9_put_28 rfl ?_
  refine lv_topi (fun z_2415 e_z_2415 => ?_)
  refine va_bast hx hb hK hP hD hS 1 0 rfl rfl (zin_lit (by decide)) dX9_put_29 (fun H locs hP hD hS => ?_)
  obtain ⟨f_2416, e_f_2416⟩ : ∃ z : Nat → Int32, z = upd f_2410 3 (vp_nar .byte z_2415) := ⟨_, rfl⟩
  have hP : va_P (dC, dI) vwCl [(h0, .inr (9, [.ref h1, .ref u0, .int 3, .int 0])), (h1, .inl (k1, 600, .inl f_2416))] H := by rw [e_f_2416]; exact hP
  have hD : va_D A [(h0, .inr (9, [.ref h1, .ref u0, .int 3, .int 0])), (h1, .inl (k1, 600, .inl f_2416))] := by rw [e_f_2416]; exact hD
  refine lv_aload_n hx hb dX9_put_30 rfl (lv_at hl 1 rfl) ?_
  refine lv_dup hx hb dX9_put_31 rfl ?_
  refine va_get (D := (dC, dI)) (ci := 9) (v := .int 3) (C := RX9) (T := TX9) (N := 4) hx hb hG zuX9 hown hK hP 0 rfl rfl 2 (by decide) (hG _ zw13) (fun _ h9 => h9) rfl dX9_put_32 ?_
  refine lv_iconst (v := 1) hx hb dX9_put_35 (by decide) ?_
  refine lv_iadd hx hb dX9_put_36 ?_
  refine lv_topi (fun z_2417 e_z_2417 => ?_)
  obtain rfl : z_2417 = (4 : Int32) := e_z_2417.trans (by decide)
  refine va_put (D := (dC, dI)) (ci := 9) (v := .int 4) (ty := .int) (C := RX9) (T := TX9) (N := 4) hx hb hG zuX9 tyX9 tyX9_ok nmX9 hown hK hP hD hS 0 rfl rfl 2 (by decide) (hG _ zw13) (fun _ h9 => h9) rfl (by decide +kernel) rfl rfl (Nat.le_of_ble_eq_true rfl) dX9_put_37 (fun H locs hP hD hS => ?_)
  have hP : va_P (dC, dI) vwCl [(h0, .inr (9, [.ref h1, .ref u0, .int 4, .int 0])), (h1, .inl (k1, 600, .inl f_2416))] H := hP
  have hD : va_D A [(h0, .inr (9, [.ref h1, .ref u0, .int 4, .int 0])), (h1, .inl (k1, 600, .inl f_2416))] := hD
  refine lv_iinc (v := (-8)) (lv' := [(2, .int (-8)), (0, .ref h0), (1, .int s0)]) hx hb dX9_put_40 hl (k := 0) rfl (by decide) (by decide) rfl (fun ls hl => ?_)
  refine lv_goto (tgt := 3) hx hb dX9_put_43 (by decide) ?_
  refine lv_iload_n hx hb dX9_put_3 rfl (lv_at hl 0 rfl) ?_
  refine lv_if_lt (tgt := 46) hx hb dX9_put_4 (by decide) (fun c_2418 => ?_) (fun c_2418 => absurd c_2418 (by decide))
  have hP9 := hP.sub (ws' := [(h0, .inr (9, [.ref h1, .ref u0, .int 4, .int 0])), (h1, .inl (k1, 600, .inl f_2416))]) [0, 1] rfl
  have hD9 := hD.sub (ws' := [(h0, .inr (9, [.ref h1, .ref u0, .int 4, .int 0])), (h1, .inl (k1, 600, .inl f_2416))]) [0, 1] (by decide) rfl
  have hK9 := hK.sub (tys' := [(k1, .byte)]) [0] rfl
  refine W.widen (k := 0) (n := 0) (by decide) (by decide) ?_
  exact W.vret hx hb hr (fun t ht hW => ⟨⟨(), rfl, trivial, f_2416, by rw [ht]; exact hP9, va_K.moved hW.alike hK9, hD9⟩, hS.F ht⟩) hS.2.2 dX9_put_46
set_option maxHeartbeats 4000000 in
set_option maxRecDepth 100000 in
theorem kX9_put_1 (l : Launch) (dC : Nat → ClassId) (dI : Nat → Nat → Nat) (h0 h1 u0 : Nat) (k1 : ClassId) (sz : Nat) (s0 : Int32) (s1 : Nat → Int32) : Met l yX9_put (zw yX9_put cX9_put 3 none) { frames := 0, cells := 0, slots := 0, locals := 0 } (zPc dC dI [.ref h0, .int s0] sz [(h0, .inr (9, [.ref h1, .ref u0, .int 4, .int 0])), (h1, .inl (k1, 600, .inl s1))] [(k1, .byte)]) (va_Qv (fun _ : Unit => True) (fun (_ : Unit) (t : State) => ∃ (f0 : Nat → Int32), va_P (dC, dI) vwCl [(h0, .inr (9, [.ref h1, .ref u0, .int 8, .int 0])), (h1, .inl (k1, 600, .inl f0))] t.heap ∧ va_K (dC, dI) vwCl [(k1, .byte)] t ∧ va_D (va_A [(h0, .inr (9, [.ref h1, .ref u0, .int 4, .int 0])), (h1, .inl (k1, 600, .inl s1))] sz) [(h0, .inr (9, [.ref h1, .ref u0, .int 8, .int 0])), (h1, .inl (k1, 600, .inl f0))]) (va_A [(h0, .inr (9, [.ref h1, .ref u0, .int 4, .int 0])), (h1, .inl (k1, 600, .inl s1))] sz)) 0 0 (va_A [(h0, .inr (9, [.ref h1, .ref u0, .int 4, .int 0])), (h1, .inl (k1, 600, .inl s1))] sz) := by
  refine Met.ofW (cc := cX9_put) (maxL := 3) (ret := none) (by decide) rfl ?_
  intro p e s m args below meth c s₁ B hml hv
  obtain ⟨rfl, hsz, hP, hK, hD0, hE, hZ⟩ := hv
  have hx := B.exec
  have hb := B.bytes
  have hr := B.returns
  have hG : ∀ w ∈ zG, w.before _ s = true := fun w h => atoms_spec (ws := (zw yX9_put cX9_put 3 none)) B.pre w (List.mem_cons_of_mem _ h)
  have hown : s.vm.findClass RX9 = some m.cls := findClass_of_methodNamed B.named
  have hlocks := B.notSynchronized
  subst hsz
  have hD := hD0.self (sz := s.heap.size)
  generalize hAe : va_A [(h0, .inr (9, [.ref h1, .ref u0, .int 4, .int 0])), (h1, .inl (k1, 600, .inl s1))] s.heap.size = A at hD hZ ⊢
  have hA : ∀ q : Nat, s.heap.size ≤ q → A q := fun q h => by rw [← hAe]; exact Or.inr h
  have hS : va_S A s.heap s.heap [] := va_S.rf
  have hl := lv_entry ([.ref h0, .int s0]) (n := 3) (Nat.le_of_ble_eq_true rfl)
  rw [lg_entry_eq]
  generalize (lg_sl ([.ref h0, .int s0]) ++ List.replicate (3 - (lg_sl ([.ref h0, .int s0])).length) Slot.unset).toArray = ls at hl ⊢
  have hl : lv_has ls 3 [(0, .ref h0), (1, .int s0)] := hl
  refine lv_bipush (v := 24) hx hb dX9_put_0 (by decide) ?_
  refine lv_istore_n (lv' := [(2, .int 24), (0, .ref h0), (1, .int s0)]) hx hb dX9_put_2 rfl hl (by decide) rfl (fun ls hl => ?_)
  refine lv_iload_n hx hb dX9_put_3 rfl (lv_at hl 0 rfl) ?_
  refine lv_if_lt (tgt := 46) hx hb dX9_put_4 (by decide) (fun c_2472 => absurd c_2472 (by decide)) (fun c_2472 => ?_)
  refine lv_aload_n hx hb dX9_put_7 rfl (lv_at hl 1 rfl) ?_
  refine va_get (D := (dC, dI)) (ci := 9) (v := .int 4) (C := RX9) (T := TX9) (N := 4) hx hb hG zuX9 hown hK hP 0 rfl rfl 2 (by decide) (hG _ zw13) (fun _ h9 => h9) rfl dX9_put_8 ?_
  refine lv_sipush (v := 600) hx hb dX9_put_11 (by decide) ?_
  refine lv_icmp_ge (tgt := 46) hx hb dX9_put_14 (by decide) (fun c_2473 => absurd c_2473 (by decide)) (fun c_2473 => ?_)
  refine lv_aload_n hx hb dX9_put_17 rfl (lv_at hl 1 rfl) ?_
  refine va_get (D := (dC, dI)) (ci := 9) (v := .ref h1) (C := RX9) (T := TX9) (N := 4) hx hb hG zuX9 hown hK hP 0 rfl rfl 0 (by decide) (hG _ zw11) (fun _ h9 => h9) rfl dX9_put_18 ?_
  refine lv_aload_n hx hb dX9_put_21 rfl (lv_at hl 1 rfl) ?_
  refine va_get (D := (dC, dI)) (ci := 9) (v := .int 4) (C := RX9) (T := TX9) (N := 4) hx hb hG zuX9 hown hK hP 0 rfl rfl 2 (by decide) (hG _ zw13) (fun _ h9 => h9) rfl dX9_put_22 ?_
  refine lv_iload_n hx hb dX9_put_25 rfl (lv_at hl 2 rfl) ?_
  refine lv_iload_n hx hb dX9_put_26 rfl (lv_at hl 0 rfl) ?_
  refine lv_iushr hx hb dX9_put_27 rfl ?_
  refine lv_topi (fun z_2474 e_z_2474 => ?_)
  refine lv_i2b hx hb dX9_put_28 rfl ?_
  refine lv_topi (fun z_2475 e_z_2475 => ?_)
  refine va_bast hx hb hK hP hD hS 1 0 rfl rfl (zin_lit (by decide)) dX9_put_29 (fun H locs hP hD hS => ?_)
  obtain ⟨f_2476, e_f_2476⟩ : ∃ z : Nat → Int32, z = upd s1 4 (vp_nar .byte z_2475) := ⟨_, rfl⟩
  have hP : va_P (dC, dI) vwCl [(h0, .inr (9, [.ref h1, .ref u0, .int 4, .int 0])), (h1, .inl (k1, 600, .inl f_2476))] H := by rw [e_f_2476]; exact hP
  have hD : va_D A [(h0, .inr (9, [.ref h1, .ref u0, .int 4, .int 0])), (h1, .inl (k1, 600, .inl f_2476))] := by rw [e_f_2476]; exact hD
  refine lv_aload_n hx hb dX9_put_30 rfl (lv_at hl 1 rfl) ?_
  refine lv_dup hx hb dX9_put_31 rfl ?_
  refine va_get (D := (dC, dI)) (ci := 9) (v := .int 4) (C := RX9) (T := TX9) (N := 4) hx hb hG zuX9 hown hK hP 0 rfl rfl 2 (by decide) (hG _ zw13) (fun _ h9 => h9) rfl dX9_put_32 ?_
  refine lv_iconst (v := 1) hx hb dX9_put_35 (by decide) ?_
  refine lv_iadd hx hb dX9_put_36 ?_
  refine lv_topi (fun z_2477 e_z_2477 => ?_)
  obtain rfl : z_2477 = (5 : Int32) := e_z_2477.trans (by decide)
  refine va_put (D := (dC, dI)) (ci := 9) (v := .int 5) (ty := .int) (C := RX9) (T := TX9) (N := 4) hx hb hG zuX9 tyX9 tyX9_ok nmX9 hown hK hP hD hS 0 rfl rfl 2 (by decide) (hG _ zw13) (fun _ h9 => h9) rfl (by decide +kernel) rfl rfl (Nat.le_of_ble_eq_true rfl) dX9_put_37 (fun H locs hP hD hS => ?_)
  have hP : va_P (dC, dI) vwCl [(h0, .inr (9, [.ref h1, .ref u0, .int 5, .int 0])), (h1, .inl (k1, 600, .inl f_2476))] H := hP
  have hD : va_D A [(h0, .inr (9, [.ref h1, .ref u0, .int 5, .int 0])), (h1, .inl (k1, 600, .inl f_2476))] := hD
  refine lv_iinc (v := 16) (lv' := [(2, .int 16), (0, .ref h0), (1, .int s0)]) hx hb dX9_put_40 hl (k := 0) rfl (by decide) (by decide) rfl (fun ls hl => ?_)
  refine lv_goto (tgt := 3) hx hb dX9_put_43 (by decide) ?_
  refine lv_iload_n hx hb dX9_put_3 rfl (lv_at hl 0 rfl) ?_
  refine lv_if_lt (tgt := 46) hx hb dX9_put_4 (by decide) (fun c_2478 => absurd c_2478 (by decide)) (fun c_2478 => ?_)
  refine lv_aload_n hx hb dX9_put_7 rfl (lv_at hl 1 rfl) ?_
  refine va_get (D := (dC, dI)) (ci := 9) (v := .int 5) (C := RX9) (T := TX9) (N := 4) hx hb hG zuX9 hown hK hP 0 rfl rfl 2 (by decide) (hG _ zw13) (fun _ h9 => h9) rfl dX9_put_8 ?_
  refine lv_sipush (v := 600) hx hb dX9_put_11 (by decide) ?_
  refine lv_icmp_ge (tgt := 46) hx hb dX9_put_14 (by decide) (fun c_2479 => absurd c_2479 (by decide)) (fun c_2479 => ?_)
  refine lv_aload_n hx hb dX9_put_17 rfl (lv_at hl 1 rfl) ?_
  refine va_get (D := (dC, dI)) (ci := 9) (v := .ref h1) (C := RX9) (T := TX9) (N := 4) hx hb hG zuX9 hown hK hP 0 rfl rfl 0 (by decide) (hG _ zw11) (fun _ h9 => h9) rfl dX9_put_18 ?_
  refine lv_aload_n hx hb dX9_put_21 rfl (lv_at hl 1 rfl) ?_
  refine va_get (D := (dC, dI)) (ci := 9) (v := .int 5) (C := RX9) (T := TX9) (N := 4) hx hb hG zuX9 hown hK hP 0 rfl rfl 2 (by decide) (hG _ zw13) (fun _ h9 => h9) rfl dX9_put_22 ?_
  refine lv_iload_n hx hb dX9_put_25 rfl (lv_at hl 2 rfl) ?_
  refine lv_iload_n hx hb dX9_put_26 rfl (lv_at hl 0 rfl) ?_
  refine lv_iushr hx hb dX9_put_27 rfl ?_
  refine lv_topi (fun z_2480 e_z_2480 => ?_)
  refine lv_i2b hx hb dX9_put_28 rfl ?_
  refine lv_topi (fun z_2481 e_z_2481 => ?_)
  refine va_bast hx hb hK hP hD hS 1 0 rfl rfl (zin_lit (by decide)) dX9_put_29 (fun H locs hP hD hS => ?_)
  obtain ⟨f_2482, e_f_2482⟩ : ∃ z : Nat → Int32, z = upd f_2476 5 (vp_nar .byte z_2481) := ⟨_, rfl⟩
  have hP : va_P (dC, dI) vwCl [(h0, .inr (9, [.ref h1, .ref u0, .int 5, .int 0])), (h1, .inl (k1, 600, .inl f_2482))] H := by rw [e_f_2482]; exact hP
  have hD : va_D A [(h0, .inr (9, [.ref h1, .ref u0, .int 5, .int 0])), (h1, .inl (k1, 600, .inl f_2482))] := by rw [e_f_2482]; exact hD
  refine lv_aload_n hx hb dX9_put_30 rfl (lv_at hl 1 rfl) ?_
  refine lv_dup hx hb dX9_put_31 rfl ?_
  refine va_get (D := (dC, dI)) (ci := 9) (v := .int 5) (C := RX9) (T := TX9) (N := 4) hx hb hG zuX9 hown hK hP 0 rfl rfl 2 (by decide) (hG _ zw13) (fun _ h9 => h9) rfl dX9_put_32 ?_
  refine lv_iconst (v := 1) hx hb dX9_put_35 (by decide) ?_
  refine lv_iadd hx hb dX9_put_36 ?_
  refine lv_topi (fun z_2483 e_z_2483 => ?_)
  obtain rfl : z_2483 = (6 : Int32) := e_z_2483.trans (by decide)
  refine va_put (D := (dC, dI)) (ci := 9) (v := .int 6) (ty := .int) (C := RX9) (T := TX9) (N := 4) hx hb hG zuX9 tyX9 tyX9_ok nmX9 hown hK hP hD hS 0 rfl rfl 2 (by decide) (hG _ zw13) (fun _ h9 => h9) rfl (by decide +kernel) rfl rfl (Nat.le_of_ble_eq_true rfl) dX9_put_37 (fun H locs hP hD hS => ?_)
  have hP : va_P (dC, dI) vwCl [(h0, .inr (9, [.ref h1, .ref u0, .int 6, .int 0])), (h1, .inl (k1, 600, .inl f_2482))] H := hP
  have hD : va_D A [(h0, .inr (9, [.ref h1, .ref u0, .int 6, .int 0])), (h1, .inl (k1, 600, .inl f_2482))] := hD
  refine lv_iinc (v := 8) (lv' := [(2, .int 8), (0, .ref h0), (1, .int s0)]) hx hb dX9_put_40 hl (k := 0) rfl (by decide) (by decide) rfl (fun ls hl => ?_)
  refine lv_goto (tgt := 3) hx hb dX9_put_43 (by decide) ?_
  refine lv_iload_n hx hb dX9_put_3 rfl (lv_at hl 0 rfl) ?_
  refine lv_if_lt (tgt := 46) hx hb dX9_put_4 (by decide) (fun c_2484 => absurd c_2484 (by decide)) (fun c_2484 => ?_)
  refine lv_aload_n hx hb dX9_put_7 rfl (lv_at hl 1 rfl) ?_
  refine va_get (D := (dC, dI)) (ci := 9) (v := .int 6) (C := RX9) (T := TX9) (N := 4) hx hb hG zuX9 hown hK hP 0 rfl rfl 2 (by decide) (hG _ zw13) (fun _ h9 => h9) rfl dX9_put_8 ?_
  refine lv_sipush (v := 600) hx hb dX9_put_11 (by decide) ?_
  refine lv_icmp_ge (tgt := 46) hx hb dX9_put_14 (by decide) (fun c_2485 => absurd c_2485 (by decide)) (fun c_2485 => ?_)
  refine lv_aload_n hx hb dX9_put_17 rfl (lv_at hl 1 rfl) ?_
  refine va_get (D := (dC, dI)) (ci := 9) (v := .ref h1) (C := RX9) (T := TX9) (N := 4) hx hb hG zuX9 hown hK hP 0 rfl rfl 0 (by decide) (hG _ zw11) (fun _ h9 => h9) rfl dX9_put_18 ?_
  refine lv_aload_n hx hb dX9_put_21 rfl (lv_at hl 1 rfl) ?_
  refine va_get (D := (dC, dI)) (ci := 9) (v := .int 6) (C := RX9) (T := TX9) (N := 4) hx hb hG zuX9 hown hK hP 0 rfl rfl 2 (by decide) (hG _ zw13) (fun _ h9 => h9) rfl dX9_put_22 ?_
  refine lv_iload_n hx hb dX9_put_25 rfl (lv_at hl 2 rfl) ?_
  refine lv_iload_n hx hb dX9_put_26 rfl (lv_at hl 0 rfl) ?_
  refine lv_iushr hx hb dX9_put_27 rfl ?_
  refine lv_topi (fun z_2486 e_z_2486 => ?_)
  refine lv_i2b hx hb dX9_put_28 rfl ?_
  refine lv_topi (fun z_2487 e_z_2487 => ?_)
  refine va_bast hx hb hK hP hD hS 1 0 rfl rfl (zin_lit (by decide)) dX9_put_29 (fun H locs hP hD hS => ?_)
  obtain ⟨f_2488, e_f_2488⟩ : ∃ z : Nat → Int32, z = upd f_2482 6 (vp_nar .byte z_2487) := ⟨_, rfl⟩
  have hP : va_P (dC, dI) vwCl [(h0, .inr (9, [.ref h1, .ref u0, .int 6, .int 0])), (h1, .inl (k1, 600, .inl f_2488))] H := by rw [e_f_2488]; exact hP
  have hD : va_D A [(h0, .inr (9, [.ref h1, .ref u0, .int 6, .int 0])), (h1, .inl (k1, 600, .inl f_2488))] := by rw [e_f_2488]; exact hD
  refine lv_aload_n hx hb dX9_put_30 rfl (lv_at hl 1 rfl) ?_
  refine lv_dup hx hb dX9_put_31 rfl ?_
  refine va_get (D := (dC, dI)) (ci := 9) (v := .int 6) (C := RX9) (T := TX9) (N := 4) hx hb hG zuX9 hown hK hP 0 rfl rfl 2 (by decide) (hG _ zw13) (fun _ h9 => h9) rfl dX9_put_32 ?_
  refine lv_iconst (v := 1) hx hb dX9_put_35 (by decide) ?_
  refine lv_iadd hx hb dX9_put_36 ?_
  refine lv_topi (fun z_2489 e_z_2489 => ?_)
  obtain rfl : z_2489 = (7 : Int32) := e_z_2489.trans (by decide)
  refine va_put (D := (dC, dI)) (ci := 9) (v := .int 7) (ty := .int) (C := RX9) (T := TX9) (N := 4) hx hb hG zuX9 tyX9 tyX9_ok nmX9 hown hK hP hD hS 0 rfl rfl 2 (by decide) (hG _ zw13) (fun _ h9 => h9) rfl (by decide +kernel) rfl rfl (Nat.le_of_ble_eq_true rfl) dX9_put_37 (fun H locs hP hD hS => ?_)
  have hP : va_P (dC, dI) vwCl [(h0, .inr (9, [.ref h1, .ref u0, .int 7, .int 0])), (h1, .inl (k1, 600, .inl f_2488))] H := hP
  have hD : va_D A [(h0, .inr (9, [.ref h1, .ref u0, .int 7, .int 0])), (h1, .inl (k1, 600, .inl f_2488))] := hD
  refine lv_iinc (v := 0) (lv' := [(2, .int 0), (0, .ref h0), (1, .int s0)]) hx hb dX9_put_40 hl (k := 0) rfl (by decide) (by decide) rfl (fun ls hl => ?_)
  refine lv_goto (tgt := 3) hx hb dX9_put_43 (by decide) ?_
  refine lv_iload_n hx hb dX9_put_3 rfl (lv_at hl 0 rfl) ?_
  refine lv_if_lt (tgt := 46) hx hb dX9_put_4 (by decide) (fun c_2490 => absurd c_2490 (by decide)) (fun c_2490 => ?_)
  refine lv_aload_n hx hb dX9_put_7 rfl (lv_at hl 1 rfl) ?_
  refine va_get (D := (dC, dI)) (ci := 9) (v := .int 7) (C := RX9) (T := TX9) (N := 4) hx hb hG zuX9 hown hK hP 0 rfl rfl 2 (by decide) (hG _ zw13) (fun _ h9 => h9) rfl dX9_put_8 ?_
  refine lv_sipush (v := 600) hx hb dX9_put_11 (by decide) ?_
  refine lv_icmp_ge (tgt := 46) hx hb dX9_put_14 (by decide) (fun c_2491 => absurd c_2491 (by decide)) (fun c_2491 => ?_)
  refine lv_aload_n hx hb dX9_put_17 rfl (lv_at hl 1 rfl) ?_
  refine va_get (D := (dC, dI)) (ci := 9) (v := .ref h1) (C := RX9) (T := TX9) (N := 4) hx hb hG zuX9 hown hK hP 0 rfl rfl 0 (by decide) (hG _ zw11) (fun _ h9 => h9) rfl dX9_put_18 ?_
  refine lv_aload_n hx hb dX9_put_21 rfl (lv_at hl 1 rfl) ?_
  refine va_get (D := (dC, dI)) (ci := 9) (v := .int 7) (C := RX9) (T := TX9) (N := 4) hx hb hG zuX9 hown hK hP 0 rfl rfl 2 (by decide) (hG _ zw13) (fun _ h9 => h9) rfl dX9_put_22 ?_
  refine lv_iload_n hx hb dX9_put_25 rfl (lv_at hl 2 rfl) ?_
  refine lv_iload_n hx hb dX9_put_26 rfl (lv_at hl 0 rfl) ?_
  refine lv_iushr hx hb dX9_put_27 rfl ?_
  refine lv_topi (fun z_2492 e_z_2492 => ?_)
  refine lv_i2b hx hb dX9_put_28 rfl ?_
  refine lv_topi (fun z_2493 e_z_2493 => ?_)
  refine va_bast hx hb hK hP hD hS 1 0 rfl rfl (zin_lit (by decide)) dX9_put_29 (fun H locs hP hD hS => ?_)
  obtain ⟨f_2494, e_f_2494⟩ : ∃ z : Nat → Int32, z = upd f_2488 7 (vp_nar .byte z_2493) := ⟨_, rfl⟩
  have hP : va_P (dC, dI) vwCl [(h0, .inr (9, [.ref h1, .ref u0, .int 7, .int 0])), (h1, .inl (k1, 600, .inl f_2494))] H := by rw [e_f_2494]; exact hP
  have hD : va_D A [(h0, .inr (9, [.ref h1, .ref u0, .int 7, .int 0])), (h1, .inl (k1, 600, .inl f_2494))] := by rw [e_f_2494]; exact hD
  refine lv_aload_n hx hb dX9_put_30 rfl (lv_at hl 1 rfl) ?_
  refine lv_dup hx hb dX9_put_31 rfl ?_
  refine va_get (D := (dC, dI)) (ci := 9) (v := .int 7) (C := RX9) (T := TX9) (N := 4) hx hb hG zuX9 hown hK hP 0 rfl rfl 2 (by decide) (hG _ zw13) (fun _ h9 => h9) rfl dX9_put_32 ?_
  refine lv_iconst (v := 1) hx hb dX9_put_35 (by decide) ?_
  refine lv_iadd hx hb dX9_put_36 ?_
  refine lv_topi (fun z_2495 e_z_2495 => ?_)
  obtain rfl : z_2495 = (8 : Int32) := e_z_2495.trans (by decide)
  refine va_put (D := (dC, dI)) (ci := 9) (v := .int 8) (ty := .int) (C := RX9) (T := TX9) (N := 4) hx hb hG zuX9 tyX9 tyX9_ok nmX9 hown hK hP hD hS 0 rfl rfl 2 (by decide) (hG _ zw13) (fun _ h9 => h9) rfl (by decide +kernel) rfl rfl (Nat.le_of_ble_eq_true rfl) dX9_put_37 (fun H locs hP hD hS => ?_)
  have hP : va_P (dC, dI) vwCl [(h0, .inr (9, [.ref h1, .ref u0, .int 8, .int 0])), (h1, .inl (k1, 600, .inl f_2494))] H := hP
  have hD : va_D A [(h0, .inr (9, [.ref h1, .ref u0, .int 8, .int 0])), (h1, .inl (k1, 600, .inl f_2494))] := hD
  refine lv_iinc (v := (-8)) (lv' := [(2, .int (-8)), (0, .ref h0), (1, .int s0)]) hx hb dX9_put_40 hl (k := 0) rfl (by decide) (by decide) rfl (fun ls hl => ?_)
  refine lv_goto (tgt := 3) hx hb dX9_put_43 (by decide) ?_
  refine lv_iload_n hx hb dX9_put_3 rfl (lv_at hl 0 rfl) ?_
  refine lv_if_lt (tgt := 46) hx hb dX9_put_4 (by decide) (fun c_2496 => ?_) (fun c_2496 => absurd c_2496 (by decide))
  have hP9 := hP.sub (ws' := [(h0, .inr (9, [.ref h1, .ref u0, .int 8, .int 0])), (h1, .inl (k1, 600, .inl f_2494))]) [0, 1] rfl
  have hD9 := hD.sub (ws' := [(h0, .inr (9, [.ref h1, .ref u0, .int 8, .int 0])), (h1, .inl (k1, 600, .inl f_2494))]) [0, 1] (by decide) rfl
  have hK9 := hK.sub (tys' := [(k1, .byte)]) [0] rfl
  refine W.widen (k := 0) (n := 0) (by decide) (by decide) ?_
  exact W.vret hx hb hr (fun t ht hW => ⟨⟨(), rfl, trivial, f_2494, by rw [ht]; exact hP9, va_K.moved hW.alike hK9, hD9⟩, hS.F ht⟩) hS.2.2 dX9_put_46
set_option maxHeartbeats 4000000 in
set_option maxRecDepth 100000 in
theorem kX9_put_2 (l : Launch) (dC : Nat → ClassId) (dI : Nat → Nat → Nat) (h0 h1 u0 : Nat) (k1 : ClassId) (sz : Nat) (s0 : Int32) (s1 : Nat → Int32) : Met l yX9_put (zw yX9_put cX9_put 3 none) { frames := 0, cells := 0, slots := 0, locals := 0 } (zPc dC dI [.ref h0, .int s0] sz [(h0, .inr (9, [.ref h1, .ref u0, .int 8, .int 0])), (h1, .inl (k1, 600, .inl s1))] [(k1, .byte)]) (va_Qv (fun _ : Unit => True) (fun (_ : Unit) (t : State) => ∃ (f0 : Nat → Int32), va_P (dC, dI) vwCl [(h0, .inr (9, [.ref h1, .ref u0, .int 12, .int 0])), (h1, .inl (k1, 600, .inl f0))] t.heap ∧ va_K (dC, dI) vwCl [(k1, .byte)] t ∧ va_D (va_A [(h0, .inr (9, [.ref h1, .ref u0, .int 8, .int 0])), (h1, .inl (k1, 600, .inl s1))] sz) [(h0, .inr (9, [.ref h1, .ref u0, .int 12, .int 0])), (h1, .inl (k1, 600, .inl f0))]) (va_A [(h0, .inr (9, [.ref h1, .ref u0, .int 8, .int 0])), (h1, .inl (k1, 600, .inl s1))] sz)) 0 0 (va_A [(h0, .inr (9, [.ref h1, .ref u0, .int 8, .int 0])), (h1, .inl (k1, 600, .inl s1))] sz) := by
  refine Met.ofW (cc := cX9_put) (maxL := 3) (ret := none) (by decide) rfl ?_
  intro p e s m args below meth c s₁ B hml hv
  obtain ⟨rfl, hsz, hP, hK, hD0, hE, hZ⟩ := hv
  have hx := B.exec
  have hb := B.bytes
  have hr := B.returns
  have hG : ∀ w ∈ zG, w.before _ s = true := fun w h => atoms_spec (ws := (zw yX9_put cX9_put 3 none)) B.pre w (List.mem_cons_of_mem _ h)
  have hown : s.vm.findClass RX9 = some m.cls := findClass_of_methodNamed B.named
  have hlocks := B.notSynchronized
  subst hsz
  have hD := hD0.self (sz := s.heap.size)
  generalize hAe : va_A [(h0, .inr (9, [.ref h1, .ref u0, .int 8, .int 0])), (h1, .inl (k1, 600, .inl s1))] s.heap.size = A at hD hZ ⊢
  have hA : ∀ q : Nat, s.heap.size ≤ q → A q := fun q h => by rw [← hAe]; exact Or.inr h
  have hS : va_S A s.heap s.heap [] := va_S.rf
  have hl := lv_entry ([.ref h0, .int s0]) (n := 3) (Nat.le_of_ble_eq_true rfl)
  rw [lg_entry_eq]
  generalize (lg_sl ([.ref h0, .int s0]) ++ List.replicate (3 - (lg_sl ([.ref h0, .int s0])).length) Slot.unset).toArray = ls at hl ⊢
  have hl : lv_has ls 3 [(0, .ref h0), (1, .int s0)] := hl
  refine lv_bipush (v := 24) hx hb dX9_put_0 (by decide) ?_
  refine lv_istore_n (lv' := [(2, .int 24), (0, .ref h0), (1, .int s0)]) hx hb dX9_put_2 rfl hl (by decide) rfl (fun ls hl => ?_)
  refine lv_iload_n hx hb dX9_put_3 rfl (lv_at hl 0 rfl) ?_
  refine lv_if_lt (tgt := 46) hx hb dX9_put_4 (by decide) (fun c_2550 => absurd c_2550 (by decide)) (fun c_2550 => ?_)
  refine lv_aload_n hx hb dX9_put_7 rfl (lv_at hl 1 rfl) ?_
  refine va_get (D := (dC, dI)) (ci := 9) (v := .int 8) (C := RX9) (T := TX9) (N := 4) hx hb hG zuX9 hown hK hP 0 rfl rfl 2 (by decide) (hG _ zw13) (fun _ h9 => h9) rfl dX9_put_8 ?_
  refine lv_sipush (v := 600) hx hb dX9_put_11 (by decide) ?_
  refine lv_icmp_ge (tgt := 46) hx hb dX9_put_14 (by decide) (fun c_2551 => absurd c_2551 (by decide)) (fun c_2551 => ?_)
  refine lv_aload_n hx hb dX9_put_17 rfl (lv_at hl 1 rfl) ?_
  refine va_get (D := (dC, dI)) (ci := 9) (v := .ref h1) (C := RX9) (T := TX9) (N := 4) hx hb hG zuX9 hown hK hP 0 rfl rfl 0 (by decide) (hG _ zw11) (fun _ h9 => h9) rfl dX9_put_18 ?_
  refine lv_aload_n hx hb dX9_put_21 rfl (lv_at hl 1 rfl) ?_
  refine va_get (D := (dC, dI)) (ci := 9) (v := .int 8) (C := RX9) (T := TX9) (N := 4) hx hb hG zuX9 hown hK hP 0 rfl rfl 2 (by decide) (hG _ zw13) (fun _ h9 => h9) rfl dX9_put_22 ?_
  refine lv_iload_n hx hb dX9_put_25 rfl (lv_at hl 2 rfl) ?_
  refine lv_iload_n hx hb dX9_put_26 rfl (lv_at hl 0 rfl) ?_
  refine lv_iushr hx hb dX9_put_27 rfl ?_
  refine lv_topi (fun z_2552 e_z_2552 => ?_)
  refine lv_i2b hx hb dX9_put_28 rfl ?_
  refine lv_topi (fun z_2553 e_z_2553 => ?_)
  refine va_bast hx hb hK hP hD hS 1 0 rfl rfl (zin_lit (by decide)) dX9_put_29 (fun H locs hP hD hS => ?_)
  obtain ⟨f_2554, e_f_2554⟩ : ∃ z : Nat → Int32, z = upd s1 8 (vp_nar .byte z_2553) := ⟨_, rfl⟩
  have hP : va_P (dC, dI) vwCl [(h0, .inr (9, [.ref h1, .ref u0, .int 8, .int 0])), (h1, .inl (k1, 600, .inl f_2554))] H := by rw [e_f_2554]; exact hP
  have hD : va_D A [(h0, .inr (9, [.ref h1, .ref u0, .int 8, .int 0])), (h1, .inl (k1, 600, .inl f_2554))] := by rw [e_f_2554]; exact hD
  refine lv_aload_n hx hb dX9_put_30 rfl (lv_at hl 1 rfl) ?_
  refine lv_dup hx hb dX9_put_31 rfl ?_
  refine va_get (D := (dC, dI)) (ci := 9) (v := .int 8) (C := RX9) (T := TX9) (N := 4) hx hb hG zuX9 hown hK hP 0 rfl rfl 2 (by decide) (hG _ zw13) (fun _ h9 => h9) rfl dX9_put_32 ?_
  refine lv_iconst (v := 1) hx hb dX9_put_35 (by decide) ?_
  refine lv_iadd hx hb dX9_put_36 ?_
  refine lv_topi (fun z_2555 e_z_2555 => ?_)
  obtain rfl : z_2555 = (9 : Int32) := e_z_2555.trans (by decide)
  refine va_put (D := (dC, dI)) (ci := 9) (v := .int 9) (ty := .int) (C := RX9) (T := TX9) (N := 4) hx hb hG zuX9 tyX9 tyX9_ok nmX9 hown hK hP hD hS 0 rfl rfl 2 (by decide) (hG _ zw13) (fun _ h9 => h9) rfl (by decide +kernel) rfl rfl (Nat.le_of_ble_eq_true rfl) dX9_put_37 (fun H locs hP hD hS => ?_)
  have hP : va_P (dC, dI) vwCl [(h0, .inr (9, [.ref h1, .ref u0, .int 9, .int 0])), (h1, .inl (k1, 600, .inl f_2554))] H := hP
  have hD : va_D A [(h0, .inr (9, [.ref h1, .ref u0, .int 9, .int 0])), (h1, .inl (k1, 600, .inl f_2554))] := hD
  refine lv_iinc (v := 16) (lv' := [(2, .int 16), (0, .ref h0), (1, .int s0)]) hx hb dX9_put_40 hl (k := 0) rfl (by decide) (by decide) rfl (fun ls hl => ?_)
  refine lv_goto (tgt := 3) hx hb dX9_put_43 (by decide) ?_
  refine lv_iload_n hx hb dX9_put_3 rfl (lv_at hl 0 rfl) ?_
  refine lv_if_lt (tgt := 46) hx hb dX9_put_4 (by decide) (fun c_2556 => absurd c_2556 (by decide)) (fun c_2556 => ?_)
  refine lv_aload_n hx hb dX9_put_7 rfl (lv_at hl 1 rfl) ?_
  refine va_get (D := (dC, dI)) (ci := 9) (v := .int 9) (C := RX9) (T := TX9) (N := 4) hx hb hG zuX9 hown hK hP 0 rfl rfl 2 (by decide) (hG _ zw13) (fun _ h9 => h9) rfl dX9_put_8 ?_
  refine lv_sipush (v := 600) hx hb dX9_put_11 (by decide) ?_
  refine lv_icmp_ge (tgt := 46) hx hb dX9_put_14 (by decide) (fun c_2557 => absurd c_2557 (by decide)) (fun c_2557 => ?_)
  refine lv_aload_n hx hb dX9_put_17 rfl (lv_at hl 1 rfl) ?_
  refine va_get (D := (dC, dI)) (ci := 9) (v := .ref h1) (C := RX9) (T := TX9) (N := 4) hx hb hG zuX9 hown hK hP 0 rfl rfl 0 (by decide) (hG _ zw11) (fun _ h9 => h9) rfl dX9_put_18 ?_
  refine lv_aload_n hx hb dX9_put_21 rfl (lv_at hl 1 rfl) ?_
  refine va_get (D := (dC, dI)) (ci := 9) (v := .int 9) (C := RX9) (T := TX9) (N := 4) hx hb hG zuX9 hown hK hP 0 rfl rfl 2 (by decide) (hG _ zw13) (fun _ h9 => h9) rfl dX9_put_22 ?_
  refine lv_iload_n hx hb dX9_put_25 rfl (lv_at hl 2 rfl) ?_
  refine lv_iload_n hx hb dX9_put_26 rfl (lv_at hl 0 rfl) ?_
  refine lv_iushr hx hb dX9_put_27 rfl ?_
  refine lv_topi (fun z_2558 e_z_2558 => ?_)
  refine lv_i2b hx hb dX9_put_28 rfl ?_
  refine lv_topi (fun z_2559 e_z_2559 => ?_)
  refine va_bast hx hb hK hP hD hS 1 0 rfl rfl (zin_lit (by decide)) dX9_put_29 (fun H locs hP hD hS => ?_)
  obtain ⟨f_2560, e_f_2560⟩ : ∃ z : Nat → Int32, z = upd f_2554 9 (vp_nar .byte z_2559) := ⟨_, rfl⟩
  have hP : va_P (dC, dI) vwCl [(h0, .inr (9, [.ref h1, .ref u0, .int 9, .int 0])), (h1, .inl (k1, 600, .inl f_2560))] H := by rw [e_f_2560]; exact hP
  have hD : va_D A [(h0, .inr (9, [.ref h1, .ref u0, .int 9, .int 0])), (h1, .inl (k1, 600, .inl f_2560))] := by rw [e_f_2560]; exact hD
  refine lv_aload_n hx hb dX9_put_30 rfl (lv_at hl 1 rfl) ?_
  refine lv_dup hx hb dX9_put_31 rfl ?_
  refine va_get (D := (dC, dI)) (ci := 9) (v := .int 9) (C := RX9) (T := TX9) (N := 4) hx hb hG zuX9 hown hK hP 0 rfl rfl 2 (by decide) (hG _ zw13) (fun _ h9 => h9) rfl dX9_put_32 ?_
  refine lv_iconst (v := 1) hx hb dX9_put_35 (by decide) ?_
  refine lv_iadd hx hb dX9_put_36 ?_
  refine lv_topi (fun z_2561 e_z_2561 => ?_)
  obtain rfl : z_2561 = (10 : Int32) := e_z_2561.trans (by decide)
  refine va_put (D := (dC, dI)) (ci := 9) (v := .int 10) (ty := .int) (C := RX9) (T := TX9) (N := 4) hx hb hG zuX9 tyX9 tyX9_ok nmX9 hown hK hP hD hS 0 rfl rfl 2 (by decide) (hG _ zw13) (fun _ h9 => h9) rfl (by decide +kernel) rfl rfl (Nat.le_of_ble_eq_true rfl) dX9_put_37 (fun H locs hP hD hS => ?_)
  have hP : va_P (dC, dI) vwCl [(h0, .inr (9, [.ref h1, .ref u0, .int 10, .int 0])), (h1, .inl (k1, 600, .inl f_2560))] H := hP
  have hD : va_D A [(h0, .inr (9, [.ref h1, .ref u0, .int 10, .int 0])), (h1, .inl (k1, 600, .inl f_2560))] := hD
  refine lv_iinc (v := 8) (lv' := [(2, .int 8), (0, .ref h0), (1, .int s0)]) hx hb dX9_put_40 hl (k := 0) rfl (by decide) (by decide) rfl (fun ls hl => ?_)
  refine lv_goto (tgt := 3) hx hb dX9_put_43 (by decide) ?_
  refine lv_iload_n hx hb dX9_put_3 rfl (lv_at hl 0 rfl) ?_
  refine lv_if_lt (tgt := 46) hx hb dX9_put_4 (by decide) (fun c_2562 => absurd c_2562 (by decide)) (fun c_2562 => ?_)
  refine lv_aload_n hx hb dX9_put_7 rfl (lv_at hl 1 rfl) ?_
  refine va_get (D := (dC, dI)) (ci := 9) (v := .int 10) (C := RX9) (T := TX9) (N := 4) hx hb hG zuX9 hown hK hP 0 rfl rfl 2 (by decide) (hG _ zw13) (fun _ h9 => h9) rfl dX9_put_8 ?_
  refine lv_sipush (v := 600) hx hb dX9_put_11 (by decide) ?_
  refine lv_icmp_ge (tgt := 46) hx hb dX9_put_14 (by decide) (fun c_2563 => absurd c_2563 (by decide)) (fun c_2563 => ?_)
  refine lv_aload_n hx hb dX9_put_17 rfl (lv_at hl 1 rfl) ?_
  refine va_get (D := (dC, dI)) (ci := 9) (v := .ref h1) (C := RX9) (T := TX9) (N := 4) hx hb hG zuX9 hown hK hP 0 rfl rfl 0 (by decide) (hG _ zw11) (fun _ h9 => h9) rfl dX9_put_18 ?_
  refine lv_aload_n hx hb dX9_put_21 rfl (lv_at hl 1 rfl) ?_
  refine va_get (D := (dC, dI)) (ci := 9) (v := .int 10) (C := RX9) (T := TX9) (N := 4) hx hb hG zuX9 hown hK hP 0 rfl rfl 2 (by decide) (hG _ zw13) (fun _ h9 => h9) rfl dX9_put_22 ?_
  refine lv_iload_n hx hb dX9_put_25 rfl (lv_at hl 2 rfl) ?_
  refine lv_iload_n hx hb dX9_put_26 rfl (lv_at hl 0 rfl) ?_
  refine lv_iushr hx hb dX9_put_27 rfl ?_
  refine lv_topi (fun z_2564 e_z_2564 => ?_)
  refine lv_i2b hx hb dX9_put_28 rfl ?_
  refine lv_topi (fun z_2565 e_z_2565 => ?_)
  refine va_bast hx hb hK hP hD hS 1 0 rfl rfl (zin_lit (by decide)) dX9_put_29 (fun H locs hP hD hS => ?_)
  obtain ⟨f_2566, e_f_2566⟩ : ∃ z : Nat → Int32, z = upd f_2560 10 (vp_nar .byte z_2565) := ⟨_, rfl⟩
  have hP : va_P (dC, dI) vwCl [(h0, .inr (9, [.ref h1, .ref u0, .int 10, .int 0])), (h1, .inl (k1, 600, .inl f_2566))] H := by rw [e_f_2566]; exact hP
  have hD : va_D A [(h0, .inr (9, [.ref h1, .ref u0, .int 10, .int 0])), (h1, .inl (k1, 600, .inl f_2566))] := by rw [e_f_2566]; exact hD
  refine lv_aload_n hx hb dX9_put_30 rfl (lv_at hl 1 rfl) ?_
  refine lv_dup hx hb dX9_put_31 rfl ?_
  refine va_get (D := (dC, dI)) (ci := 9) (v := .int 10) (C := RX9) (T := TX9) (N := 4) hx hb hG zuX9 hown hK hP 0 rfl rfl 2 (by decide) (hG _ zw13) (fun _ h9 => h9) rfl dX9_put_32 ?_
  refine lv_iconst (v := 1) hx hb dX9_put_35 (by decide) ?_
  refine lv_iadd hx hb dX9_put_36 ?_
  refine lv_topi (fun z_2567 e_z_2567 => ?_)
  obtain rfl : z_2567 = (11 : Int32) := e_z_2567.trans (by decide)
  refine va_put (D := (dC, dI)) (ci := 9) (v := .int 11) (ty := .int) (C := RX9) (T := TX9) (N := 4) hx hb hG zuX9 tyX9 tyX9_ok nmX9 hown hK hP hD hS 0 rfl rfl 2 (by decide) (hG _ zw13) (fun _ h9 => h9) rfl (by decide +kernel) rfl rfl (Nat.le_of_ble_eq_true rfl) dX9_put_37 (fun H locs hP hD hS => ?_)
  have hP : va_P (dC, dI) vwCl [(h0, .inr (9, [.ref h1, .ref u0, .int 11, .int 0])), (h1, .inl (k1, 600, .inl f_2566))] H := hP
  have hD : va_D A [(h0, .inr (9, [.ref h1, .ref u0, .int 11, .int 0])), (h1, .inl (k1, 600, .inl f_2566))] := hD
  refine lv_iinc (v := 0) (lv' := [(2, .int 0), (0, .ref h0), (1, .int s0)]) hx hb dX9_put_40 hl (k := 0) rfl (by decide) (by decide) rfl (fun ls hl => ?_)
  refine lv_goto (tgt := 3) hx hb dX9_put_43 (by decide) ?_
  refine lv_iload_n hx hb dX9_put_3 rfl (lv_at hl 0 rfl) ?_
  refine lv_if_lt (tgt := 46) hx hb dX9_put_4 (by decide) (fun c_2568 => absurd c_2568 (by decide)) (fun c_2568 => ?_)
  refine lv_aload_n hx hb dX9_put_7 rfl (lv_at hl 1 rfl) ?_
  refine va_get (D := (dC, dI)) (ci := 9) (v := .int 11) (C := RX9) (T := TX9) (N := 4) hx hb hG zuX9 hown hK hP 0 rfl rfl 2 (by decide) (hG _ zw13) (fun _ h9 => h9) rfl dX9_put_8 ?_
  refine lv_sipush (v := 600) hx hb dX9_put_11 (by decide) ?_
  refine lv_icmp_ge (tgt := 46) hx hb dX9_put_14 (by decide) (fun c_2569 => absurd c_2569 (by decide)) (fun c_2569 => ?_)
  refine lv_aload_n hx hb dX9_put_17 rfl (lv_at hl 1 rfl) ?_
  refine va_get (D := (dC, dI)) (ci := 9) (v := .ref h1) (C := RX9) (T := TX9) (N := 4) hx hb hG zuX9 hown hK hP 0 rfl rfl 0 (by decide) (hG _ zw11) (fun _ h9 => h9) rfl dX9_put_18 ?_
  refine lv_aload_n hx hb dX9_put_21 rfl (lv_at hl 1 rfl) ?_
  refine va_get (D := (dC, dI)) (ci := 9) (v := .int 11) (C := RX9) (T := TX9) (N := 4) hx hb hG zuX9 hown hK hP 0 rfl rfl 2 (by decide) (hG _ zw13) (fun _ h9 => h9) rfl dX9_put_22 ?_
  refine lv_iload_n hx hb dX9_put_25 rfl (lv_at hl 2 rfl) ?_
  refine lv_iload_n hx hb dX9_put_26 rfl (lv_at hl 0 rfl) ?_
  refine lv_iushr hx hb dX9_put_27 rfl ?_
  refine lv_topi (fun z_2570 e_z_2570 => ?_)
  refine lv_i2b hx hb dX9_put_28 rfl ?_
  refine lv_topi (fun z_2571 e_z_2571 => ?_)
  refine va_bast hx hb hK hP hD hS 1 0 rfl rfl (zin_lit (by decide)) dX9_put_29 (fun H locs hP hD hS => ?_)
  obtain ⟨f_2572, e_f_2572⟩ : ∃ z : Nat → Int32, z = upd f_2566 11 (vp_nar .byte z_2571) := ⟨_, rfl⟩
  have hP : va_P (dC, dI) vwCl [(h0, .inr (9, [.ref h1, .ref u0, .int 11, .int 0])), (h1, .inl (k1, 600, .inl f_2572))] H := by rw [e_f_2572]; exact hP
  have hD : va_D A [(h0, .inr (9, [.ref h1, .ref u0, .int 11, .int 0])), (h1, .inl (k1, 600, .inl f_2572))] := by rw [e_f_2572]; exact hD
  refine lv_aload_n hx hb dX9_put_30 rfl (lv_at hl 1 rfl) ?_
  refine lv_dup hx hb dX9_put_31 rfl ?_
  refine va_get (D := (dC, dI)) (ci := 9) (v := .int 11) (C := RX9) (T := TX9) (N := 4) hx hb hG zuX9 hown hK hP 0 rfl rfl 2 (by decide) (hG _ zw13) (fun _ h9 => h9) rfl dX9_put_32 ?_
  refine lv_iconst (v := 1) hx hb dX9_put_35 (by decide) ?_
  refine lv_iadd hx hb dX9_put_36 ?_
  refine lv_topi (fun z_2573 e_z_2573 => ?_)
  obtain rfl : z_2573 = (12 : Int32) := e_z_2573.trans (by decide)
  refine va_put (D := (dC, dI)) (ci := 9) (v := .int 12) (ty := .int) (C := RX9) (T := TX9) (N := 4) hx hb hG zuX9 tyX9 tyX9_ok nmX9 hown hK hP hD hS 0 rfl rfl 2 (by decide) (hG _ zw13) (fun _ h9 => h9) rfl (by decide +kernel) rfl rfl (Nat.le_of_ble_eq_true rfl) dX9_put_37 (fun H locs hP hD hS => ?_)
  have hP : va_P (dC, dI) vwCl [(h0, .inr (9, [.ref h1, .ref u0, .int 12, .int 0])), (h1, .inl (k1, 600, .inl f_2572))] H := hP
  have hD : va_D A [(h0, .inr (9, [.ref h1, .ref u0, .int 12, .int 0])), (h1, .inl (k1, 600, .inl f_2572))] := hD
  refine lv_iinc (v := (-8)) (lv' := [(2, .int (-8)), (0, .ref h0), (1, .int s0)]) hx hb dX9_put_40 hl (k := 0) rfl (by decide) (by decide) rfl (fun ls hl => ?_)
  refine lv_goto (tgt := 3) hx hb dX9_put_43 (by decide) ?_
  refine lv_iload_n hx hb dX9_put_3 rfl (lv_at hl 0 rfl) ?_
  refine lv_if_lt (tgt := 46) hx hb dX9_put_4 (by decide) (fun c_2574 => ?_) (fun c_2574 => absurd c_2574 (by decide))
  have hP9 := hP.sub (ws' := [(h0, .inr (9, [.ref h1, .ref u0, .int 12, .int 0])), (h1, .inl (k1, 600, .inl f_2572))]) [0, 1] rfl
  have hD9 := hD.sub (ws' := [(h0, .inr (9, [.ref h1, .ref u0, .int 12, .int 0])), (h1, .inl (k1, 600, .inl f_2572))]) [0, 1] (by decide) rfl
  have hK9 := hK.sub (tys' := [(k1, .byte)]) [0] rfl
  refine W.widen (k := 0) (n := 0) (by decide) (by decide) ?_
  exact W.vret hx hb hr (fun t ht hW => ⟨⟨(), rfl, trivial, f_2572, by rw [ht]; exact hP9, va_K.moved hW.alike hK9, hD9⟩, hS.F ht⟩) hS.2.2 dX9_put_46
set_option maxHeartbeats 4000000 in
set_option maxRecDepth 100000 in
theorem kX9_put_3 (l : Launch) (dC : Nat → ClassId) (dI : Nat → Nat → Nat) (h0 h1 u0 : Nat) (k1 : ClassId) (sz : Nat) (s0 : Int32) (s1 : Nat → Int32) : Met l yX9_put (zw yX9_put cX9_put 3 none) { frames := 0, cells := 0, slots := 0, locals := 0 } (zPc dC dI [.ref h0, .int s0] sz [(h0, .inr (9, [.ref h1, .ref u0, .int 12, .int 0])), (h1, .inl (k1, 600, .inl s1))] [(k1, .byte)]) (va_Qv (fun _ : Unit => True) (fun (_ : Unit) (t : State) => ∃ (f0 : Nat → Int32), va_P (dC, dI) vwCl [(h0, .inr (9, [.ref h1, .ref u0, .int 16, .int 0])), (h1, .inl (k1, 600, .inl f0))] t.heap ∧ va_K (dC, dI) vwCl [(k1, .byte)] t ∧ va_D (va_A [(h0, .inr (9, [.ref h1, .ref u0, .int 12, .int 0])), (h1, .inl (k1, 600, .inl s1))] sz) [(h0, .inr (9, [.ref h1, .ref u0, .int 16, .int 0])), (h1, .inl (k1, 600, .inl f0))]) (va_A [(h0, .inr (9, [.ref h1, .ref u0, .int 12, .int 0])), (h1, .inl (k1, 600, .inl s1))] sz)) 0 0 (va_A [(h0, .inr (9, [.ref h1, .ref u0, .int 12, .int 0])), (h1, .inl (k1, 600, .inl s1))] sz) := by
  refine Met.ofW (cc := cX9_put) (maxL := 3) (ret := none) (by decide) rfl ?_
  intro p e s m args below meth c s₁ B hml hv
  obtain ⟨rfl, hsz, hP, hK, hD0, hE, hZ⟩ := hv
  have hx := B.exec
  have hb := B.bytes
  have hr := B.returns
  have hG : ∀ w ∈ zG, w.before _ s = true := fun w h => atoms_spec (ws := (zw yX9_put cX9_put 3 none)) B.pre w (List.mem_cons_of_mem _ h)
  have hown : s.vm.findClass RX9 = some m.cls := findClass_of_methodNamed B.named
  have hlocks := B.notSynchronized
  subst hsz
  have hD := hD0.self (sz := s.heap.size)
  generalize hAe : va_A [(h0, .inr (9, [.ref h1, .ref u0, .int 12, .int 0])), (h1, .inl (k1, 600, .inl s1))] s.heap.size = A at hD hZ ⊢
  have hA : ∀ q : Nat, s.heap.size ≤ q → A q := fun q h => by rw [← hAe]; exact Or.inr h
  have hS : va_S A s.heap s.heap [] := va_S.rf
  have hl := lv_entry ([.ref h0, .int s0]) (n := 3) (Nat.le_of_ble_eq_true rfl)
  rw [lg_entry_eq]
  generalize (lg_sl ([.ref h0, .int s0]) ++ List.replicate (3 - (lg_sl ([.ref h0, .int s0])).length) Slot.unset).toArray = ls at hl ⊢
  have hl : lv_has ls 3 [(0, .ref h0), (1, .int s0)] := hl
  refine lv_bipush (v := 24) hx hb dX9_put_0 (by decide) ?_
  refine lv_istore_n (lv' := [(2, .int 24), (0, .ref h0), (1, .int s0)]) hx hb dX9_put_2 rfl hl (by decide) rfl (fun ls hl => ?_)
  refine lv_iload_n hx hb dX9_put_3 rfl (lv_at hl 0 rfl) ?_
  refine lv_if_lt (tgt := 46) hx hb dX9_put_4 (by decide) (fun c_2628 => absurd c_2628 (by decide)) (fun c_2628 => ?_)
  refine lv_aload_n hx hb dX9_put_7 rfl (lv_at hl 1 rfl) ?_
  refine va_get (D := (dC, dI)) (ci := 9) (v := .int 12) (C := RX9) (T := TX9) (N := 4) hx hb hG zuX9 hown hK hP 0 rfl rfl 2 (by decide) (hG _ zw13) (fun _ h9 => h9) rfl dX9_put_8 ?_
  refine lv_sipush (v := 600) hx hb dX9_put_11 (by decide) ?_
  refine lv_icmp_ge (tgt := 46) hx hb dX9_put_14 (by decide) (fun c_2629 => absurd c_2629 (by decide)) (fun c_2629 => ?_)
  refine lv_aload_n hx hb dX9_put_17 rfl (lv_at hl 1 rfl) ?_
  refine va_get (D := (dC, dI)) (ci := 9) (v := .ref h1) (C := RX9) (T := TX9) (N := 4) hx hb hG zuX9 hown hK hP 0 rfl rfl 0 (by decide) (hG _ zw11) (fun _ h9 => h9) rfl dX9_put_18 ?_
  refine lv_aload_n hx hb dX9_put_21 rfl (lv_at hl 1 rfl) ?_
  refine va_get (D := (dC, dI)) (ci := 9) (v := .int 12) (C := RX9) (T := TX9) (N := 4) hx hb hG zuX9 hown hK hP 0 rfl rfl 2 (by decide) (hG _ zw13) (fun _ h9 => h9) rfl dX9_put_22 ?_
  refine lv_iload_n hx hb dX9_put_25 rfl (lv_at hl 2 rfl) ?_
  refine lv_iload_n hx hb dX9_put_26 rfl (lv_at hl 0 rfl) ?_
  refine lv_iushr hx hb dX9_put_27 rfl ?_
  refine lv_topi (fun z_2630 e_z_2630 => ?_)
  refine lv_i2b hx hb dX9_put_28 rfl ?_
  refine lv_topi (fun z_2631 e_z_2631 => ?_)
  refine va_bast hx hb hK hP hD hS 1 0 rfl rfl (zin_lit (by decide)) dX9_put_29 (fun H locs hP hD hS => ?_)
  obtain ⟨f_2632, e_f_2632⟩ : ∃ z : Nat → Int32, z = upd s1 12 (vp_nar .byte z_2631) := ⟨_, rfl⟩
  have hP : va_P (dC, dI) vwCl [(h0, .inr (9, [.ref h1, .ref u0, .int 12, .int 0])), (h1, .inl (k1, 600, .inl f_2632))] H := by rw [e_f_2632]; exact hP
  have hD : va_D A [(h0, .inr (9, [.ref h1, .ref u0, .int 12, .int 0])), (h1, .inl (k1, 600, .inl f_2632))] := by rw [e_f_2632]; exact hD
  refine lv_aload_n hx hb dX9_put_30 rfl (lv_at hl 1 rfl) ?_
  refine lv_dup hx hb dX9_put_31 rfl ?_
  refine va_get (D := (dC, dI)) (ci := 9) (v := .int 12) (C := RX9) (T := TX9) (N := 4) hx hb hG zuX9 hown hK hP 0 rfl rfl 2 (by decide) (hG _ zw13) (fun _ h9 => h9) rfl dX9_put_32 ?_
  refine lv_iconst (v := 1) hx hb dX9_put_35 (by decide) ?_
  refine lv_iadd hx hb dX9_put_36 ?_
  refine lv_topi (fun z_2633 e_z_2633 => ?_)
  obtain rfl : z_2633 = (13 : Int32) := e_z_2633.trans (by decide)
  refine va_put (D := (dC, dI)) (ci := 9) (v := .int 13) (ty := .int) (C := RX9) (T := TX9) (N := 4) hx hb hG zuX9 tyX9 tyX9_ok nmX9 hown hK hP hD hS 0 rfl rfl 2 (by decide) (hG _ zw13) (fun _ h9 => h9) rfl (by decide +kernel) rfl rfl (Nat.le_of_ble_eq_true rfl) dX9_put_37 (fun H locs hP hD hS => ?_)
  have hP : va_P (dC, dI) vwCl [(h0, .inr (9, [.ref h1, .ref u0, .int 13, .int 0])), (h1, .inl (k1, 600, .inl f_2632))] H := hP
  have hD : va_D A [(h0, .inr (9, [.ref h1, .ref u0, .int 13, .int 0])), (h1, .inl (k1, 600, .inl f_2632))] := hD
  refine lv_iinc (v := 16) (lv' := [(2, .int 16), (0, .ref h0), (1, .int s0)]) hx hb dX9_put_40 hl (k := 0) rfl (by decide) (by decide) rfl (fun ls hl => ?_)
  refine lv_goto (tgt := 3) hx hb dX9_put_43 (by decide) ?_
  refine lv_iload_n hx hb dX9_put_3 rfl (lv_at hl 0 rfl) ?_
  refine lv_if_lt (tgt := 46) hx hb dX9_put_4 (by decide) (fun c_2634 => absurd c_2634 (by decide)) (fun c_2634 => ?_)
  refine lv_aload_n hx hb dX9_put_7 rfl (lv_at hl 1 rfl) ?_
  refine va_get (D := (dC, dI)) (ci := 9) (v := .int 13) (C := RX9) (T := TX9) (N := 4) hx hb hG zuX9 hown hK hP 0 rfl rfl 2 (by decide) (hG _ zw13) (fun _ h9 => h9) rfl dX9_put_8 ?_
  refine lv_sipush (v := 600) hx hb dX9_put_11 (by decide) ?_
  refine lv_icmp_ge (tgt := 46) hx hb dX9_put_14 (by decide) (fun c_2635 => absurd c_2635 (by decide)) (fun c_2635 => ?_)
  refine lv_aload_n hx hb dX9_put_17 rfl (lv_at hl 1 rfl) ?_
  refine va_get (D := (dC, dI)) (ci := 9) (v := .ref h1) (C := RX9) (T := TX9) (N := 4) hx hb hG zuX9 hown hK hP 0 rfl rfl 0 (by decide) (hG _ zw11) (fun _ h9 => h9) rfl dX9_put_18 ?_
  refine lv_aload_n hx hb dX9_put_21 rfl (lv_at hl 1 rfl) ?_
  refine va_get (D := (dC, dI)) (ci := 9) (v := .int 13) (C := RX9) (T := TX9) (N := 4) hx hb hG zuX9 hown hK hP 0 rfl rfl 2 (by decide) (hG _ zw13) (fun _ h9 => h9) rfl dX9_put_22 ?_
  refine lv_iload_n hx hb dX9_put_25 rfl (lv_at hl 2 rfl) ?_
  refine lv_iload_n hx hb dX9_put_26 rfl (lv_at hl 0 rfl) ?_
  refine lv_iushr hx hb dX9_put_27 rfl ?_
  refine lv_topi (fun z_2636 e_z_2636 => ?_)
  refine lv_i2b hx hb dX9_put_28 rfl ?_
  refine lv_topi (fun z_2637 e_z_2637 => ?_)
  refine va_bast hx hb hK hP hD hS 1 0 rfl rfl (zin_lit (by decide)) dX9_put_29 (fun H locs hP hD hS => ?_)
  obtain ⟨f_2638, e_f_2638⟩ : ∃ z : Nat → Int32, z = upd f_2632 13 (vp_nar .byte z_2637) := ⟨_, rfl⟩
  have hP : va_P (dC, dI) vwCl [(h0, .inr (9, [.ref h1, .ref u0, .int 13, .int 0])), (h1, .inl (k1, 600, .inl f_2638))] H := by rw [e_f_2638]; exact hP
  have hD : va_D A [(h0, .inr (9, [.ref h1, .ref u0, .int 13, .int 0])), (h1, .inl (k1, 600, .inl f_2638))] := by rw [e_f_2638]; exact hD
  refine lv_aload_n hx hb dX9_put_30 rfl (lv_at hl 1 rfl) ?_
  refine lv_dup hx hb dX9_put_31 rfl ?_
  refine va_get (D := (dC, dI)) (ci := 9) (v := .int 13) (C := RX9) (T := TX9) (N := 4) hx hb hG zuX9 hown hK hP 0 rfl rfl 2 (by decide) (hG _ zw13) (fun _ h9 => h9) rfl dX9_put_32 ?_
  refine lv_iconst (v := 1) hx hb dX9_put_35 (by decide) ?_
  refine lv_iadd hx hb dX9_put_36 ?_
  refine lv_topi (fun z_2639 e_z_2639 => ?_)
  obtain rfl : z_2639 = (14 : Int32) := e_z_2639.trans (by decide)
  refine va_put (D := (dC, dI)) (ci := 9) (v := .int 14) (ty := .int) (C := RX9) (T := TX9) (N := 4) hx hb hG zuX9 tyX9 tyX9_ok nmX9 hown hK hP hD hS 0 rfl rfl 2 (by decide) (hG _ zw13) (fun _ h9 => h9) rfl (by decide +kernel) rfl rfl (Nat.le_of_ble_eq_true rfl) dX9_put_37 (fun H locs hP hD hS => ?_)
  have hP : va_P (dC, dI) vwCl [(h0, .inr (9, [.ref h1, .ref u0, .int 14, .int 0])), (h1, .inl (k1, 600, .inl f_2638))] H := hP
  have hD : va_D A [(h0, .inr (9, [.ref h1, .ref u0, .int 14, .int 0])), (h1, .inl (k1, 600, .inl f_2638))] := hD
  refine lv_iinc (v := 8) (lv' := [(2, .int 8), (0, .ref h0), (1, .int s0)]) hx hb dX9_put_40 hl (k := 0) rfl (by decide) (by decide) rfl (fun ls hl => ?_)
  refine lv_goto (tgt := 3) hx hb dX9_put_43 (by decide) ?_
  refine lv_iload_n hx hb dX9_put_3 rfl (lv_at hl 0 rfl) ?_
  refine lv_if_lt (tgt := 46) hx hb dX9_put_4 (by decide) (fun c_2640 => absurd c_2640 (by decide)) (fun c_2640 => ?_)
  refine lv_aload_n hx hb dX9_put_7 rfl (lv_at hl 1 rfl) ?_
  refine va_get (D := (dC, dI)) (ci := 9) (v := .int 14) (C := RX9) (T := TX9) (N := 4) hx hb hG zuX9 hown hK hP 0 rfl rfl 2 (by decide) (hG _ zw13) (fun _ h9 => h9) rfl dX9_put_8 ?_
  refine lv_sipush (v := 600) hx hb dX9_put_11 (by decide) ?_
  refine lv_icmp_ge (tgt := 46) hx hb dX9_put_14 (by decide) (fun c_2641 => absurd c_2641 (by decide)) (fun c_2641 => ?_)
  refine lv_aload_n hx hb dX9_put_17 rfl (lv_at hl 1 rfl) ?_
  refine va_get (D := (dC, dI)) (ci := 9) (v := .ref h1) (C := RX9) (T := TX9) (N := 4) hx hb hG zuX9 hown hK hP 0 rfl rfl 0 (by decide) (hG _ zw11) (fun _ h9 => h9) rfl dX9_put_18 ?_
  refine lv_aload_n hx hb dX9_put_21 rfl (lv_at hl 1 rfl) ?_
  refine va_get (D := (dC, dI)) (ci := 9) (v := .int 14) (C := RX9) (T := TX9) (N := 4) hx hb hG zuX9 hown hK hP 0 rfl rfl 2 (by decide) (hG _ zw13) (fun _ h9 => h9) rfl dX9_put_22 ?_
  refine lv_iload_n hx hb dX9_put_25 rfl (lv_at hl 2 rfl) ?_
  refine lv_iload_n hx hb dX9_put_26 rfl (lv_at hl 0 rfl) ?_
  refine lv_iushr hx hb dX9_put_27 rfl ?_
  refine lv_topi (fun z_2642 e_z_2642 => ?_)
  refine lv_i2b hx hb dX9_put_28 rfl ?_
  refine lv_topi (fun z_2643 e_z_2643 => ?_)
  refine va_bast hx hb hK hP hD hS 1 0 rfl rfl (zin_lit (by decide)) dX9_put_29 (fun H locs hP hD hS => ?_)
  obtain ⟨f_2644, e_f_2644⟩ : ∃ z : Nat → Int32, z = upd f_2638 14 (vp_nar .byte z_2643) := ⟨_, rfl⟩
  have hP : va_P (dC, dI) vwCl [(h0, .inr (9, [.ref h1, .ref u0, .int 14, .int 0])), (h1, .inl (k1, 600, .inl f_2644))] H := by rw [e_f_2644]; exact hP
  have hD : va_D A [(h0, .inr (9, [.ref h1, .ref u0, .int 14, .int 0])), (h1, .inl (k1, 600, .inl f_2644))] := by rw [e_f_2644]; exact hD
  refine lv_aload_n hx hb dX9_put_30 rfl (lv_at hl 1 rfl) ?_
  refine lv_dup hx hb dX9_put_31 rfl ?_
  refine va_get (D := (dC, dI)) (ci := 9) (v := .int 14) (C := RX9) (T := TX9) (N := 4) hx hb hG zuX9 hown hK hP 0 rfl rfl 2 (by decide) (hG _ zw13) (fun _ h9 => h9) rfl dX9_put_32 ?_
  refine lv_iconst (v := 1) hx hb dX9_put_35 (by decide) ?_
  refine lv_iadd hx hb dX9_put_36 ?_
  refine lv_topi (fun z_2645 e_z_2645 => ?_)
  obtain rfl : z_2645 = (15 : Int32) := e_z_2645.trans (by decide)
  refine va_put (D := (dC, dI)) (ci := 9) (v := .int 15) (ty := .int) (C := RX9) (T := TX9) (N := 4) hx hb hG zuX9 tyX9 tyX9_ok nmX9 hown hK hP hD hS 0 rfl rfl 2 (by decide) (hG _ zw13) (fun _ h9 => h9) rfl (by decide +kernel) rfl rfl (Nat.le_of_ble_eq_true rfl) dX9_put_37 (fun H locs hP hD hS => ?_)
  have hP : va_P (dC, dI) vwCl [(h0, .inr (9, [.ref h1, .ref u0, .int 15, .int 0])), (h1, .inl (k1, 600, .inl f_2644))] H := hP
  have hD : va_D A [(h0, .inr (9, [.ref h1, .ref u0, .int 15, .int 0])), (h1, .inl (k1, 600, .inl f_2644))] := hD
  refine lv_iinc (v := 0) (lv' := [(2, .int 0), (0, .ref h0), (1, .int s0)]) hx hb dX9_put_40 hl (k := 0) rfl (by decide) (by decide) rfl (fun ls hl => ?_)
  refine lv_goto (tgt := 3) hx hb dX9_put_43 (by decide) ?_
  refine lv_iload_n hx hb dX9_put_3 rfl (lv_at hl 0 rfl) ?_
  refine lv_if_lt (tgt := 46) hx hb dX9_put_4 (by decide) (fun c_2646 => absurd c_2646 (by decide)) (fun c_2646 => ?_)
  refine lv_aload_n hx hb dX9_put_7 rfl (lv_at hl 1 rfl) ?_
  refine va_get (D := (dC, dI)) (ci := 9) (v := .int 15) (C := RX9) (T := TX9) (N := 4) hx hb hG zuX9 hown hK hP 0 rfl rfl 2 (by decide) (hG _ zw13) (fun _ h9 => h9) rfl dX9_put_8 ?_
  refine lv_sipush (v := 600) hx hb dX9_put_11 (by decide) ?_
  refine lv_icmp_ge (tgt := 46) hx hb dX9_put_14 (by decide) (fun c_2647 => absurd c_2647 (by decide)) (fun c_2647 => ?_)
  refine lv_aload_n hx hb dX9_put_17 rfl (lv_at hl 1 rfl) ?_
  refine va_get (D := (dC, dI)) (ci := 9) (v := .ref h1) (C := RX9) (T := TX9) (N := 4) hx hb hG zuX9 hown hK hP 0 rfl rfl 0 (by decide) (hG _ zw11) (fun _ h9 => h9) rfl dX9_put_18 ?_
  refine lv_aload_n hx hb dX9_put_21 rfl (lv_at hl 1 rfl) ?_
  refine va_get (D := (dC, dI)) (ci := 9) (v := .int 15) (C := RX9) (T := TX9) (N := 4) hx hb hG zuX9 hown hK hP 0 rfl rfl 2 (by decide) (hG _ zw13) (fun _ h9 => h9) rfl dX9_put_22 ?_
  refine lv_iload_n hx hb dX9_put_25 rfl (lv_at hl 2 rfl) ?_
  refine lv_iload_n hx hb dX9_put_26 rfl (lv_at hl 0 rfl) ?_
  refine lv_iushr hx hb dX9_put_27 rfl ?_
  refine lv_topi (fun z_2648 e_z_2648 => ?_)
  refine lv_i2b hx hb dX9_put_28 rfl ?_
  refine lv_topi (fun z_2649 e_z_2649 => ?_)
  refine va_bast hx hb hK hP hD hS 1 0 rfl rfl (zin_lit (by decide)) dX9_put_29 (fun H locs hP hD hS => ?_)
  obtain ⟨f_2650, e_f_2650⟩ : ∃ z : Nat → Int32, z = upd f_2644 15 (vp_nar .byte z_2649) := ⟨_, rfl⟩
  have hP : va_P (dC, dI) vwCl [(h0, .inr (9, [.ref h1, .ref u0, .int 15, .int 0])), (h1, .inl (k1, 600, .inl f_2650))] H := by rw [e_f_2650]; exact hP
  have hD : va_D A [(h0, .inr (9, [.ref h1, .ref u0, .int 15, .int 0])), (h1, .inl (k1, 600, .inl f_2650))] := by rw [e_f_2650]; exact hD
  refine lv_aload_n hx hb dX9_put_30 rfl (lv_at hl 1 rfl) ?_
  refine lv_dup hx hb dX9_put_31 rfl ?_
  refine va_get (D := (dC, dI)) (ci := 9) (v := .int 15) (C := RX9) (T := TX9) (N := 4) hx hb hG zuX9 hown hK hP 0 rfl rfl 2 (by decide) (hG _ zw13) (fun _ h9 => h9) rfl dX9_put_32 ?_
  refine lv_iconst (v := 1) hx hb dX9_put_35 (by decide) ?_
  refine lv_iadd hx hb dX9_put_36 ?_
  refine lv_topi (fun z_2651 e_z_2651 => ?_)
  obtain rfl : z_2651 = (16 : Int32) := e_z_2651.trans (by decide)
  refine va_put (D := (dC, dI)) (ci := 9) (v := .int 16) (ty := .int) (C := RX9) (T := TX9) (N := 4) hx hb hG zuX9 tyX9 tyX9_ok nmX9 hown hK hP hD hS 0 rfl rfl 2 (by decide) (hG _ zw13) (fun _ h9 => h9) rfl (by decide +kernel) rfl rfl (Nat.le_of_ble_eq_true rfl) dX9_put_37 (fun H locs hP hD hS => ?_)
  have hP : va_P (dC, dI) vwCl [(h0, .inr (9, [.ref h1, .ref u0, .int 16, .int 0])), (h1, .inl (k1, 600, .inl f_2650))] H := hP
  have hD : va_D A [(h0, .inr (9, [.ref h1, .ref u0, .int 16, .int 0])), (h1, .inl (k1, 600, .inl f_2650))] := hD
  refine lv_iinc (v := (-8)) (lv' := [(2, .int (-8)), (0, .ref h0), (1, .int s0)]) hx hb dX9_put_40 hl (k := 0) rfl (by decide) (by decide) rfl (fun ls hl => ?_)
  refine lv_goto (tgt := 3) hx hb dX9_put_43 (by decide) ?_
  refine lv_iload_n hx hb dX9_put_3 rfl (lv_at hl 0 rfl) ?_
  refine lv_if_lt (tgt := 46) hx hb dX9_put_4 (by decide) (fun c_2652 => ?_) (fun c_2652 => absurd c_2652 (by decide))
  have hP9 := hP.sub (ws' := [(h0, .inr (9, [.ref h1, .ref u0, .int 16, .int 0])), (h1, .inl (k1, 600, .inl f_2650))]) [0, 1] rfl
  have hD9 := hD.sub (ws' := [(h0, .inr (9, [.ref h1, .ref u0, .int 16, .int 0])), (h1, .inl (k1, 600, .inl f_2650))]) [0, 1] (by decide) rfl
  have hK9 := hK.sub (tys' := [(k1, .byte)]) [0] rfl
  refine W.widen (k := 0) (n := 0) (by decide) (by decide) ?_
  exact W.vret hx hb hr (fun t ht hW => ⟨⟨(), rfl, trivial, f_2650, by rw [ht]; exact hP9, va_K.moved hW.alike hK9, hD9⟩, hS.F ht⟩) hS.2.2 dX9_put_46
set_option maxHeartbeats 4000000 in
set_option maxRecDepth 100000 in
theorem kX9_put_4 (l : Launch) (dC : Nat → ClassId) (dI : Nat → Nat → Nat) (h0 h1 u0 : Nat) (k1 : ClassId) (sz : Nat) (s0 : Int32) (s1 : Nat → Int32) : Met l yX9_put (zw yX9_put cX9_put 3 none) { frames := 0, cells := 0, slots := 0, locals := 0 } (zPc dC dI [.ref h0, .int s0] sz [(h0, .inr (9, [.ref h1, .ref u0, .int 16, .int 0])), (h1, .inl (k1, 600, .inl s1))] [(k1, .byte)]) (va_Qv (fun _ : Unit => True) (fun (_ : Unit) (t : State) => ∃ (f0 : Nat → Int32), va_P (dC, dI) vwCl [(h0, .inr (9, [.ref h1, .ref u0, .int 20, .int 0])), (h1, .inl (k1, 600, .inl f0))] t.heap ∧ va_K (dC, dI) vwCl [(k1, .byte)] t ∧ va_D (va_A [(h0, .inr (9, [.ref h1, .ref u0, .int 16, .int 0])), (h1, .inl (k1, 600, .inl s1))] sz) [(h0, .inr (9, [.ref h1, .ref u0, .int 20, .int 0])), (h1, .inl (k1, 600, .inl f0))]) (va_A [(h0, .inr (9, [.ref h1, .ref u0, .int 16, .int 0])), (h1, .inl (k1, 600, .inl s1))] sz)) 0 0 (va_A [(h0, .inr (9, [.ref h1, .ref u0, .int 16, .int 0])), (h1, .inl (k1, 600, .inl s1))] sz) := by
  refine Met.ofW (cc := cX9_put) (maxL := 3) (ret := none) (by decide) rfl ?_
  intro p e s m args below meth c s₁ B hml hv
  obtain ⟨rfl, hsz, hP, hK, hD0, hE, hZ⟩ := hv
  have hx := B.exec
  have hb := B.bytes
  have hr := B.returns
  have hG : ∀ w ∈ zG, w.before _ s = true := fun w h => atoms_spec (ws := (zw yX9_put cX9_put 3 none)) B.pre w (List.mem_cons_of_mem _ h)
  have hown : s.vm.findClass RX9 = some m.cls := findClass_of_methodNamed B.named
  have hlocks := B.notSynchronized
  subst hsz
  have hD := hD0.self (sz := s.heap.size)
  generalize hAe : va_A [(h0, .inr (9, [.ref h1, .ref u0, .int 16, .int 0])), (h1, .inl (k1, 600, .inl s1))] s.heap.size = A at hD hZ ⊢
  have hA : ∀ q : Nat, s.heap.size ≤ q → A q := fun q h => by rw [← hAe]; exact Or.inr h
  have hS : va_S A s.heap s.heap [] := va_S.rf
  have hl := lv_entry ([.ref h0, .int s0]) (n := 3) (Nat.le_of_ble_eq_true rfl)
  rw [lg_entry_eq]
  generalize (lg_sl ([.ref h0, .int s0]) ++ List.replicate (3 - (lg_sl ([.ref h0, .int s0])).length) Slot.unset).toArray = ls at hl ⊢
  have hl : lv_has ls 3 [(0, .ref h0), (1, .int s0)] := hl
  refine lv_bipush (v := 24) hx hb dX9_put_0 (by decide) ?_
  refine lv_istore_n (lv' := [(2, .int 24), (0, .ref h0), (1, .int s0)]) hx hb dX9_put_2 rfl hl (by decide) rfl (fun ls hl => ?_)
  refine lv_iload_n hx hb dX9_put_3 rfl (lv_at hl 0 rfl) ?_
  refine lv_if_lt (tgt := 46) hx hb dX9_put_4 (by decide) (fun c_2706 => absurd c_2706 (by decide)) (fun c_2706 => ?_)
  refine lv_aload_n hx hb dX9_put_7 rfl (lv_at hl 1 rfl) ?_
  refine va_get (D := (dC, dI)) (ci := 9) (v := .int 16) (C := RX9) (T := TX9) (N := 4) hx hb hG zuX9 hown hK hP 0 rfl rfl 2 (by decide) (hG _ zw13) (fun _ h9 => h9) rfl dX9_put_8 ?_
  refine lv_sipush (v := 600) hx hb dX9_put_11 (by decide) ?_
  refine lv_icmp_ge (tgt := 46) hx hb dX9_put_14 (by decide) (fun c_2707 => absurd c_2707 (by decide)) (fun c_2707 => ?_)
  refine lv_aload_n hx hb dX9_put_17 rfl (lv_at hl 1 rfl) ?_
  refine va_get (D := (dC, dI)) (ci := 9) (v := .ref h1) (C := RX9) (T := TX9) (N := 4) hx hb hG zuX9 hown hK hP 0 rfl rfl 0 (by decide) (hG _ zw11) (fun _ h9 => h9) rfl dX9_put_18 ?_
  refine lv_aload_n hx hb dX9_put_21 rfl (lv_at hl 1 rfl) ?_
  refine va_get (D := (dC, dI)) (ci := 9) (v := .int 16) (C := RX9) (T := TX9) (N := 4) hx hb hG zuX9 hown hK hP 0 rfl rfl 2 (by decide) (hG _ zw13) (fun _ h9 => h9) rfl dX9_put_22 ?_
  refine lv_iload_n hx hb dX9_put_25 rfl (lv_at hl 2 rfl) ?_
  refine lv_iload_n hx hb dX9_put_26 rfl (lv_at hl 0 rfl) ?_
  refine lv_iushr hx hb dX9_put_27 rfl ?_
  refine lv_topi (fun z_2708 e_z_2708 => ?_)
  refine lv_i2b hx hb dX9_put_28 rfl ?_
  refine lv_topi (fun z_2709 e_z_2709 => ?_)
  refine va_bast hx hb hK hP hD hS 1 0 rfl rfl (zin_lit (by decide)) dX9_put_29 (fun H locs hP hD hS => ?_)
  obtain ⟨f_2710, e_f_2710⟩ : ∃ z : Nat → Int32, z = upd s1 16 (vp_nar .byte z_2709) := ⟨_, rfl⟩
  have hP : va_P (dC, dI) vwCl [(h0, .inr (9, [.ref h1, .ref u0, .int 16, .int 0])), (h1, .inl (k1, 600, .inl f_2710))] H := by rw [e_f_2710]; exact hP
  have hD : va_D A [(h0, .inr (9, [.ref h1, .ref u0, .int 16, .int 0])), (h1, .inl (k1, 600, .inl f_2710))] := by rw [e_f_2710]; exact hD
  refine lv_aload_n hx hb dX9_put_30 rfl (lv_at hl 1 rfl) ?_
  refine lv_dup hx hb dX9_put_31 rfl ?_
  refine va_get (D := (dC, dI)) (ci := 9) (v := .int 16) (C := RX9) (T := TX9) (N := 4) hx hb hG zuX9 hown hK hP 0 rfl rfl 2 (by decide) (hG _ zw13) (fun _ h9 => h9) rfl dX9_put_32 ?_
  refine lv_iconst (v := 1) hx hb dX9_put_35 (by decide) ?_
  refine lv_iadd hx hb dX9_put_36 ?_
  refine lv_topi (fun z_2711 e_z_2711 => ?_)
  obtain rfl : z_2711 = (17 : Int32) := e_z_2711.trans (by decide)
  refine va_put (D := (dC, dI)) (ci := 9) (v := .int 17) (ty := .int) (C := RX9) (T := TX9) (N := 4) hx hb hG zuX9 tyX9 tyX9_ok nmX9 hown hK hP hD hS 0 rfl rfl 2 (by decide) (hG _ zw13) (fun _ h9 => h9) rfl (by decide +kernel) rfl rfl (Nat.le_of_ble_eq_true rfl) dX9_put_37 (fun H locs hP hD hS => ?_)
  have hP : va_P (dC, dI) vwCl [(h0, .inr (9, [.ref h1, .ref u0, .int 17, .int 0])), (h1, .inl (k1, 600, .inl f_2710))] H := hP
  have hD : va_D A [(h0, .inr (9, [.ref h1, .ref u0, .int 17, .int 0])), (h1, .inl (k1, 600, .inl f_2710))] := hD
  refine lv_iinc (v := 16) (lv' := [(2, .int 16), (0, .ref h0), (1, .int s0)]) hx hb dX9_put_40 hl (k := 0) rfl (by decide) (by decide) rfl (fun ls hl => ?_)
  refine lv_goto (tgt := 3) hx hb dX9_put_43 (by decide) ?_
  refine lv_iload_n hx hb dX9_put_3 rfl (lv_at hl 0 rfl) ?_
  refine lv_if_lt (tgt := 46) hx hb dX9_put_4 (by decide) (fun c_2712 => absurd c_2712 (by decide)) (fun c_2712 => ?_)
  refine lv_aload_n hx hb dX9_put_7 rfl (lv_at hl 1 rfl) ?_
  refine va_get (D := (dC, dI)) (ci := 9) (v := .int 17) (C := RX9) (T := TX9) (N := 4) hx hb hG zuX9 hown hK hP 0 rfl rfl 2 (by decide) (hG _ zw13) (fun _ h9 => h9) rfl dX9_put_8 ?_
  refine lv_sipush (v := 600) hx hb dX9_put_11 (by decide) ?_
  refine lv_icmp_ge (tgt := 46) hx hb dX9_put_14 (by decide) (fun c_2713 => absurd c_2713 (by decide)) (fun c_2713 => ?_)
  refine lv_aload_n hx hb dX9_put_17 rfl (lv_at hl 1 rfl) ?_
  refine va_get (D := (dC, dI)) (ci := 9) (v := .ref h1) (C := RX9) (T := TX9) (N := 4) hx hb hG zuX9 hown hK hP 0 rfl rfl 0 (by decide) (hG _ zw11) (fun _ h9 => h9) rfl dX9_put_18 ?_
  refine lv_aload_n hx hb dX9_put_21 rfl (lv_at hl 1 rfl) ?_
  refine va_get (D := (dC, dI)) (ci := 9) (v := .int 17) (C := RX9) (T := TX9) (N := 4) hx hb hG zuX9 hown hK hP 0 rfl rfl 2 (by decide) (hG _ zw13) (fun _ h9 => h9) rfl dX9_put_22 ?_
  refine lv_iload_n hx hb dX9_put_25 rfl (lv_at hl 2 rfl) ?_
  refine lv_iload_n hx hb dX9_put_26 rfl (lv_at hl 0 rfl) ?_
  refine lv_iushr hx hb dX9_put_27 rfl ?_
  refine lv_topi (fun z_2714 e_z_2714 => ?_)
  refine lv_i2b hx hb dX9_put_28 rfl ?_
  refine lv_topi (fun z_2715 e_z_2715 => ?_)
  refine va_bast hx hb hK hP hD hS 1 0 rfl rfl (zin_lit (by decide)) dX9_put_29 (fun H locs hP hD hS => ?_)
  obtain ⟨f_2716, e_f_2716⟩ : ∃ z : Nat → Int32, z = upd f_2710 17 (vp_nar .byte z_2715) := ⟨_, rfl⟩
  have hP : va_P (dC, dI) vwCl [(h0, .inr (9, [.ref h1, .ref u0, .int 17, .int 0])), (h1, .inl (k1, 600, .inl f_2716))] H := by rw [e_f_2716]; exact hP
  have hD : va_D A [(h0, .inr (9, [.ref h1, .ref u0, .int 17, .int 0])), (h1, .inl (k1, 600, .inl f_2716))] := by rw [e_f_2716]; exact hD
  refine lv_aload_n hx hb dX9_put_30 rfl (lv_at hl 1 rfl) ?_
  refine lv_dup hx hb dX9_put_31 rfl ?_
  refine va_get (D := (dC, dI)) (ci := 9) (v := .int 17) (C := RX9) (T := TX9) (N := 4) hx hb hG zuX9 hown hK hP 0 rfl rfl 2 (by decide) (hG _ zw13) (fun _ h9 => h9) rfl dX9_put_32 ?_
  refine lv_iconst (v := 1) hx hb dX9_put_35 (by decide) ?_
  refine lv_iadd hx hb dX9_put_36 ?_
  refine lv_topi (fun z_2717 e_z_2717 => ?_)
  obtain rfl : z_2717 = (18 : Int32) := e_z_2717.trans (by decide)
  refine va_put (D := (dC, dI)) (ci := 9) (v := .int 18) (ty := .int) (C := RX9) (T := TX9) (N := 4) hx hb hG zuX9 tyX9 tyX9_ok nmX9 hown hK hP hD hS 0 rfl rfl 2 (by decide) (hG _ zw13) (fun _ h9 => h9) rfl (by decide +kernel) rfl rfl (Nat.le_of_ble_eq_true rfl) dX9_put_37 (fun H locs hP hD hS => ?_)
  have hP : va_P (dC, dI) vwCl [(h0, .inr (9, [.ref h1, .ref u0, .int 18, .int 0])), (h1, .inl (k1, 600, .inl f_2716))] H := hP
  have hD : va_D A [(h0, .inr (9, [.ref h1, .ref u0, .int 18, .int 0])), (h1, .inl (k1, 600, .inl f_2716))] := hD
  refine lv_iinc (v := 8) (lv' := [(2, .int 8), (0, .ref h0), (1, .int s0)]) hx hb dX9_put_40 hl (k := 0) rfl (by decide) (by decide) rfl (fun ls hl => ?_)
  refine lv_goto (tgt := 3) hx hb dX9_put_43 (by decide) ?_
  refine lv_iload_n hx hb dX9_put_3 rfl (lv_at hl 0 rfl) ?_
  refine lv_if_lt (tgt := 46) hx hb dX9_put_4 (by decide) (fun c_2718 => absurd c_2718 (by decide)) (fun c_2718 => ?_)
  refine lv_aload_n hx hb dX9_put_7 rfl (lv_at hl 1 rfl) ?_
  refine va_get (D := (dC, dI)) (ci := 9) (v := .int 18) (C := RX9) (T := TX9) (N := 4) hx hb hG zuX9 hown hK hP 0 rfl rfl 2 (by decide) (hG _ zw13) (fun _ h9 => h9) rfl dX9_put_8 ?_
  refine lv_sipush (v := 600) hx hb dX9_put_11 (by decide) ?_
  refine lv_icmp_ge (tgt := 46) hx hb dX9_put_14 (by decide) (fun c_2719 => absurd c_2719 (by decide)) (fun c_2719 => ?_)
  refine lv_aload_n hx hb dX9_put_17 rfl (lv_at hl 1 rfl) ?_
  refine va_get (D := (dC, dI)) (ci := 9) (v := .ref h1) (C := RX9) (T := TX9) (N := 4) hx hb hG zuX9 hown hK hP 0 rfl rfl 0 (by decide) (hG _ zw11) (fun _ h9 => h9) rfl dX9_put_18 ?_
  refine lv_aload_n hx hb dX9_put_21 rfl (lv_at hl 1 rfl) ?_
  refine va_get (D := (dC, dI)) (ci := 9) (v := .int 18) (C := RX9) (T := TX9) (N := 4) hx hb hG zuX9 hown hK hP 0 rfl rfl 2 (by decide) (hG _ zw13) (fun _ h9 => h9) rfl dX9_put_22 ?_
  refine lv_iload_n hx hb dX9_put_25 rfl (lv_at hl 2 rfl) ?_
  refine lv_iload_n hx hb dX9_put_26 rfl (lv_at hl 0 rfl) ?_
  refine lv_iushr hx hb dX9_put_27 rfl ?_
  refine lv_topi (fun z_2720 e_z_2720 => ?_)
  refine lv_i2b hx hb dX9_put_28 rfl ?_
  refine lv_topi (fun z_2721 e_z_2721 => ?_)
  refine va_bast hx hb hK hP hD hS 1 0 rfl rfl (zin_lit (by decide)) dX9_put_29 (fun H locs hP hD hS => ?_)
  obtain ⟨f_2722, e_f_2722⟩ : ∃ z : Nat → Int32, z = upd f_2716 18 (vp_nar .byte z_2721) := ⟨_, rfl⟩
  have hP : va_P (dC, dI) vwCl [(h0, .inr (9, [.ref h1, .ref u0, .int 18, .int 0])), (h1, .inl (k1, 600, .inl f_2722))] H := by rw [e_f_2722]; exact hP
  have hD : va_D A [(h0, .inr (9, [.ref h1, .ref u0, .int 18, .int 0])), (h1, .inl (k1, 600, .inl f_2722))] := by rw [e_f_2722]; exact hD
  refine lv_aload_n hx hb dX9_put_30 rfl (lv_at hl 1 rfl) ?_
  refine lv_dup hx hb dX9_put_31 rfl ?_
  refine va_get (D := (dC, dI)) (ci := 9) (v := .int 18) (C := RX9) (T := TX9) (N := 4) hx hb hG zuX9 hown hK hP 0 rfl rfl 2 (by decide) (hG _ zw13) (fun _ h9 => h9) rfl dX9_put_32 ?_
  refine lv_iconst (v := 1) hx hb dX9_put_35 (by decide) ?_
  refine lv_iadd hx hb dX9_put_36 ?_
  refine lv_topi (fun z_2723 e_z_2723 => ?_)
  obtain rfl : z_2723 = (19 : Int32) := e_z_2723.trans (by decide)
  refine va_put (D := (dC, dI)) (ci := 9) (v := .int 19) (ty := .int) (C := RX9) (T := TX9) (N := 4) hx hb hG zuX9 tyX9 tyX9_ok nmX9 hown hK hP hD hS 0 rfl rfl 2 (by decide) (hG _ zw13) (fun _ h9 => h9) rfl (by decide +kernel) rfl rfl (Nat.le_of_ble_eq_true rfl) dX9_put_37 (fun H locs hP hD hS => ?_)
  have hP : va_P (dC, dI) vwCl [(h0, .inr (9, [.ref h1, .ref u0, .int 19, .int 0])), (h1, .inl (k1, 600, .inl f_2722))] H := hP
  have hD : va_D A [(h0, .inr (9, [.ref h1, .ref u0, .int 19, .int 0])), (h1, .inl (k1, 600, .inl f_2722))] := hD
  refine lv_iinc (v := 0) (lv' := [(2, .int 0), (0, .ref h0), (1, .int s0)]) hx hb dX9_put_40 hl (k := 0) rfl (by decide) (by decide) rfl (fun ls hl => ?_)
  refine lv_goto (tgt := 3) hx hb dX9_put_43 (by decide) ?_
  refine lv_iload_n hx hb dX9_put_3 rfl (lv_at hl 0 rfl) ?_
  refine lv_if_lt (tgt := 46) hx hb dX9_put_4 (by decide) (fun c_2724 => absurd c_2724 (by decide)) (fun c_2724 => ?_)
  refine lv_aload_n hx hb dX9_put_7 rfl (lv_at hl 1 rfl) ?_
  refine va_get (D := (dC, dI)) (ci := 9) (v := .int 19) (C := RX9) (T := TX9) (N := 4) hx hb hG zuX9 hown hK hP 0 rfl rfl 2 (by decide) (hG _ zw13) (fun _ h9 => h9) rfl dX9_put_8 ?_
  refine lv_sipush (v := 600) hx hb dX9_put_11 (by decide) ?_
  refine lv_icmp_ge (tgt := 46) hx hb dX9_put_14 (by decide) (fun c_2725 => absurd c_2725 (by decide)) (fun c_2725 => ?_)
  refine lv_aload_n hx hb dX9_put_17 rfl (lv_at hl 1 rfl) ?_
  refine va_get (D := (dC, dI)) (ci := 9) (v := .ref h1) (C := RX9) (T := TX9) (N := 4) hx hb hG zuX9 hown hK hP 0 rfl rfl 0 (by decide) (hG _ zw11) (fun _ h9 => h9) rfl dX9_put_18 ?_
  refine lv_aload_n hx hb dX9_put_21 rfl (lv_at hl 1 rfl) ?_
  refine va_get (D := (dC, dI)) (ci := 9) (v := .int 19) (C := RX9) (T := TX9) (N := 4) hx hb hG zuX9 hown hK hP 0 rfl rfl 2 (by decide) (hG _ zw13) (fun _ h9 => h9) rfl dX9_put_22 ?_
  refine lv_iload_n hx hb dX9_put_25 rfl (lv_at hl 2 rfl) ?_
  refine lv_iload_n hx hb dX9_put_26 rfl (lv_at hl 0 rfl) ?_
  refine lv_iushr hx hb dX9_put_27 rfl ?_
  refine lv_topi (fun z_2726 e_z_2726 => ?_)
  refine lv_i2b hx hb dX9_put_28 rfl ?_
  refine lv_topi (fun z_2727 e_z_2727 => ?_)
  refine va_bast hx hb hK hP hD hS 1 0 rfl rfl (zin_lit (by decide)) dX9_put_29 (fun H locs hP hD hS => ?_)
  obtain ⟨f_2728, e_f_2728⟩ : ∃ z : Nat → Int32, z = upd f_2722 19 (vp_nar .byte z_2727) := ⟨_, rfl⟩
  have hP : va_P (dC, dI) vwCl [(h0, .inr (9, [.ref h1, .ref u0, .int 19, .int 0])), (h1, .inl (k1, 600, .inl f_2728))] H := by rw [e_f_2728]; exact hP
  have hD : va_D A [(h0, .inr (9, [.ref h1, .ref u0, .int 19, .int 0])), (h1, .inl (k1, 600, .inl f_2728))] := by rw [e_f_2728]; exact hD
  refine lv_aload_n hx hb dX9_put_30 rfl (lv_at hl 1 rfl) ?_
  refine lv_dup hx hb dX9_put_31 rfl ?_
  refine va_get (D := (dC, dI)) (ci := 9) (v := .int 19) (C := RX9) (T := TX9) (N := 4) hx hb hG zuX9 hown hK hP 0 rfl rfl 2 (by decide) (hG _ zw13) (fun _ h9 => h9) rfl dX9_put_32 ?_
  refine lv_iconst (v := 1) hx hb dX9_put_35 (by decide) ?_
  refine lv_iadd hx hb dX9_put_36 ?_
  refine lv_topi (fun z_2729 e_z_2729 => ?_)
  obtain rfl : z_2729 = (20 : Int32) := e_z_2729.trans (by decide)
  refine va_put (D := (dC, dI)) (ci := 9) (v := .int 20) (ty := .int) (C := RX9) (T := TX9) (N := 4) hx hb hG zuX9 tyX9 tyX9_ok nmX9 hown hK hP hD hS 0 rfl rfl 2 (by decide) (hG _ zw13) (fun _ h9 => h9) rfl (by decide +kernel) rfl rfl (Nat.le_of_ble_eq_true rfl) dX9_put_37 (fun H locs hP hD hS => ?_)
  have hP : va_P (dC, dI) vwCl [(h0, .inr (9, [.ref h1, .ref u0, .int 20, .int 0])), (h1, .inl (k1, 600, .inl f_2728))] H := hP
  have hD : va_D A [(h0, .inr (9, [.ref h1, .ref u0, .int 20, .int 0])), (h1, .inl (k1, 600, .inl f_2728))] := hD
  refine lv_iinc (v := (-8)) (lv' := [(2, .int (-8)), (0, .ref h0), (1, .int s0)]) hx hb dX9_put_40 hl (k := 0) rfl (by decide) (by decide) rfl (fun ls hl => ?_)
  refine lv_goto (tgt := 3) hx hb dX9_put_43 (by decide) ?_
  refine lv_iload_n hx hb dX9_put_3 rfl (lv_at hl 0 rfl) ?_
  refine lv_if_lt (tgt := 46) hx hb dX9_put_4 (by decide) (fun c_2730 => ?_) (fun c_2730 => absurd c_2730 (by decide))
  have hP9 := hP.sub (ws' := [(h0, .inr (9, [.ref h1, .ref u0, .int 20, .int 0])), (h1, .inl (k1, 600, .inl f_2728))]) [0, 1] rfl
  have hD9 := hD.sub (ws' := [(h0, .inr (9, [.ref h1, .ref u0, .int 20, .int 0])), (h1, .inl (k1, 600, .inl f_2728))]) [0, 1] (by decide) rfl
  have hK9 := hK.sub (tys' := [(k1, .byte)]) [0] rfl
  refine W.widen (k := 0) (n := 0) (by decide) (by decide) ?_
  exact W.vret hx hb hr (fun t ht hW => ⟨⟨(), rfl, trivial, f_2728, by rw [ht]; exact hP9, va_K.moved hW.alike hK9, hD9⟩, hS.F ht⟩) hS.2.2 dX9_put_46
set_option maxHeartbeats 4000000 in
set_option maxRecDepth 100000 in
theorem kX9_size_0 (l : Launch) (dC : Nat → ClassId) (dI : Nat → Nat → Nat) (h0 u0 u1 : Nat) (sz : Nat) : Met l yX9_size (zw yX9_size cX9_size 1 (some .int)) { frames := 0, cells := 0, slots := 0, locals := 0 } (zPc dC dI [.ref h0] sz [(h0, .inr (9, [.ref u0, .ref u1, .int 20, .int 0]))] []) (va_Qi (fun (r : Int32) (_ : Unit) => r = 20) (fun (_ : Unit) (t : State) => va_P (dC, dI) vwCl [(h0, .inr (9, [.ref u0, .ref u1, .int 20, .int 0]))] t.heap ∧ va_K (dC, dI) vwCl [] t ∧ va_D (va_A [(h0, .inr (9, [.ref u0, .ref u1, .int 20, .int 0]))] sz) [(h0, .inr (9, [.ref u0, .ref u1, .int 20, .int 0]))]) (va_A [(h0, .inr (9, [.ref u0, .ref u1, .int 20, .int 0]))] sz)) 0 0 (va_A [(h0, .inr (9, [.ref u0, .ref u1, .int 20, .int 0]))] sz) := by
  refine Met.ofW (cc := cX9_size) (maxL := 1) (ret := (some .int)) (by decide) rfl ?_
  intro p e s m args below meth c s₁ B hml hv
  obtain ⟨rfl, hsz, hP, hK, hD0, hE, hZ⟩ := hv
  have hx := B.exec
  have hb := B.bytes
  have hr := B.returns
  have hG : ∀ w ∈ zG, w.before _ s = true := fun w h => atoms_spec (ws := (zw yX9_size cX9_size 1 (some .int))) B.pre w (List.mem_cons_of_mem _ h)
  have hown : s.vm.findClass RX9 = some m.cls := findClass_of_methodNamed B.named
  have hlocks := B.notSynchronized
  subst hsz
  have hD := hD0.self (sz := s.heap.size)
  generalize hAe : va_A [(h0, .inr (9, [.ref u0, .ref u1, .int 20, .int 0]))] s.heap.size = A at hD hZ ⊢
  have hA : ∀ q : Nat, s.heap.size ≤ q → A q := fun q h => by rw [← hAe]; exact Or.inr h
  have hS : va_S A s.heap s.heap [] := va_S.rf
  have hl := lv_entry ([.ref h0]) (n := 1) (Nat.le_of_ble_eq_true rfl)
  rw [lg_entry_eq]
  generalize (lg_sl ([.ref h0]) ++ List.replicate (1 - (lg_sl ([.ref h0])).length) Slot.unset).toArray = ls at hl ⊢
  have hl : lv_has ls 1 [(0, .ref h0)] := hl
  refine lv_aload_n hx hb dX9_size_0 rfl (lv_at hl 0 rfl) ?_
  refine va_get (D := (dC, dI)) (ci := 9) (v := .int 20) (C := RX9) (T := TX9) (N := 4) hx hb hG zuX9 hown hK hP 0 rfl rfl 2 (by decide) (hG _ zw13) (fun _ h9 => h9) rfl dX9_size_1 ?_
  have hP9 := hP.sub (ws' := [(h0, .inr (9, [.ref u0, .ref u1, .int 20, .int 0]))]) [0] rfl
  have hD9 := hD.sub (ws' := [(h0, .inr (9, [.ref u0, .ref u1, .int 20, .int 0]))]) [0] (by decide) rfl
  have hK9 := hK.sub (tys' := []) [] rfl
  refine W.widen (k := 0) (n := 0) (by decide) (by decide) ?_
  exact W.iret (v := 20) hx hb hr (fun t ht hW => ⟨⟨20, (), rfl, rfl, by rw [ht]; exact hP9, va_K.moved hW.alike hK9, hD9⟩, hS.F ht⟩) hS.2.2 dX9_size_4
set_option maxHeartbeats 4000000 in
set_option maxRecDepth 100000 in
theorem kX11_feed_0 (l : Launch) (dC : Nat → ClassId) (dI : Nat → Nat → Nat) (h0 h1 h2 u0 u1 u2 u3 u4 u5 u6 u7 u8 u9 : Nat) (k2 : ClassId) (sz : Nat) (s0 : Int32) (s1 : Int32) (s2 : Int32) (s3 : Int32) (s4 : Int32) : Met l yX11_feed (zw yX11_feed cX11_feed 6 (some .int)) { frames := 1, cells := 0, slots := 0, locals := 22 } (zPc dC dI [.ref h0, .int s0, .int s1, .int s2, .int s3, .int s4] sz [(h0, .inr (11, [.ref h1, .ref u0, .ref u1, .ref u2, .ref u3, .ref u4, .ref u5, .ref u6, .ref u7, .ref u8, .null, .long (-1)])), (h1, .inr (9, [.ref h2, .ref u9, .int 0, .int 0])), (h2, .inl (k2, 600, .inl (fun _ => 0)))] [(k2, .byte)]) (va_Qi (fun (r : Int32) (_ : Unit) => r = 20) (fun (_ : Unit) (t : State) => ∃ (f0 : Nat → Int32), va_P (dC, dI) vwCl [(h0, .inr (11, [.ref h1, .ref u0, .ref u1, .ref u2, .ref u3, .ref u4, .ref u5, .ref u6, .ref u7, .ref u8, .null, .long (-1)])), (h1, .inr (9, [.ref h2, .ref u9, .int 20, .int 0])), (h2, .inl (k2, 600, .inl f0))] t.heap ∧ va_K (dC, dI) vwCl [(k2, .byte)] t ∧ va_D (va_A [(h0, .inr (11, [.ref h1, .ref u0, .ref u1, .ref u2, .ref u3, .ref u4, .ref u5, .ref u6, .ref u7, .ref u8, .null, .long (-1)])), (h1, .inr (9, [.ref h2, .ref u9, .int 0, .int 0])), (h2, .inl (k2, 600, .inl (fun _ => 0)))] sz) [(h0, .inr (11, [.ref h1, .ref u0, .ref u1, .ref u2, .ref u3, .ref u4, .ref u5, .ref u6, .ref u7, .ref u8, .null, .long (-1)])), (h1, .inr (9, [.ref h2, .ref u9, .int 20, .int 0])), (h2, .inl (k2, 600, .inl f0))]) (va_A [(h0, .inr (11, [.ref h1, .ref u0, .ref u1, .ref u2, .ref u3, .ref u4, .ref u5, .ref u6, .ref u7, .ref u8, .null, .long (-1)])), (h1, .inr (9, [.ref h2, .ref u9, .int 0, .int 0])), (h2, .inl (k2, 600, .inl (fun _ => 0)))] sz)) 0 0 (va_A [(h0, .inr (11, [.ref h1, .ref u0, .ref u1, .ref u2, .ref u3, .ref u4, .ref u5, .ref u6, .ref u7, .ref u8, .null, .long (-1)])), (h1, .inr (9, [.ref h2, .ref u9, .int 0, .int 0])), (h2, .inl (k2, 600, .inl (fun _ => 0)))] sz) := by
  refine Met.ofW (cc := cX11_feed) (maxL := 6) (ret := (some .int)) (by decide) rfl ?_
  intro p e s m args below meth c s₁ B hml hv
  obtain ⟨rfl, hsz, hP, hK, hD0, hE, hZ⟩ := hv
  have hx := B.exec
  have hb := B.bytes
  have hr := B.returns
  have hG : ∀ w ∈ zG, w.before _ s = true := fun w h => atoms_spec (ws := (zw yX11_feed cX11_feed 6 (some .int))) B.pre w (List.mem_cons_of_mem _ h)
  have hown : s.vm.findClass RX11 = some m.cls := findClass_of_methodNamed B.named
  have hlocks := B.notSynchronized
  subst hsz
  have hD := hD0.self (sz := s.heap.size)
  generalize hAe : va_A [(h0, .inr (11, [.ref h1, .ref u0, .ref u1, .ref u2, .ref u3, .ref u4, .ref u5, .ref u6, .ref u7, .ref u8, .null, .long (-1)])), (h1, .inr (9, [.ref h2, .ref u9, .int 0, .int 0])), (h2, .inl (k2, 600, .inl (fun _ => 0)))] s.heap.size = A at hD hZ ⊢
  have hA : ∀ q : Nat, s.heap.size ≤ q → A q := fun q h => by rw [← hAe]; exact Or.inr h
  have hS : va_S A s.heap s.heap [] := va_S.rf
  have hl := lv_entry ([.ref h0, .int s0, .int s1, .int s2, .int s3, .int s4]) (n := 6) (Nat.le_of_ble_eq_true rfl)
  rw [lg_entry_eq]
  generalize (lg_sl ([.ref h0, .int s0, .int s1, .int s2, .int s3, .int s4]) ++ List.replicate (6 - (lg_sl ([.ref h0, .int s0, .int s1, .int s2, .int s3, .int s4])).length) Slot.unset).toArray = ls at hl ⊢
  have hl : lv_has ls 6 [(0, .ref h0), (1, .int s0), (2, .int s1), (3, .int s2), (4, .int s3), (5, .int s4)] := hl
  refine lv_aload_n hx hb dX11_feed_0 rfl (lv_at hl 0 rfl) ?_
  refine va_get (D := (dC, dI)) (ci := 11) (v := .ref h1) (C := RX11) (T := TX11) (N := 12) hx hb hG zuX11 hown hK hP 0 rfl rfl 0 (by decide) (hG _ zw17) (fun _ h9 => h9) rfl dX11_feed_1 ?_
  refine lv_bipush (v := 20) hx hb dX11_feed_4 (by decide) ?_
  have hPc := hP.sub (ws' := [(h1, .inr (9, [.ref h2, .ref u9, .int 0, .int 0]))]) [1] rfl
  have hDc := hD.sub (ws' := [(h1, .inr (9, [.ref h2, .ref u9, .int 0, .int 0]))]) [1] (by decide) rfl
  have hKc := hK.sub (tys' := []) [] rfl
  have hFc := va_free (wc := [(h1, .inr (9, [.ref h2, .ref u9, .int 0, .int 0]))]) hD hS hA [1] rfl
  refine va_calli (va_runV (As := [.int 20]) (rest := []) ⟨hx, hb, hml, hown, hG⟩ (kX9_hasRoom_0 l dC dI h1 h2 u9 s.heap.size) (cwV 1 hG (zgV zw286 zw287 zw288 zw8 zw289) rfl rfl rfl (by decide +kernel) ⟨Nat.le_of_ble_eq_true rfl, Nat.le_of_ble_eq_true rfl⟩) ⟨zPc_blind, va_recv hKc hPc (ci := 9) (q0 := 0) rfl rfl, zPc_pre hPc hKc hDc hE hS hFc hZ⟩ rfl rfl hl.1 rfl (lv_room (Nat.le_of_ble_eq_true rfl)) dX11_feed_6 ⟨Nat.le_of_ble_eq_true rfl, Nat.le_of_ble_eq_true rfl⟩) hS (fun q _ h => hFc q h) hFc (fun r_2885 u t H1 locs ht hvm hw hB hz1 hk1 hS => ?_)
  have hw : r_2885 = 1 := hw
  subst hw
  obtain ⟨hP1, hK1, hD1⟩ := hB
  rw [ht] at hP1
  obtain ⟨hP, hD⟩ := va_join (wr := [(h0, .inr (11, [.ref h1, .ref u0, .ref u1, .ref u2, .ref u3, .ref u4, .ref u5, .ref u6, .ref u7, .ref u8, .null, .long (-1)])), (h2, .inl (k2, 600, .inl (fun _ => 0)))]) (w1 := [(h1, .inr (9, [.ref h2, .ref u9, .int 0, .int 0]))]) hP hD [1] [0, 2] rfl rfl (by decide) (by decide) hk1 hFc hP1 hD1
  generalize H1 = H at hP hS ⊢
  have hP : va_P (dC, dI) vwCl [(h0, .inr (11, [.ref h1, .ref u0, .ref u1, .ref u2, .ref u3, .ref u4, .ref u5, .ref u6, .ref u7, .ref u8, .null, .long (-1)])), (h2, .inl (k2, 600, .inl (fun _ => 0))), (h1, .inr (9, [.ref h2, .ref u9, .int 0, .int 0]))] H := hP
  have hD : va_D A [(h0, .inr (11, [.ref h1, .ref u0, .ref u1, .ref u2, .ref u3, .ref u4, .ref u5, .ref u6, .ref u7, .ref u8, .null, .long (-1)])), (h2, .inl (k2, 600, .inl (fun _ => 0))), (h1, .inr (9, [.ref h2, .ref u9, .int 0, .int 0]))] := hD
  refine lv_if_ne (tgt := 15) hx hb dX11_feed_9 (by decide) (fun c_2887 => ?_) (fun c_2887 => absurd c_2887 (by decide))
  refine lv_aload_n hx hb dX11_feed_15 rfl (lv_at hl 0 rfl) ?_
  refine va_get (D := (dC, dI)) (ci := 11) (v := .ref h1) (C := RX11) (T := TX11) (N := 12) hx hb hG zuX11 hown hK hP 0 rfl rfl 0 (by decide) (hG _ zw17) (fun _ h9 => h9) rfl dX11_feed_16 ?_
  refine lv_iload_n hx hb dX11_feed_19 rfl (lv_at hl 1 rfl) ?_
  have hPc := hP.sub (ws' := [(h1, .inr (9, [.ref h2, .ref u9, .int 0, .int 0])), (h2, .inl (k2, 600, .inl (fun _ => 0)))]) [2, 1] rfl
  have hDc := hD.sub (ws' := [(h1, .inr (9, [.ref h2, .ref u9, .int 0, .int 0])), (h2, .inl (k2, 600, .inl (fun _ => 0)))]) [2, 1] (by decide) rfl
  have hKc := hK.sub (tys' := [(k2, .byte)]) [0] rfl
  have hFc := va_free (wc := [(h1, .inr (9, [.ref h2, .ref u9, .int 0, .int 0])), (h2, .inl (k2, 600, .inl (fun _ => 0)))]) hD hS hA [2, 1] rfl
  refine va_callv (va_runV (As := [.int s0]) (rest := []) ⟨hx, hb, hml, hown, hG⟩ (kX9_put_0 l dC dI h1 h2 u9 k2 H.size s0) (cwV 1 hG (zgV zw290 zw291 zw292 zw8 zw293) rfl rfl rfl (by decide +kernel) ⟨Nat.le_of_ble_eq_true rfl, Nat.le_of_ble_eq_true rfl⟩) ⟨zPc_blind, va_recv hKc hPc (ci := 9) (q0 := 0) rfl rfl, zPc_pre hPc hKc hDc hE hS hFc hZ⟩ rfl rfl hl.1 rfl (lv_room (Nat.le_of_ble_eq_true rfl)) dX11_feed_20 ⟨Nat.le_of_ble_eq_true rfl, Nat.le_of_ble_eq_true rfl⟩) hS (fun q _ h => hFc q h) hFc (fun u t H1 locs ht hvm hw hB hz1 hk1 hS => ?_)
  obtain ⟨f_2915, hP1, hK1, hD1⟩ := hB
  rw [ht] at hP1
  obtain ⟨hP, hD⟩ := va_join (wr := [(h0, .inr (11, [.ref h1, .ref u0, .ref u1, .ref u2, .ref u3, .ref u4, .ref u5, .ref u6, .ref u7, .ref u8, .null, .long (-1)]))]) (w1 := [(h1, .inr (9, [.ref h2, .ref u9, .int 4, .int 0])), (h2, .inl (k2, 600, .inl f_2915))]) hP hD [2, 1] [0] rfl rfl (by decide) (by decide) hk1 hFc hP1 hD1
  generalize H1 = H at hP hS ⊢
  have hP : va_P (dC, dI) vwCl [(h0, .inr (11, [.ref h1, .ref u0, .ref u1, .ref u2, .ref u3, .ref u4, .ref u5, .ref u6, .ref u7, .ref u8, .null, .long (-1)])), (h1, .inr (9, [.ref h2, .ref u9, .int 4, .int 0])), (h2, .inl (k2, 600, .inl f_2915))] H := hP
  have hD : va_D A [(h0, .inr (11, [.ref h1, .ref u0, .ref u1, .ref u2, .ref u3, .ref u4, .ref u5, .ref u6, .ref u7, .ref u8, .null, .long (-1)])), (h1, .inr (9, [.ref h2, .ref u9, .int 4, .int 0])), (h2, .inl (k2, 600, .inl f_2915))] := hD
  refine lv_aload_n hx hb dX11_feed_23 rfl (lv_at hl 0 rfl) ?_
  refine va_get (D := (dC, dI)) (ci := 11) (v := .ref h1) (C := RX11) (T := TX11) (N := 12) hx hb hG zuX11 hown hK hP 0 rfl rfl 0 (by decide) (hG _ zw17) (fun _ h9 => h9) rfl dX11_feed_24 ?_
  refine lv_iload_n hx hb dX11_feed_27 rfl (lv_at hl 2 rfl) ?_
  have hPc := hP.sub (ws' := [(h1, .inr (9, [.ref h2, .ref u9, .int 4, .int 0])), (h2, .inl (k2, 600, .inl f_2915))]) [1, 2] rfl
  have hDc := hD.sub (ws' := [(h1, .inr (9, [.ref h2, .ref u9, .int 4, .int 0])), (h2, .inl (k2, 600, .inl f_2915))]) [1, 2] (by decide) rfl
  have hKc := hK.sub (tys' := [(k2, .byte)]) [0] rfl
  have hFc := va_free (wc := [(h1, .inr (9, [.ref h2, .ref u9, .int 4, .int 0])), (h2, .inl (k2, 600, .inl f_2915))]) hD hS hA [1, 2] rfl
  refine va_callv (va_runV (As := [.int s1]) (rest := []) ⟨hx, hb, hml, hown, hG⟩ (kX9_put_1 l dC dI h1 h2 u9 k2 H.size s1 f_2915) (cwV 1 hG (zgV zw290 zw291 zw292 zw8 zw293) rfl rfl rfl (by decide +kernel) ⟨Nat.le_of_ble_eq_true rfl, Nat.le_of_ble_eq_true rfl⟩) ⟨zPc_blind, va_recv hKc hPc (ci := 9) (q0 := 0) rfl rfl, zPc_pre hPc hKc hDc hE hS hFc hZ⟩ rfl rfl hl.1 rfl (lv_room (Nat.le_of_ble_eq_true rfl)) dX11_feed_28 ⟨Nat.le_of_ble_eq_true rfl, Nat.le_of_ble_eq_true rfl⟩) hS (fun q _ h => hFc q h) hFc (fun u t H1 locs ht hvm hw hB hz1 hk1 hS => ?_)
  obtain ⟨f_2943, hP1, hK1, hD1⟩ := hB
  rw [ht] at hP1
  obtain ⟨hP, hD⟩ := va_join (wr := [(h0, .inr (11, [.ref h1, .ref u0, .ref u1, .ref u2, .ref u3, .ref u4, .ref u5, .ref u6, .ref u7, .ref u8, .null, .long (-1)]))]) (w1 := [(h1, .inr (9, [.ref h2, .ref u9, .int 8, .int 0])), (h2, .inl (k2, 600, .inl f_2943))]) hP hD [1, 2] [0] rfl rfl (by decide) (by decide) hk1 hFc hP1 hD1
  generalize H1 = H at hP hS ⊢
  have hP : va_P (dC, dI) vwCl [(h0, .inr (11, [.ref h1, .ref u0, .ref u1, .ref u2, .ref u3, .ref u4, .ref u5, .ref u6, .ref u7, .ref u8, .null, .long (-1)])), (h1, .inr (9, [.ref h2, .ref u9, .int 8, .int 0])), (h2, .inl (k2, 600, .inl f_2943))] H := hP
  have hD : va_D A [(h0, .inr (11, [.ref h1, .ref u0, .ref u1, .ref u2, .ref u3, .ref u4, .ref u5, .ref u6, .ref u7, .ref u8, .null, .long (-1)])), (h1, .inr (9, [.ref h2, .ref u9, .int 8, .int 0])), (h2, .inl (k2, 600, .inl f_2943))] := hD
  refine lv_aload_n hx hb dX11_feed_31 rfl (lv_at hl 0 rfl) ?_
  refine va_get (D := (dC, dI)) (ci := 11) (v := .ref h1) (C := RX11) (T := TX11) (N := 12) hx hb hG zuX11 hown hK hP 0 rfl rfl 0 (by decide) (hG _ zw17) (fun _ h9 => h9) rfl dX11_feed_32 ?_
  refine lv_iload_n hx hb dX11_feed_35 rfl (lv_at hl 3 rfl) ?_
  have hPc := hP.sub (ws' := [(h1, .inr (9, [.ref h2, .ref u9, .int 8, .int 0])), (h2, .inl (k2, 600, .inl f_2943))]) [1, 2] rfl
  have hDc := hD.sub (ws' := [(h1, .inr (9, [.ref h2, .ref u9, .int 8, .int 0])), (h2, .inl (k2, 600, .inl f_2943))]) [1, 2] (by decide) rfl
  have hKc := hK.sub (tys' := [(k2, .byte)]) [0] rfl
  have hFc := va_free (wc := [(h1, .inr (9, [.ref h2, .ref u9, .int 8, .int 0])), (h2, .inl (k2, 600, .inl f_2943))]) hD hS hA [1, 2] rfl
  refine va_callv (va_runV (As := [.int s2]) (rest := []) ⟨hx, hb, hml, hown, hG⟩ (kX9_put_2 l dC dI h1 h2 u9 k2 H.size s2 f_2943) (cwV 1 hG (zgV zw290 zw291 zw292 zw8 zw293) rfl rfl rfl (by decide +kernel) ⟨Nat.le_of_ble_eq_true rfl, Nat.le_of_ble_eq_true rfl⟩) ⟨zPc_blind, va_recv hKc hPc (ci := 9) (q0 := 0) rfl rfl, zPc_pre hPc hKc hDc hE hS hFc hZ⟩ rfl rfl hl.1 rfl (lv_room (Nat.le_of_ble_eq_true rfl)) dX11_feed_36 ⟨Nat.le_of_ble_eq_true rfl, Nat.le_of_ble_eq_true rfl⟩) hS (fun q _ h => hFc q h) hFc (fun u t H1 locs ht hvm hw hB hz1 hk1 hS => ?_)
  obtain ⟨f_2971, hP1, hK1, hD1⟩ := hB
  rw [ht] at hP1
  obtain ⟨hP, hD⟩ := va_join (wr := [(h0, .inr (11, [.ref h1, .ref u0, .ref u1, .ref u2, .ref u3, .ref u4, .ref u5, .ref u6, .ref u7, .ref u8, .null, .long (-1)]))]) (w1 := [(h1, .inr (9, [.ref h2, .ref u9, .int 12, .int 0])), (h2, .inl (k2, 600, .inl f_2971))]) hP hD [1, 2] [0] rfl rfl (by decide) (by decide) hk1 hFc hP1 hD1
  generalize H1 = H at hP hS ⊢
  have hP : va_P (dC, dI) vwCl [(h0, .inr (11, [.ref h1, .ref u0, .ref u1, .ref u2, .ref u3, .ref u4, .ref u5, .ref u6, .ref u7, .ref u8, .null, .long (-1)])), (h1, .inr (9, [.ref h2, .ref u9, .int 12, .int 0])), (h2, .inl (k2, 600, .inl f_2971))] H := hP
  have hD : va_D A [(h0, .inr (11, [.ref h1, .ref u0, .ref u1, .ref u2, .ref u3, .ref u4, .ref u5, .ref u6, .ref u7, .ref u8, .null, .long (-1)])), (h1, .inr (9, [.ref h2, .ref u9, .int 12, .int 0])), (h2, .inl (k2, 600, .inl f_2971))] := hD
  refine lv_aload_n hx hb dX11_feed_39 rfl (lv_at hl 0 rfl) ?_
  refine va_get (D := (dC, dI)) (ci := 11) (v := .ref h1) (C := RX11) (T := TX11) (N := 12) hx hb hG zuX11 hown hK hP 0 rfl rfl 0 (by decide) (hG _ zw17) (fun _ h9 => h9) rfl dX11_feed_40 ?_
  refine lv_iload hx hb dX11_feed_43 (lv_at hl 4 rfl) ?_
  have hPc := hP.sub (ws' := [(h1, .inr (9, [.ref h2, .ref u9, .int 12, .int 0])), (h2, .inl (k2, 600, .inl f_2971))]) [1, 2] rfl
  have hDc := hD.sub (ws' := [(h1, .inr (9, [.ref h2, .ref u9, .int 12, .int 0])), (h2, .inl (k2, 600, .inl f_2971))]) [1, 2] (by decide) rfl
  have hKc := hK.sub (tys' := [(k2, .byte)]) [0] rfl
  have hFc := va_free (wc := [(h1, .inr (9, [.ref h2, .ref u9, .int 12, .int 0])), (h2, .inl (k2, 600, .inl f_2971))]) hD hS hA [1, 2] rfl
  refine va_callv (va_runV (As := [.int s3]) (rest := []) ⟨hx, hb, hml, hown, hG⟩ (kX9_put_3 l dC dI h1 h2 u9 k2 H.size s3 f_2971) (cwV 1 hG (zgV zw290 zw291 zw292 zw8 zw293) rfl rfl rfl (by decide +kernel) ⟨Nat.le_of_ble_eq_true rfl, Nat.le_of_ble_eq_true rfl⟩) ⟨zPc_blind, va_recv hKc hPc (ci := 9) (q0 := 0) rfl rfl, zPc_pre hPc hKc hDc hE hS hFc hZ⟩ rfl rfl hl.1 rfl (lv_room (Nat.le_of_ble_eq_true rfl)) dX11_feed_45 ⟨Nat.le_of_ble_eq_true rfl, Nat.le_of_ble_eq_true rfl⟩) hS (fun q _ h => hFc q h) hFc (fun u t H1 locs ht hvm hw hB hz1 hk1 hS => ?_)
  obtain ⟨f_2999, hP1, hK1, hD1⟩ := hB
  rw [ht] at hP1
  obtain ⟨hP, hD⟩ := va_join (wr := [(h0, .inr (11, [.ref h1, .ref u0, .ref u1, .ref u2, .ref u3, .ref u4, .ref u5, .ref u6, .ref u7, .ref u8, .null, .long (-1)]))]) (w1 := [(h1, .inr (9, [.ref h2, .ref u9, .int 16, .int 0])), (h2, .inl (k2, 600, .inl f_2999))]) hP hD [1, 2] [0] rfl rfl (by decide) (by decide) hk1 hFc hP1 hD1
  generalize H1 = H at hP hS ⊢
  have hP : va_P (dC, dI) vwCl [(h0, .inr (11, [.ref h1, .ref u0, .ref u1, .ref u2, .ref u3, .ref u4, .ref u5, .ref u6, .ref u7, .ref u8, .null, .long (-1)])), (h1, .inr (9, [.ref h2, .ref u9, .int 16, .int 0])), (h2, .inl (k2, 600, .inl f_2999))] H := hP
  have hD : va_D A [(h0, .inr (11, [.ref h1, .ref u0, .ref u1, .ref u2, .ref u3, .ref u4, .ref u5, .ref u6, .ref u7, .ref u8, .null, .long (-1)])), (h1, .inr (9, [.ref h2, .ref u9, .int 16, .int 0])), (h2, .inl (k2, 600, .inl f_2999))] := hD
  refine lv_aload_n hx hb dX11_feed_48 rfl (lv_at hl 0 rfl) ?_
  refine va_get (D := (dC, dI)) (ci := 11) (v := .ref h1) (C := RX11) (T := TX11) (N := 12) hx hb hG zuX11 hown hK hP 0 rfl rfl 0 (by decide) (hG _ zw17) (fun _ h9 => h9) rfl dX11_feed_49 ?_
  refine lv_iload hx hb dX11_feed_52 (lv_at hl 5 rfl) ?_
  have hPc := hP.sub (ws' := [(h1, .inr (9, [.ref h2, .ref u9, .int 16, .int 0])), (h2, .inl (k2, 600, .inl f_2999))]) [1, 2] rfl
  have hDc := hD.sub (ws' := [(h1, .inr (9, [.ref h2, .ref u9, .int 16, .int 0])), (h2, .inl (k2, 600, .inl f_2999))]) [1, 2] (by decide) rfl
  have hKc := hK.sub (tys' := [(k2, .byte)]) [0] rfl
  have hFc := va_free (wc := [(h1, .inr (9, [.ref h2, .ref u9, .int 16, .int 0])), (h2, .inl (k2, 600, .inl f_2999))]) hD hS hA [1, 2] rfl
  refine va_callv (va_runV (As := [.int s4]) (rest := []) ⟨hx, hb, hml, hown, hG⟩ (kX9_put_4 l dC dI h1 h2 u9 k2 H.size s4 f_2999) (cwV 1 hG (zgV zw290 zw291 zw292 zw8 zw293) rfl rfl rfl (by decide +kernel) ⟨Nat.le_of_ble_eq_true rfl, Nat.le_of_ble_eq_true rfl⟩) ⟨zPc_blind, va_recv hKc hPc (ci := 9) (q0 := 0) rfl rfl, zPc_pre hPc hKc hDc hE hS hFc hZ⟩ rfl rfl hl.1 rfl (lv_room (Nat.le_of_ble_eq_true rfl)) dX11_feed_54 ⟨Nat.le_of_ble_eq_true rfl, Nat.le_of_ble_eq_true rfl⟩) hS (fun q _ h => hFc q h) hFc (fun u t H1 locs ht hvm hw hB hz1 hk1 hS => ?_)
  obtain ⟨f_3027, hP1, hK1, hD1⟩ := hB
  rw [ht] at hP1
  obtain ⟨hP, hD⟩ := va_join (wr := [(h0, .inr (11, [.ref h1, .ref u0, .ref u1, .ref u2, .ref u3, .ref u4, .ref u5, .ref u6, .ref u7, .ref u8, .null, .long (-1)]))]) (w1 := [(h1, .inr (9, [.ref h2, .ref u9, .int 20, .int 0])), (h2, .inl (k2, 600, .inl f_3027))]) hP hD [1, 2] [0] rfl rfl (by decide) (by decide) hk1 hFc hP1 hD1
  generalize H1 = H at hP hS ⊢
  have hP : va_P (dC, dI) vwCl [(h0, .inr (11, [.ref h1, .ref u0, .ref u1, .ref u2, .ref u3, .ref u4, .ref u5, .ref u6, .ref u7, .ref u8, .null, .long (-1)])), (h1, .inr (9, [.ref h2, .ref u9, .int 20, .int 0])), (h2, .inl (k2, 600, .inl f_3027))] H := hP
  have hD : va_D A [(h0, .inr (11, [.ref h1, .ref u0, .ref u1, .ref u2, .ref u3, .ref u4, .ref u5, .ref u6, .ref u7, .ref u8, .null, .long (-1)])), (h1, .inr (9, [.ref h2, .ref u9, .int 20, .int 0])), (h2, .inl (k2, 600, .inl f_3027))] := hD
  refine lv_aload_n hx hb dX11_feed_57 rfl (lv_at hl 0 rfl) ?_
  refine va_get (D := (dC, dI)) (ci := 11) (v := .ref h1) (C := RX11) (T := TX11) (N := 12) hx hb hG zuX11 hown hK hP 0 rfl rfl 0 (by decide) (hG _ zw17) (fun _ h9 => h9) rfl dX11_feed_58 ?_
  have hPc := hP.sub (ws' := [(h1, .inr (9, [.ref h2, .ref u9, .int 20, .int 0]))]) [1] rfl
  have hDc := hD.sub (ws' := [(h1, .inr (9, [.ref h2, .ref u9, .int 20, .int 0]))]) [1] (by decide) rfl
  have hKc := hK.sub (tys' := []) [] rfl
  have hFc := va_free (wc := [(h1, .inr (9, [.ref h2, .ref u9, .int 20, .int 0]))]) hD hS hA [1] rfl
  refine va_calli (va_runV (As := []) (rest := []) ⟨hx, hb, hml, hown, hG⟩ (kX9_size_0 l dC dI h1 h2 u9 H.size) (cwV 0 hG (zgV zw294 zw295 zw296 zw8 zw297) rfl rfl rfl (by decide +kernel) ⟨Nat.le_of_ble_eq_true rfl, Nat.le_of_ble_eq_true rfl⟩) ⟨zPc_blind, va_recv hKc hPc (ci := 9) (q0 := 0) rfl rfl, zPc_pre hPc hKc hDc hE hS hFc hZ⟩ rfl rfl hl.1 rfl (lv_room (Nat.le_of_ble_eq_true rfl)) dX11_feed_61 ⟨Nat.le_of_ble_eq_true rfl, Nat.le_of_ble_eq_true rfl⟩) hS (fun q _ h => hFc q h) hFc (fun r_3028 u t H1 locs ht hvm hw hB hz1 hk1 hS => ?_)
  have hw : r_3028 = 20 := hw
  subst hw
  obtain ⟨hP1, hK1, hD1⟩ := hB
  rw [ht] at hP1
  obtain ⟨hP, hD⟩ := va_join (wr := [(h0, .inr (11, [.ref h1, .ref u0, .ref u1, .ref u2, .ref u3, .ref u4, .ref u5, .ref u6, .ref u7, .ref u8, .null, .long (-1)])), (h2, .inl (k2, 600, .inl f_3027))]) (w1 := [(h1, .inr (9, [.ref h2, .ref u9, .int 20, .int 0]))]) hP hD [1] [0, 2] rfl rfl (by decide) (by decide) hk1 hFc hP1 hD1
  generalize H1 = H at hP hS ⊢
  have hP : va_P (dC, dI) vwCl [(h0, .inr (11, [.ref h1, .ref u0, .ref u1, .ref u2, .ref u3, .ref u4, .ref u5, .ref u6, .ref u7, .ref u8, .null, .long (-1)])), (h2, .inl (k2, 600, .inl f_3027)), (h1, .inr (9, [.ref h2, .ref u9, .int 20, .int 0]))] H := hP
  have hD : va_D A [(h0, .inr (11, [.ref h1, .ref u0, .ref u1, .ref u2, .ref u3, .ref u4, .ref u5, .ref u6, .ref u7, .ref u8, .null, .long (-1)])), (h2, .inl (k2, 600, .inl f_3027)), (h1, .inr (9, [.ref h2, .ref u9, .int 20, .int 0]))] := hD
  have hP9 := hP.sub (ws' := [(h0, .inr (11, [.ref h1, .ref u0, .ref u1, .ref u2, .ref u3, .ref u4, .ref u5, .ref u6, .ref u7, .ref u8, .null, .long (-1)])), (h1, .inr (9, [.ref h2, .ref u9, .int 20, .int 0])), (h2, .inl (k2, 600, .inl f_3027))]) [0, 2, 1] rfl
  have hD9 := hD.sub (ws' := [(h0, .inr (11, [.ref h1, .ref u0, .ref u1, .ref u2, .ref u3, .ref u4, .ref u5, .ref u6, .ref u7, .ref u8, .null, .long (-1)])), (h1, .inr (9, [.ref h2, .ref u9, .int 20, .int 0])), (h2, .inl (k2, 600, .inl f_3027))]) [0, 2, 1] (by decide) rfl
  have hK9 := hK.sub (tys' := [(k2, .byte)]) [0] rfl
  refine W.widen (k := 0) (n := 0) (by decide) (by decide) ?_
  exact W.iret (v := 20) hx hb hr (fun t ht hW => ⟨⟨20, (), rfl, rfl, f_3027, by rw [ht]; exact hP9, va_K.moved hW.alike hK9, hD9⟩, hS.F ht⟩) hS.2.2 dX11_feed_64
set_option maxHeartbeats 4000000 in
set_option maxRecDepth 100000 in
theorem kX13_lay_0 (l : Launch) (dC : Nat → ClassId) (dI : Nat → Nat → Nat) (h0 h1 u0 u1 u2 u3 u4 u5 u6 u7 u8 u9 u10 u11 u12 u13 u14 u15 u16 u17 u18 u19 u20 u21 u22 u23 u24 u25 u26 u27 u28 u29 u30 u31 u32 u33 u34 u35 u36 u37 u38 u39 u40 u41 u42 u43 u44 u45 u46 u47 : Nat) (k1 : ClassId) (sz : Nat) (s0 : Int32) : Met l yX13_lay (zw yX13_lay cX13_lay 3 none) { frames := 0, cells := 0, slots := 0, locals := 0 } (zPc dC dI [.ref h0, .int s0] sz [(h0, .inr (13, [.ref h1, .int 0, .ref u0, .ref u1, .int 0, .ref u2, .ref u3, .ref u4, .ref u5, .ref u6, .ref u7, .ref u8, .ref u9, .int 0, .ref u10, .ref u11, .int 0, .ref u12, .int (-1), .ref u13, .int 0, .int 0, .ref u14, .int 0, .int 0, .ref u15, .ref u16, .ref u17, .ref u18, .ref u19, .int 0, .ref u20, .int 0, .int 0, .int 0, .int 0, .int 0, .int 0, .ref u21, .ref u22, .ref u23, .ref u24, .int 0, .ref u25, .ref u26, .ref u27, .ref u28, .int 0, .ref u29, .ref u30, .int 0, .int 0, .ref u31, .int 0, .int 0, .int 0, .ref u32, .ref u33, .ref u34, .int 0, .int 0, .ref u35, .ref u36, .ref u37, .ref u38, .ref u39, .ref u40, .ref u41, .ref u42, .ref u43, .ref u44, .int 0, .ref u45, .ref u46, .ref u47])), (h1, .inl (k1, 600, .inl (fun _ => 0)))] [(k1, .byte)]) (va_Qv (fun _ : Unit => True) (fun (_ : Unit) (t : State) => ∃ (f0 : Nat → Int32), va_P (dC, dI) vwCl [(h0, .inr (13, [.ref h1, .int 4, .ref u0, .ref u1, .int 0, .ref u2, .ref u3, .ref u4, .ref u5, .ref u6, .ref u7, .ref u8, .ref u9, .int 0, .ref u10, .ref u11, .int 0, .ref u12, .int (-1), .ref u13, .int 0, .int 0, .ref u14, .int 0, .int 0, .ref u15, .ref u16, .ref u17, .ref u18, .ref u19, .int 0, .ref u20, .int 0, .int 0, .int 0, .int 0, .int 0, .int 0, .ref u21, .ref u22, .ref u23, .ref u24, .int 0, .ref u25, .ref u26, .ref u27, .ref u28, .int 0, .ref u29, .ref u30, .int 0, .int 0, .ref u31, .int 0, .int 0, .int 0, .ref u32, .ref u33, .ref u34, .int 0, .int 0, .ref u35, .ref u36, .ref u37, .ref u38, .ref u39, .ref u40, .ref u41, .ref u42, .ref u43, .ref u44, .int 0, .ref u45, .ref u46, .ref u47])), (h1, .inl (k1, 600, .inl f0))] t.heap ∧ va_K (dC, dI) vwCl [(k1, .byte)] t ∧ va_D (va_A [(h0, .inr (13, [.ref h1, .int 0, .ref u0, .ref u1, .int 0, .ref u2, .ref u3, .ref u4, .ref u5, .ref u6, .ref u7, .ref u8, .ref u9, .int 0, .ref u10, .ref u11, .int 0, .ref u12, .int (-1), .ref u13, .int 0, .int 0, .ref u14, .int 0, .int 0, .ref u15, .ref u16, .ref u17, .ref u18, .ref u19, .int 0, .ref u20, .int 0, .int 0, .int 0, .int 0, .int 0, .int 0, .ref u21, .ref u22, .ref u23, .ref u24, .int 0, .ref u25, .ref u26, .ref u27, .ref u28, .int 0, .ref u29, .ref u30, .int 0, .int 0, .ref u31, .int 0, .int 0, .int 0, .ref u32, .ref u33, .ref u34, .int 0, .int 0, .ref u35, .ref u36, .ref u37, .ref u38, .ref u39, .ref u40, .ref u41, .ref u42, .ref u43, .ref u44, .int 0, .ref u45, .ref u46, .ref u47])), (h1, .inl (k1, 600, .inl (fun _ => 0)))] sz) [(h0, .inr (13, [.ref h1, .int 4, .ref u0, .ref u1, .int 0, .ref u2, .ref u3, .ref u4, .ref u5, .ref u6, .ref u7, .ref u8, .ref u9, .int 0, .ref u10, .ref u11, .int 0, .ref u12, .int (-1), .ref u13, .int 0, .int 0, .ref u14, .int 0, .int 0, .ref u15, .ref u16, .ref u17, .ref u18, .ref u19, .int 0, .ref u20, .int 0, .int 0, .int 0, .int 0, .int 0, .int 0, .ref u21, .ref u22, .ref u23, .ref u24, .int 0, .ref u25, .ref u26, .ref u27, .ref u28, .int 0, .ref u29, .ref u30, .int 0, .int 0, .ref u31, .int 0, .int 0, .int 0, .ref u32, .ref u33, .ref u34, .int 0, .int 0, .ref u35, .ref u36, .ref u37, .ref u38, .ref u39, .ref u40, .ref u41, .ref u42, .ref u43, .ref u44, .int 0, .ref u45, .ref u46, .ref u47])), (h1, .inl (k1, 600, .inl f0))]) (va_A [(h0, .inr (13, [.ref h1, .int 0, .ref u0, .ref u1, .int 0, .ref u2, .ref u3, .ref u4, .ref u5, .ref u6, .ref u7, .ref u8, .ref u9, .int 0, .ref u10, .ref u11, .int 0, .ref u12, .int (-1), .ref u13, .int 0, .int 0, .ref u14, .int 0, .int 0, .ref u15, .ref u16, .ref u17, .ref u18, .ref u19, .int 0, .ref u20, .int 0, .int 0, .int 0, .int 0, .int 0, .int 0, .ref u21, .ref u22, .ref u23, .ref u24, .int 0, .ref u25, .ref u26, .ref u27, .ref u28, .int 0, .ref u29, .ref u30, .int 0, .int 0, .ref u31, .int 0, .int 0, .int 0, .ref u32, .ref u33, .ref u34, .int 0, .int 0, .ref u35, .ref u36, .ref u37, .ref u38, .ref u39, .ref u40, .ref u41, .ref u42, .ref u43, .ref u44, .int 0, .ref u45, .ref u46, .ref u47])), (h1, .inl (k1, 600, .inl (fun _ => 0)))] sz)) 0 0 (va_A [(h0, .inr (13, [.ref h1, .int 0, .ref u0, .ref u1, .int 0, .ref u2, .ref u3, .ref u4, .ref u5, .ref u6, .ref u7, .ref u8, .ref u9, .int 0, .ref u10, .ref u11, .int 0, .ref u12, .int (-1), .ref u13, .int 0, .int 0, .ref u14, .int 0, .int 0, .ref u15, .ref u16, .ref u17, .ref u18, .ref u19, .int 0, .ref u20, .int 0, .int 0, .int 0, .int 0, .int 0, .int 0, .ref u21, .ref u22, .ref u23, .ref u24, .int 0, .ref u25, .ref u26, .ref u27, .ref u28, .int 0, .ref u29, .ref u30, .int 0, .int 0, .ref u31, .int 0, .int 0, .int 0, .ref u32, .ref u33, .ref u34, .int 0, .int 0, .ref u35, .ref u36, .ref u37, .ref u38, .ref u39, .ref u40, .ref u41, .ref u42, .ref u43, .ref u44, .int 0, .ref u45, .ref u46, .ref u47])), (h1, .inl (k1, 600, .inl (fun _ => 0)))] sz) := by
  refine Met.ofW (cc := cX13_lay) (maxL := 3) (ret := none) (by decide) rfl ?_
  intro p e s m args below meth c s₁ B hml hv
  obtain ⟨rfl, hsz, hP, hK, hD0, hE, hZ⟩ := hv
  have hx := B.exec
  have hb := B.bytes
  have hr := B.returns
  have hG : ∀ w ∈ zG, w.before _ s = true := fun w h => atoms_spec (ws := (zw yX13_lay cX13_lay 3 none)) B.pre w (List.mem_cons_of_mem _ h)
  have hown : s.vm.findClass RX13 = some m.cls := findClass_of_methodNamed B.named
  have hlocks := B.notSynchronized
  subst hsz
  have hD := hD0.self (sz := s.heap.size)
  generalize hAe : va_A [(h0, .inr (13, [.ref h1, .int 0, .ref u0, .ref u1, .int 0, .ref u2, .ref u3, .ref u4, .ref u5, .ref u6, .ref u7, .ref u8, .ref u9, .int 0, .ref u10, .ref u11, .int 0, .ref u12, .int (-1), .ref u13, .int 0, .int 0, .ref u14, .int 0, .int 0, .ref u15, .ref u16, .ref u17, .ref u18, .ref u19, .int 0, .ref u20, .int 0, .int 0, .int 0, .int 0, .int 0, .int 0, .ref u21, .ref u22, .ref u23, .ref u24, .int 0, .ref u25, .ref u26, .ref u27, .ref u28, .int 0, .ref u29, .ref u30, .int 0, .int 0, .ref u31, .int 0, .int 0, .int 0, .ref u32, .ref u33, .ref u34, .int 0, .int 0, .ref u35, .ref u36, .ref u37, .ref u38, .ref u39, .ref u40, .ref u41, .ref u42, .ref u43, .ref u44, .int 0, .ref u45, .ref u46, .ref u47])), (h1, .inl (k1, 600, .inl (fun _ => 0)))] s.heap.size = A at hD hZ ⊢
  have hA : ∀ q : Nat, s.heap.size ≤ q → A q := fun q h => by rw [← hAe]; exact Or.inr h
  have hS : va_S A s.heap s.heap [] := va_S.rf
  have hl := lv_entry ([.ref h0, .int s0]) (n := 3) (Nat.le_of_ble_eq_true rfl)
  rw [lg_entry_eq]
  generalize (lg_sl ([.ref h0, .int s0]) ++ List.replicate (3 - (lg_sl ([.ref h0, .int s0])).length) Slot.unset).toArray = ls at hl ⊢
  have hl : lv_has ls 3 [(0, .ref h0), (1, .int s0)] := hl
  refine lv_bipush (v := 24) hx hb dX13_lay_0 (by decide) ?_
  refine lv_istore_n (lv' := [(2, .int 24), (0, .ref h0), (1, .int s0)]) hx hb dX13_lay_2 rfl hl (by decide) rfl (fun ls hl => ?_)
  refine lv_iload_n hx hb dX13_lay_3 rfl (lv_at hl 0 rfl) ?_
  refine lv_if_lt (tgt := 36) hx hb dX13_lay_4 (by decide) (fun c_3082 => absurd c_3082 (by decide)) (fun c_3082 => ?_)
  refine lv_aload_n hx hb dX13_lay_7 rfl (lv_at hl 1 rfl) ?_
  refine va_get (D := (dC, dI)) (ci := 13) (v := .ref h1) (C := RX13) (T := TX13) (N := 75) hx hb hG zuX13 hown hK hP 0 rfl rfl 0 (by decide) (hG _ zw209) (fun _ h9 => h9) rfl dX13_lay_8 ?_
  refine lv_aload_n hx hb dX13_lay_11 rfl (lv_at hl 1 rfl) ?_
  refine va_get (D := (dC, dI)) (ci := 13) (v := .int 0) (C := RX13) (T := TX13) (N := 75) hx hb hG zuX13 hown hK hP 0 rfl rfl 1 (by decide) (hG _ zw303) (fun _ h9 => h9) rfl dX13_lay_12 ?_
  refine lv_iload_n hx hb dX13_lay_15 rfl (lv_at hl 2 rfl) ?_
  refine lv_iload_n hx hb dX13_lay_16 rfl (lv_at hl 0 rfl) ?_
  refine lv_ishr hx hb dX13_lay_17 ?_
  refine lv_topi (fun z_3083 e_z_3083 => ?_)
  refine lv_i2b hx hb dX13_lay_18 rfl ?_
  refine lv_topi (fun z_3084 e_z_3084 => ?_)
  refine va_bast hx hb hK hP hD hS 1 0 rfl rfl (zin_lit (by decide)) dX13_lay_19 (fun H locs hP hD hS => ?_)
  obtain ⟨f_3085, e_f_3085⟩ : ∃ z : Nat → Int32, z = upd (fun _ => 0) 0 (vp_nar .byte z_3084) := ⟨_, rfl⟩
  have hP : va_P (dC, dI) vwCl [(h0, .inr (13, [.ref h1, .int 0, .ref u0, .ref u1, .int 0, .ref u2, .ref u3, .ref u4, .ref u5, .ref u6, .ref u7, .ref u8, .ref u9, .int 0, .ref u10, .ref u11, .int 0, .ref u12, .int (-1), .ref u13, .int 0, .int 0, .ref u14, .int 0, .int 0, .ref u15, .ref u16, .ref u17, .ref u18, .ref u19, .int 0, .ref u20, .int 0, .int 0, .int 0, .int 0, .int 0, .int 0, .ref u21, .ref u22, .ref u23, .ref u24, .int 0, .ref u25, .ref u26, .ref u27, .ref u28, .int 0, .ref u29, .ref u30, .int 0, .int 0, .ref u31, .int 0, .int 0, .int 0, .ref u32, .ref u33, .ref u34, .int 0, .int 0, .ref u35, .ref u36, .ref u37, .ref u38, .ref u39, .ref u40, .ref u41, .ref u42, .ref u43, .ref u44, .int 0, .ref u45, .ref u46, .ref u47])), (h1, .inl (k1, 600, .inl f_3085))] H := by rw [e_f_3085]; exact hP
  have hD : va_D A [(h0, .inr (13, [.ref h1, .int 0, .ref u0, .ref u1, .int 0, .ref u2, .ref u3, .ref u4, .ref u5, .ref u6, .ref u7, .ref u8, .ref u9, .int 0, .ref u10, .ref u11, .int 0, .ref u12, .int (-1), .ref u13, .int 0, .int 0, .ref u14, .int 0, .int 0, .ref u15, .ref u16, .ref u17, .ref u18, .ref u19, .int 0, .ref u20, .int 0, .int 0, .int 0, .int 0, .int 0, .int 0, .ref u21, .ref u22, .ref u23, .ref u24, .int 0, .ref u25, .ref u26, .ref u27, .ref u28, .int 0, .ref u29, .ref u30, .int 0, .int 0, .ref u31, .int 0, .int 0, .int 0, .ref u32, .ref u33, .ref u34, .int 0, .int 0, .ref u35, .ref u36, .ref u37, .ref u38, .ref u39, .ref u40, .ref u41, .ref u42, .ref u43, .ref u44, .int 0, .ref u45, .ref u46, .ref u47])), (h1, .inl (k1, 600, .inl f_3085))] := by rw [e_f_3085]; exact hD
  refine lv_aload_n hx hb dX13_lay_20 rfl (lv_at hl 1 rfl) ?_
  refine lv_dup hx hb dX13_lay_21 rfl ?_
  refine va_get (D := (dC, dI)) (ci := 13) (v := .int 0) (C := RX13) (T := TX13) (N := 75) hx hb hG zuX13 hown hK hP 0 rfl rfl 1 (by decide) (hG _ zw303) (fun _ h9 => h9) rfl dX13_lay_22 ?_
  refine lv_iconst (v := 1) hx hb dX13_lay_25 (by decide) ?_
  refine lv_iadd hx hb dX13_lay_26 ?_
  refine lv_topi (fun z_3086 e_z_3086 => ?_)
  obtain rfl : z_3086 = (1 : Int32) := e_z_3086.trans (by decide)
  refine va_put (D := (dC, dI)) (ci := 13) (v := .int 1) (ty := .int) (C := RX13) (T := TX13) (N := 75) hx hb hG zuX13 tyX13 tyX13_ok nmX13 hown hK hP hD hS 0 rfl rfl 1 (by decide) (hG _ zw303) (fun _ h9 => h9) rfl (by decide +kernel) rfl rfl (Nat.le_of_ble_eq_true rfl) dX13_lay_27 (fun H locs hP hD hS => ?_)
  have hP : va_P (dC, dI) vwCl [(h0, .inr (13, [.ref h1, .int 1, .ref u0, .ref u1, .int 0, .ref u2, .ref u3, .ref u4, .ref u5, .ref u6, .ref u7, .ref u8, .ref u9, .int 0, .ref u10, .ref u11, .int 0, .ref u12, .int (-1), .ref u13, .int 0, .int 0, .ref u14, .int 0, .int 0, .ref u15, .ref u16, .ref u17, .ref u18, .ref u19, .int 0, .ref u20, .int 0, .int 0, .int 0, .int 0, .int 0, .int 0, .ref u21, .ref u22, .ref u23, .ref u24, .int 0, .ref u25, .ref u26, .ref u27, .ref u28, .int 0, .ref u29, .ref u30, .int 0, .int 0, .ref u31, .int 0, .int 0, .int 0, .ref u32, .ref u33, .ref u34, .int 0, .int 0, .ref u35, .ref u36, .ref u37, .ref u38, .ref u39, .ref u40, .ref u41, .ref u42, .ref u43, .ref u44, .int 0, .ref u45, .ref u46, .ref u47])), (h1, .inl (k1, 600, .inl f_3085))] H := hP
  have hD : va_D A [(h0, .inr (13, [.ref h1, .int 1, .ref u0, .ref u1, .int 0, .ref u2, .ref u3, .ref u4, .ref u5, .ref u6, .ref u7, .ref u8, .ref u9, .int 0, .ref u10, .ref u11, .int 0, .ref u12, .int (-1), .ref u13, .int 0, .int 0, .ref u14, .int 0, .int 0, .ref u15, .ref u16, .ref u17, .ref u18, .ref u19, .int 0, .ref u20, .int 0, .int 0, .int 0, .int 0, .int 0, .int 0, .ref u21, .ref u22, .ref u23, .ref u24, .int 0, .ref u25, .ref u26, .ref u27, .ref u28, .int 0, .ref u29, .ref u30, .int 0, .int 0, .ref u31, .int 0, .int 0, .int 0, .ref u32, .ref u33, .ref u34, .int 0, .int 0, .ref u35, .ref u36, .ref u37, .ref u38, .ref u39, .ref u40, .ref u41, .ref u42, .ref u43, .ref u44, .int 0, .ref u45, .ref u46, .ref u47])), (h1, .inl (k1, 600, .inl f_3085))] := hD
  refine lv_iinc (v := 16) (lv' := [(2, .int 16), (0, .ref h0), (1, .int s0)]) hx hb dX13_lay_30 hl (k := 0) rfl (by decide) (by decide) rfl (fun ls hl => ?_)
  refine lv_goto (tgt := 3) hx hb dX13_lay_33 (by decide) ?_
  refine lv_iload_n hx hb dX13_lay_3 rfl (lv_at hl 0 rfl) ?_
  refine lv_if_lt (tgt := 36) hx hb dX13_lay_4 (by decide) (fun c_3087 => absurd c_3087 (by decide)) (fun c_3087 => ?_)
  refine lv_aload_n hx hb dX13_lay_7 rfl (lv_at hl 1 rfl) ?_
  refine va_get (D := (dC, dI)) (ci := 13) (v := .ref h1) (C := RX13) (T := TX13) (N := 75) hx hb hG zuX13 hown hK hP 0 rfl rfl 0 (by decide) (hG _ zw209) (fun _ h9 => h9) rfl dX13_lay_8 ?_
  refine lv_aload_n hx hb dX13_lay_11 rfl (lv_at hl 1 rfl) ?_
  refine va_get (D := (dC, dI)) (ci := 13) (v := .int 1) (C := RX13) (T := TX13) (N := 75) hx hb hG zuX13 hown hK hP 0 rfl rfl 1 (by decide) (hG _ zw303) (fun _ h9 => h9) rfl dX13_lay_12 ?_
  refine lv_iload_n hx hb dX13_lay_15 rfl (lv_at hl 2 rfl) ?_
  refine lv_iload_n hx hb dX13_lay_16 rfl (lv_at hl 0 rfl) ?_
  refine lv_ishr hx hb dX13_lay_17 ?_
  refine lv_topi (fun z_3088 e_z_3088 => ?_)
  refine lv_i2b hx hb dX13_lay_18 rfl ?_
  refine lv_topi (fun z_3089 e_z_3089 => ?_)
  refine va_bast hx hb hK hP hD hS 1 0 rfl rfl (zin_lit (by decide)) dX13_lay_19 (fun H locs hP hD hS => ?_)
  obtain ⟨f_3090, e_f_3090⟩ : ∃ z : Nat → Int32, z = upd f_3085 1 (vp_nar .byte z_3089) := ⟨_, rfl⟩
  have hP : va_P (dC, dI) vwCl [(h0, .inr (13, [.ref h1, .int 1, .ref u0, .ref u1, .int 0, .ref u2, .ref u3, .ref u4, .ref u5, .ref u6, .ref u7, .ref u8, .ref u9, .int 0, .ref u10, .ref u11, .int 0, .ref u12, .int (-1), .ref u13, .int 0, .int 0, .ref u14, .int 0, .int 0, .ref u15, .ref u16, .ref u17, .ref u18, .ref u19, .int 0, .ref u20, .int 0, .int 0, .int 0, .int 0, .int 0, .int 0, .ref u21, .ref u22, .ref u23, .ref u24, .int 0, .ref u25, .ref u26, .ref u27, .ref u28, .int 0, .ref u29, .ref u30, .int 0, .int 0, .ref u31, .int 0, .int 0, .int 0, .ref u32, .ref u33, .ref u34, .int 0, .int 0, .ref u35, .ref u36, .ref u37, .ref u38, .ref u39, .ref u40, .ref u41, .ref u42, .ref u43, .ref u44, .int 0, .ref u45, .ref u46, .ref u47])), (h1, .inl (k1, 600, .inl f_3090))] H := by rw [e_f_3090]; exact hP
  have hD : va_D A [(h0, .inr (13, [.ref h1, .int 1, .ref u0, .ref u1, .int 0, .ref u2, .ref u3, .ref u4, .ref u5, .ref u6, .ref u7, .ref u8, .ref u9, .int 0, .ref u10, .ref u11, .int 0, .ref u12, .int (-1), .ref u13, .int 0, .int 0, .ref u14, .int 0, .int 0, .ref u15, .ref u16, .ref u17, .ref u18, .ref u19, .int 0, .ref u20, .int 0, .int 0, .int 0, .int 0, .int 0, .int 0, .ref u21, .ref u22, .ref u23, .ref u24, .int 0, .ref u25, .ref u26, .ref u27, .ref u28, .int 0, .ref u29, .ref u30, .int 0, .int 0, .ref u31, .int 0, .int 0, .int 0, .ref u32, .ref u33, .ref u34, .int 0, .int 0, .ref u35, .ref u36, .ref u37, .ref u38, .ref u39, .ref u40, .ref u41, .ref u42, .ref u43, .ref u44, .int 0, .ref u45, .ref u46, .ref u47])), (h1, .inl (k1, 600, .inl f_3090))] := by rw [e_f_3090]; exact hD
  refine lv_aload_n hx hb dX13_lay_20 rfl (lv_at hl 1 rfl) ?_
  refine lv_dup hx hb dX13_lay_21 rfl ?_
  refine va_get (D := (dC, dI)) (ci := 13) (v := .int 1) (C := RX13) (T := TX13) (N := 75) hx hb hG zuX13 hown hK hP 0 rfl rfl 1 (by decide) (hG _ zw303) (fun _ h9 => h9) rfl dX13_lay_22 ?_
  refine lv_iconst (v := 1) hx hb dX13_lay_25 (by decide) ?_
  refine lv_iadd hx hb dX13_lay_26 ?_
  refine lv_topi (fun z_3091 e_z_3091 => ?_)
  obtain rfl : z_3091 = (2 : Int32) := e_z_3091.trans (by decide)
  refine va_put (D := (dC, dI)) (ci := 13) (v := .int 2) (ty := .int) (C := RX13) (T := TX13) (N := 75) hx hb hG zuX13 tyX13 tyX13_ok nmX13 hown hK hP hD hS 0 rfl rfl 1 (by decide) (hG _ zw303) (fun _ h9 => h9) rfl (by decide +kernel) rfl rfl (Nat.le_of_ble_eq_true rfl) dX13_lay_27 (fun H locs hP hD hS => ?_)
  have hP : va_P (dC, dI) vwCl [(h0, .inr (13, [.ref h1, .int 2, .ref u0, .ref u1, .int 0, .ref u2, .ref u3, .ref u4, .ref u5, .ref u6, .ref u7, .ref u8, .ref u9, .int 0, .ref u10, .ref u11, .int 0, .ref u12, .int (-1), .ref u13, .int 0, .int 0, .ref u14, .int 0, .int 0, .ref u15, .ref u16, .ref u17, .ref u18, .ref u19, .int 0, .ref u20, .int 0, .int 0, .int 0, .int 0, .int 0, .int 0, .ref u21, .ref u22, .ref u23, .ref u24, .int 0, .ref u25, .ref u26, .ref u27, .ref u28, .int 0, .ref u29, .ref u30, .int 0, .int 0, .ref u31, .int 0, .int 0, .int 0, .ref u32, .ref u33, .ref u34, .int 0, .int 0, .ref u35, .ref u36, .ref u37, .ref u38, .ref u39, .ref u40, .ref u41, .ref u42, .ref u43, .ref u44, .int 0, .ref u45, .ref u46, .ref u47])), (h1, .inl (k1, 600, .inl f_3090))] H := hP
  have hD : va_D A [(h0, .inr (13, [.ref h1, .int 2, .ref u0, .ref u1, .int 0, .ref u2, .ref u3, .ref u4, .ref u5, .ref u6, .ref u7, .ref u8, .ref u9, .int 0, .ref u10, .ref u11, .int 0, .ref u12, .int (-1), .ref u13, .int 0, .int 0, .ref u14, .int 0, .int 0, .ref u15, .ref u16, .ref u17, .ref u18, .ref u19, .int 0, .ref u20, .int 0, .int 0, .int 0, .int 0, .int 0, .int 0, .ref u21, .ref u22, .ref u23, .ref u24, .int 0, .ref u25, .ref u26, .ref u27, .ref u28, .int 0, .ref u29, .ref u30, .int 0, .int 0, .ref u31, .int 0, .int 0, .int 0, .ref u32, .ref u33, .ref u34, .int 0, .int 0, .ref u35, .ref u36, .ref u37, .ref u38, .ref u39, .ref u40, .ref u41, .ref u42, .ref u43, .ref u44, .int 0, .ref u45, .ref u46, .ref u47])), (h1, .inl (k1, 600, .inl f_3090))] := hD
  refine lv_iinc (v := 8) (lv' := [(2, .int 8), (0, .ref h0), (1, .int s0)]) hx hb dX13_lay_30 hl (k := 0) rfl (by decide) (by decide) rfl (fun ls hl => ?_)
  refine lv_goto (tgt := 3) hx hb dX13_lay_33 (by decide) ?_
  refine lv_iload_n hx hb dX13_lay_3 rfl (lv_at hl 0 rfl) ?_
  refine lv_if_lt (tgt := 36) hx hb dX13_lay_4 (by decide) (fun c_3092 => absurd c_3092 (by decide)) (fun c_3092 => ?_)
  refine lv_aload_n hx hb dX13_lay_7 rfl (lv_at hl 1 rfl) ?_
  refine va_get (D := (dC, dI)) (ci := 13) (v := .ref h1) (C := RX13) (T := TX13) (N := 75) hx hb hG zuX13 hown hK hP 0 rfl rfl 0 (by decide) (hG _ zw209) (fun _ h9 => h9) rfl dX13_lay_8 ?_
  refine lv_aload_n hx hb dX13_lay_11 rfl (lv_at hl 1 rfl) ?_
  refine va_get (D := (dC, dI)) (ci := 13) (v := .int 2) (C := RX13) (T := TX13) (N := 75) hx hb hG zuX13 hown hK hP 0 rfl rfl 1 (by decide) (hG _ zw303) (fun _ h9 => h9) rfl dX13_lay_12 ?_
  refine lv_iload_n hx hb dX13_lay_15 rfl (lv_at hl 2 rfl) ?_
  refine lv_iload_n hx hb dX13_lay_16 rfl (lv_at hl 0 rfl) ?_
  refine lv_ishr hx hb dX13_lay_17 ?_
  refine lv_topi (fun z_3093 e_z_3093 => ?_)
  refine lv_i2b hx hb dX13_lay_18 rfl ?_
  refine lv_topi (fun z_3094 e_z_3094 => ?_)
  refine va_bast hx hb hK hP hD hS 1 0 rfl rfl (zin_lit (by decide)) dX13_lay_19 (fun H locs hP hD hS => ?_)
  obtain ⟨f_3095, e_f_3095⟩ : ∃ z : Nat → Int32, z = upd f_3090 2 (vp_nar .byte z_3094) := ⟨_, rfl⟩
  have hP : va_P (dC, dI) vwCl [(h0, .inr (13, [.ref h1, .int 2, .ref u0, .ref u1, .int 0, .ref u2, .ref u3, .ref u4, .ref u5, .ref u6, .ref u7, .ref u8, .ref u9, .int 0, .ref u10, .ref u11, .int 0, .ref u12, .int (-1), .ref u13, .int 0, .int 0, .ref u14, .int 0, .int 0, .ref u15, .ref u16, .ref u17, .ref u18, .ref u19, .int 0, .ref u20, .int 0, .int 0, .int 0, .int 0, .int 0, .int 0, .ref u21, .ref u22, .ref u23, .ref u24, .int 0, .ref u25, .ref u26, .ref u27, .ref u28, .int 0, .ref u29, .ref u30, .int 0, .int 0, .ref u31, .int 0, .int 0, .int 0, .ref u32, .ref u33, .ref u34, .int 0, .int 0, .ref u35, .ref u36, .ref u37, .ref u38, .ref u39, .ref u40, .ref u41, .ref u42, .ref u43, .ref u44, .int 0, .ref u45, .ref u46, .ref u47])), (h1, .inl (k1, 600, .inl f_3095))] H := by rw [e_f_3095]; exact hP
  have hD : va_D A [(h0, .inr (13, [.ref h1, .int 2, .ref u0, .ref u1, .int 0, .ref u2, .ref u3, .ref u4, .ref u5, .ref u6, .ref u7, .ref u8, .ref u9, .int 0, .ref u10, .ref u11, .int 0, .ref u12, .int (-1), .ref u13, .int 0, .int 0, .ref u14, .int 0, .int 0, .ref u15, .ref u16, .ref u17, .ref u18, .ref u19, .int 0, .ref u20, .int 0, .int 0, .int 0, .int 0, .int 0, .int 0, .ref u21, .ref u22, .ref u23, .ref u24, .int 0, .ref u25, .ref u26, .ref u27, .ref u28, .int 0, .ref u29, .ref u30, .int 0, .int 0, .ref u31, .int 0, .int 0, .int 0, .ref u32, .ref u33, .ref u34, .int 0, .int 0, .ref u35, .ref u36, .ref u37, .ref u38, .ref u39, .ref u40, .ref u41, .ref u42, .ref u43, .ref u44, .int 0, .ref u45, .ref u46, .ref u47])), (h1, .inl (k1, 600, .inl f_3095))] := by rw [e_f_3095]; exact hD
  refine lv_aload_n hx hb dX13_lay_20 rfl (lv_at hl 1 rfl) ?_
  refine lv_dup hx hb dX13_lay_21 rfl ?_
  refine va_get (D := (dC, dI)) (ci := 13) (v := .int 2) (C := RX13) (T := TX13) (N := 75) hx hb hG zuX13 hown hK hP 0 rfl rfl 1 (by decide) (hG _ zw303) (fun _ h9 => h9) rfl dX13_lay_22 ?_
  refine lv_iconst (v := 1) hx hb dX13_lay_25 (by decide) ?_
  refine lv_iadd hx hb dX13_lay_26 ?_
  refine lv_topi (fun z_3096 e_z_3096 => ?_)
  obtain rfl : z_3096 = (3 : Int32) := e_z_3096.trans (by decide)
  refine va_put (D := (dC, dI)) (ci := 13) (v := .int 3) (ty := .int) (C := RX13) (T := TX13) (N := 75) hx hb hG zuX13 tyX13 tyX13_ok nmX13 hown hK hP hD hS 0 rfl rfl 1 (by decide) (hG _ zw303) (fun _ h9 => h9) rfl (by decide +kernel) rfl rfl (Nat.le_of_ble_eq_true rfl) dX13_lay_27 (fun H locs hP hD hS => ?_)
  have hP : va_P (dC, dI) vwCl [(h0, .inr (13, [.ref h1, .int 3, .ref u0, .ref u1, .int 0, .ref u2, .ref u3, .ref u4, .ref u5, .ref u6, .ref u7, .ref u8, .ref u9, .int 0, .ref u10, .ref u11, .int 0, .ref u12, .int (-1), .ref u13, .int 0, .int 0, .ref u14, .int 0, .int 0, .ref u15, .ref u16, .ref u17, .ref u18, .ref u19, .int 0, .ref u20, .int 0, .int 0, .int 0, .int 0, .int 0, .int 0, .ref u21, .ref u22, .ref u23, .ref u24, .int 0, .ref u25, .ref u26, .ref u27, .ref u28, .int 0, .ref u29, .ref u30, .int 0, .int 0, .ref u31, .int 0, .int 0, .int 0, .ref u32, .ref u33, .ref u34, .int 0, .int 0, .ref u35, .ref u36, .ref u37, .ref u38, .ref u39, .ref u40, .ref u41, .ref u42, .ref u43, .ref u44, .int 0, .ref u45, .ref u46, .ref u47])), (h1, .inl (k1, 600, .inl f_3095))] H := hP
  have hD : va_D A [(h0, .inr (13, [.ref h1, .int 3, .ref u0, .ref u1, .int 0, .ref u2, .ref u3, .ref u4, .ref u5, .ref u6, .ref u7, .ref u8, .ref u9, .int 0, .ref u10, .ref u11, .int 0, .ref u12, .int (-1), .ref u13, .int 0, .int 0, .ref u14, .int 0, .int 0, .ref u15, .ref u16, .ref u17, .ref u18, .ref u19, .int 0, .ref u20, .int 0, .int 0, .int 0, .int 0, .int 0, .int 0, .ref u21, .ref u22, .ref u23, .ref u24, .int 0, .ref u25, .ref u26, .ref u27, .ref u28, .int 0, .ref u29, .ref u30, .int 0, .int 0, .ref u31, .int 0, .int 0, .int 0, .ref u32, .ref u33, .ref u34, .int 0, .int 0, .ref u35, .ref u36, .ref u37, .ref u38, .ref u39, .ref u40, .ref u41, .ref u42, .ref u43, .ref u44, .int 0, .ref u45, .ref u46, .ref u47])), (h1, .inl (k1, 600, .inl f_3095))] := hD
  refine lv_iinc (v := 0) (lv' := [(2, .int 0), (0, .ref h0), (1, .int s0)]) hx hb dX13_lay_30 hl (k := 0) rfl (by decide) (by decide) rfl (fun ls hl => ?_)
  refine lv_goto (tgt := 3) hx hb dX13_lay_33 (by decide) ?_
  refine lv_iload_n hx hb dX13_lay_3 rfl (lv_at hl 0 rfl) ?_
  refine lv_if_lt (tgt := 36) hx hb dX13_lay_4 (by decide) (fun c_3097 => absurd c_3097 (by decide)) (fun c_3097 => ?_)
  refine lv_aload_n hx hb dX13_lay_7 rfl (lv_at hl 1 rfl) ?_
  refine va_get (D := (dC, dI)) (ci := 13) (v := .ref h1) (C := RX13) (T := TX13) (N := 75) hx hb hG zuX13 hown hK hP 0 rfl rfl 0 (by decide) (hG _ zw209) (fun _ h9 => h9) rfl dX13_lay_8 ?_
  refine lv_aload_n hx hb dX13_lay_11 rfl (lv_at hl 1 rfl) ?_
  refine va_get (D := (dC, dI)) (ci := 13) (v := .int 3) (C := RX13) (T := TX13) (N := 75) hx hb hG zuX13 hown hK hP 0 rfl rfl 1 (by decide) (hG _ zw303) (fun _ h9 => h9) rfl dX13_lay_12 ?_
  refine lv_iload_n hx hb dX13_lay_15 rfl (lv_at hl 2 rfl) ?_
  refine lv_iload_n hx hb dX13_lay_16 rfl (lv_at hl 0 rfl) ?_
  refine lv_ishr hx hb dX13_lay_17 ?_
  refine lv_topi (fun z_3098 e_z_3098 => ?_)
  refine lv_i2b hx hb dX13_lay_18 rfl ?_
  refine lv_topi (fun z_3099 e_z_3099 => ?_)
  refine va_bast hx hb hK hP hD hS 1 0 rfl rfl (zin_lit (by decide)) dX13_lay_19 (fun H locs hP hD hS => ?_)
  obtain ⟨f_3100, e_f_3100⟩ : ∃ z : Nat → Int32, z = upd f_3095 3 (vp_nar .byte z_3099) := ⟨_, rfl⟩
  have hP : va_P (dC, dI) vwCl [(h0, .inr (13, [.ref h1, .int 3, .ref u0, .ref u1, .int 0, .ref u2, .ref u3, .ref u4, .ref u5, .ref u6, .ref u7, .ref u8, .ref u9, .int 0, .ref u10, .ref u11, .int 0, .ref u12, .int (-1), .ref u13, .int 0, .int 0, .ref u14, .int 0, .int 0, .ref u15, .ref u16, .ref u17, .ref u18, .ref u19, .int 0, .ref u20, .int 0, .int 0, .int 0, .int 0, .int 0, .int 0, .ref u21, .ref u22, .ref u23, .ref u24, .int 0, .ref u25, .ref u26, .ref u27, .ref u28, .int 0, .ref u29, .ref u30, .int 0, .int 0, .ref u31, .int 0, .int 0, .int 0, .ref u32, .ref u33, .ref u34, .int 0, .int 0, .ref u35, .ref u36, .ref u37, .ref u38, .ref u39, .ref u40, .ref u41, .ref u42, .ref u43, .ref u44, .int 0, .ref u45, .ref u46, .ref u47])), (h1, .inl (k1, 600, .inl f_3100))] H := by rw [e_f_3100]; exact hP
  have hD : va_D A [(h0, .inr (13, [.ref h1, .int 3, .ref u0, .ref u1, .int 0, .ref u2, .ref u3, .ref u4, .ref u5, .ref u6, .ref u7, .ref u8, .ref u9, .int 0, .ref u10, .ref u11, .int 0, .ref u12, .int (-1), .ref u13, .int 0, .int 0, .ref u14, .int 0, .int 0, .ref u15, .ref u16, .ref u17, .ref u18, .ref u19, .int 0, .ref u20, .int 0, .int 0, .int 0, .int 0, .int 0, .int 0, .ref u21, .ref u22, .ref u23, .ref u24, .int 0, .ref u25, .ref u26, .ref u27, .ref u28, .int 0, .ref u29, .ref u30, .int 0, .int 0, .ref u31, .int 0, .int 0, .int 0, .ref u32, .ref u33, .ref u34, .int 0, .int 0, .ref u35, .ref u36, .ref u37, .ref u38, .ref u39, .ref u40, .ref u41, .ref u42, .ref u43, .ref u44, .int 0, .ref u45, .ref u46, .ref u47])), (h1, .inl (k1, 600, .inl f_3100))] := by rw [e_f_3100]; exact hD
  refine lv_aload_n hx hb dX13_lay_20 rfl (lv_at hl 1 rfl) ?_
  refine lv_dup hx hb dX13_lay_21 rfl ?_
  refine va_get (D := (dC, dI)) (ci := 13) (v := .int 3) (C := RX13) (T := TX13) (N := 75) hx hb hG zuX13 hown hK hP 0 rfl rfl 1 (by decide) (hG _ zw303) (fun _ h9 => h9) rfl dX13_lay_22 ?_
  refine lv_iconst (v := 1) hx hb dX13_lay_25 (by decide) ?_
  refine lv_iadd hx hb dX13_lay_26 ?_
  refine lv_topi (fun z_3101 e_z_3101 => ?_)
  obtain rfl : z_3101 = (4 : Int32) := e_z_3101.trans (by decide)
  refine va_put (D := (dC, dI)) (ci := 13) (v := .int 4) (ty := .int) (C := RX13) (T := TX13) (N := 75) hx hb hG zuX13 tyX13 tyX13_ok nmX13 hown hK hP hD hS 0 rfl rfl 1 (by decide) (hG _ zw303) (fun _ h9 => h9) rfl (by decide +kernel) rfl rfl (Nat.le_of_ble_eq_true rfl) dX13_lay_27 (fun H locs hP hD hS => ?_)
  have hP : va_P (dC, dI) vwCl [(h0, .inr (13, [.ref h1, .int 4, .ref u0, .ref u1, .int 0, .ref u2, .ref u3, .ref u4, .ref u5, .ref u6, .ref u7, .ref u8, .ref u9, .int 0, .ref u10, .ref u11, .int 0, .ref u12, .int (-1), .ref u13, .int 0, .int 0, .ref u14, .int 0, .int 0, .ref u15, .ref u16, .ref u17, .ref u18, .ref u19, .int 0, .ref u20, .int 0, .int 0, .int 0, .int 0, .int 0, .int 0, .ref u21, .ref u22, .ref u23, .ref u24, .int 0, .ref u25, .ref u26, .ref u27, .ref u28, .int 0, .ref u29, .ref u30, .int 0, .int 0, .ref u31, .int 0, .int 0, .int 0, .ref u32, .ref u33, .ref u34, .int 0, .int 0, .ref u35, .ref u36, .ref u37, .ref u38, .ref u39, .ref u40, .ref u41, .ref u42, .ref u43, .ref u44, .int 0, .ref u45, .ref u46, .ref u47])), (h1, .inl (k1, 600, .inl f_3100))] H := hP
  have hD : va_D A [(h0, .inr (13, [.ref h1, .int 4, .ref u0, .ref u1, .int 0, .ref u2, .ref u3, .ref u4, .ref u5, .ref u6, .ref u7, .ref u8, .ref u9, .int 0, .ref u10, .ref u11, .int 0, .ref u12, .int (-1), .ref u13, .int 0, .int 0, .ref u14, .int 0, .int 0, .ref u15, .ref u16, .ref u17, .ref u18, .ref u19, .int 0, .ref u20, .int 0, .int 0, .int 0, .int 0, .int 0, .int 0, .ref u21, .ref u22, .ref u23, .ref u24, .int 0, .ref u25, .ref u26, .ref u27, .ref u28, .int 0, .ref u29, .ref u30, .int 0, .int 0, .ref u31, .int 0, .int 0, .int 0, .ref u32, .ref u33, .ref u34, .int 0, .int 0, .ref u35, .ref u36, .ref u37, .ref u38, .ref u39, .ref u40, .ref u41, .ref u42, .ref u43, .ref u44, .int 0, .ref u45, .ref u46, .ref u47])), (h1, .inl (k1, 600, .inl f_3100))] := hD
  refine lv_iinc (v := (-8)) (lv' := [(2, .int (-8)), (0, .ref h0), (1, .int s0)]) hx hb dX13_lay_30 hl (k := 0) rfl (by decide) (by decide) rfl (fun ls hl => ?_)
  refine lv_goto (tgt := 3) hx hb dX13_lay_33 (by decide) ?_
  refine lv_iload_n hx hb dX13_lay_3 rfl (lv_at hl 0 rfl) ?_
  refine lv_if_lt (tgt := 36) hx hb dX13_lay_4 (by decide) (fun c_3102 => ?_) (fun c_3102 => absurd c_3102 (by decide))
  have hP9 := hP.sub (ws' := [(h0, .inr (13, [.ref h1, .int 4, .ref u0, .ref u1, .int 0, .ref u2, .ref u3, .ref u4, .ref u5, .ref u6, .ref u7, .ref u8, .ref u9, .int 0, .ref u10, .ref u11, .int 0, .ref u12, .int (-1), .ref u13, .int 0, .int 0, .ref u14, .int 0, .int 0, .ref u15, .ref u16, .ref u17, .ref u18, .ref u19, .int 0, .ref u20, .int 0, .int 0, .int 0, .int 0, .int 0, .int 0, .ref u21, .ref u22, .ref u23, .ref u24, .int 0, .ref u25, .ref u26, .ref u27, .ref u28, .int 0, .ref u29, .ref u30, .int 0, .int 0, .ref u31, .int 0, .int 0, .int 0, .ref u32, .ref u33, .ref u34, .int 0, .int 0, .ref u35, .ref u36, .ref u37, .ref u38, .ref u39, .ref u40, .ref u41, .ref u42, .ref u43, .ref u44, .int 0, .ref u45, .ref u46, .ref u47])), (h1, .inl (k1, 600, .inl f_3100))]) [0, 1] rfl
  have hD9 := hD.sub (ws' := [(h0, .inr (13, [.ref h1, .int 4, .ref u0, .ref u1, .int 0, .ref u2, .ref u3, .ref u4, .ref u5, .ref u6, .ref u7, .ref u8, .ref u9, .int 0, .ref u10, .ref u11, .int 0, .ref u12, .int (-1), .ref u13, .int 0, .int 0, .ref u14, .int 0, .int 0, .ref u15, .ref u16, .ref u17, .ref u18, .ref u19, .int 0, .ref u20, .int 0, .int 0, .int 0, .int 0, .int 0, .int 0, .ref u21, .ref u22, .ref u23, .ref u24, .int 0, .ref u25, .ref u26, .ref u27, .ref u28, .int 0, .ref u29, .ref u30, .int 0, .int 0, .ref u31, .int 0, .int 0, .int 0, .ref u32, .ref u33, .ref u34, .int 0, .int 0, .ref u35, .ref u36, .ref u37, .ref u38, .ref u39, .ref u40, .ref u41, .ref u42, .ref u43, .ref u44, .int 0, .ref u45, .ref u46, .ref u47])), (h1, .inl (k1, 600, .inl f_3100))]) [0, 1] (by decide) rfl
  have hK9 := hK.sub (tys' := [(k1, .byte)]) [0] rfl
  refine W.widen (k := 0) (n := 0) (by decide) (by decide) ?_
  exact W.vret hx hb hr (fun t ht hW => ⟨⟨(), rfl, trivial, f_3100, by rw [ht]; exact hP9, va_K.moved hW.alike hK9, hD9⟩, hS.F ht⟩) hS.2.2 dX13_lay_36
set_option maxHeartbeats 4000000 in
set_option maxRecDepth 100000 in
theorem kX13_lay_1 (l : Launch) (dC : Nat → ClassId) (dI : Nat → Nat → Nat) (h0 h1 u0 u1 u2 u3 u4 u5 u6 u7 u8 u9 u10 u11 u12 u13 u14 u15 u16 u17 u18 u19 u20 u21 u22 u23 u24 u25 u26 u27 u28 u29 u30 u31 u32 u33 u34 u35 u36 u37 u38 u39 u40 u41 u42 u43 u44 u45 u46 u47 : Nat) (k1 : ClassId) (sz : Nat) (s0 : Int32) (s1 : Nat → Int32) : Met l yX13_lay (zw yX13_lay cX13_lay 3 none) { frames := 0, cells := 0, slots := 0, locals := 0 } (zPc dC dI [.ref h0, .int s0] sz [(h0, .inr (13, [.ref h1, .int 4, .ref u0, .ref u1, .int 0, .ref u2, .ref u3, .ref u4, .ref u5, .ref u6, .ref u7, .ref u8, .ref u9, .int 0, .ref u10, .ref u11, .int 0, .ref u12, .int (-1), .ref u13, .int 0, .int 0, .ref u14, .int 0, .int 0, .ref u15, .ref u16, .ref u17, .ref u18, .ref u19, .int 0, .ref u20, .int 0, .int 0, .int 0, .int 0, .int 0, .int 0, .ref u21, .ref u22, .ref u23, .ref u24, .int 0, .ref u25, .ref u26, .ref u27, .ref u28, .int 0, .ref u29, .ref u30, .int 0, .int 0, .ref u31, .int 0, .int 0, .int 0, .ref u32, .ref u33, .ref u34, .int 0, .int 0, .ref u35, .ref u36, .ref u37, .ref u38, .ref u39, .ref u40, .ref u41, .ref u42, .ref u43, .ref u44, .int 0, .ref u45, .ref u46, .ref u47])), (h1, .inl (k1, 600, .inl s1))] [(k1, .byte)]) (va_Qv (fun _ : Unit => True) (fun (_ : Unit) (t : State) => ∃ (f0 : Nat → Int32), va_P (dC, dI) vwCl [(h0, .inr (13, [.ref h1, .int 8, .ref u0, .ref u1, .int 0, .ref u2, .ref u3, .ref u4, .ref u5, .ref u6, .ref u7, .ref u8, .ref u9, .int 0, .ref u10, .ref u11, .int 0, .ref u12, .int (-1), .ref u13, .int 0, .int 0, .ref u14, .int 0, .int 0, .ref u15, .ref u16, .ref u17, .ref u18, .ref u19, .int 0, .ref u20, .int 0, .int 0, .int 0, .int 0, .int 0, .int 0, .ref u21, .ref u22, .ref u23, .ref u24, .int 0, .ref u25, .ref u26, .ref u27, .ref u28, .int 0, .ref u29, .ref u30, .int 0, .int 0, .ref u31, .int 0, .int 0, .int 0, .ref u32, .ref u33, .ref u34, .int 0, .int 0, .ref u35, .ref u36, .ref u37, .ref u38, .ref u39, .ref u40, .ref u41, .ref u42, .ref u43, .ref u44, .int 0, .ref u45, .ref u46, .ref u47])), (h1, .inl (k1, 600, .inl f0))] t.heap ∧ va_K (dC, dI) vwCl [(k1, .byte)] t ∧ va_D (va_A [(h0, .inr (13, [.ref h1, .int 4, .ref u0, .ref u1, .int 0, .ref u2, .ref u3, .ref u4, .ref u5, .ref u6, .ref u7, .ref u8, .ref u9, .int 0, .ref u10, .ref u11, .int 0, .ref u12, .int (-1), .ref u13, .int 0, .int 0, .ref u14, .int 0, .int 0, .ref u15, .ref u16, .ref u17, .ref u18, .ref u19, .int 0, .ref u20, .int 0, .int 0, .int 0, .int 0, .int 0, .int 0, .ref u21, .ref u22, .ref u23, .ref u24, .int 0, .ref u25, .ref u26, .ref u27, .ref u28, .int 0, .ref u29, .ref u30, .int 0, .int 0, .ref u31, .int 0, .int 0, .int 0, .ref u32, .ref u33, .ref u34, .int 0, .int 0, .ref u35, .ref u36, .ref u37, .ref u38, .ref u39, .ref u40, .ref u41, .ref u42, .ref u43, .ref u44, .int 0, .ref u45, .ref u46, .ref u47])), (h1, .inl (k1, 600, .inl s1))] sz) [(h0, .inr (13, [.ref h1, .int 8, .ref u0, .ref u1, .int 0, .ref u2, .ref u3, .ref u4, .ref u5, .ref u6, .ref u7, .ref u8, .ref u9, .int 0, .ref u10, .ref u11, .int 0, .ref u12, .int (-1), .ref u13, .int 0, .int 0, .ref u14, .int 0, .int 0, .ref u15, .ref u16, .ref u17, .ref u18, .ref u19, .int 0, .ref u20, .int 0, .int 0, .int 0, .int 0, .int 0, .int 0, .ref u21, .ref u22, .ref u23, .ref u24, .int 0, .ref u25, .ref u26, .ref u27, .ref u28, .int 0, .ref u29, .ref u30, .int 0, .int 0, .ref u31, .int 0, .int 0, .int 0, .ref u32, .ref u33, .ref u34, .int 0, .int 0, .ref u35, .ref u36, .ref u37, .ref u38, .ref u39, .ref u40, .ref u41, .ref u42, .ref u43, .ref u44, .int 0, .ref u45, .ref u46, .ref u47])), (h1, .inl (k1, 600, .inl f0))]) (va_A [(h0, .inr (13, [.ref h1, .int 4, .ref u0, .ref u1, .int 0, .ref u2, .ref u3, .ref u4, .ref u5, .ref u6, .ref u7, .ref u8, .ref u9, .int 0, .ref u10, .ref u11, .int 0, .ref u12, .int (-1), .ref u13, .int 0, .int 0, .ref u14, .int 0, .int 0, .ref u15, .ref u16, .ref u17, .ref u18, .ref u19, .int 0, .ref u20, .int 0, .int 0, .int 0, .int 0, .int 0, .int 0, .ref u21, .ref u22, .ref u23, .ref u24, .int 0, .ref u25, .ref u26, .ref u27, .ref u28, .int 0, .ref u29, .ref u30, .int 0, .int 0, .ref u31, .int 0, .int 0, .int 0, .ref u32, .ref u33, .ref u34, .int 0, .int 0, .ref u35, .ref u36, .ref u37, .ref u38, .ref u39, .ref u40, .ref u41, .ref u42, .ref u43, .ref u44, .int 0, .ref u45, .ref u46, .ref u47])), (h1, .inl (k1, 600, .inl s1))] sz)) 0 0 (va_A [(h0, .inr (13, [.ref h1, .int 4, .ref u0, .ref u1, .int 0, .ref u2, .ref u3, .ref u4, .ref u5, .ref u6, .ref u7, .ref u8, .ref u9, .int 0, .ref u10, .ref u11, .int 0, .ref u12, .int (-1), .ref u13, .int 0, .int 0, .ref u14, .int 0, .int 0, .ref u15, .ref u16, .ref u17, .ref u18, .ref u19, .int 0, .ref u20, .int 0, .int 0, .int 0, .int 0, .int 0, .int 0, .ref u21, .ref u22, .ref u23, .ref u24, .int 0, .ref u25, .ref u26, .ref u27, .ref u28, .int 0, .ref u29, .ref u30, .int 0, .int 0, .ref u31, .int 0, .int 0, .int 0, .ref u32, .ref u33, .ref u34, .int 0, .int 0, .ref u35, .ref u36, .ref u37, .ref u38, .ref u39, .ref u40, .ref u41, .ref u42, .ref u43, .ref u44, .int 0, .ref u45, .ref u46, .ref u47])), (h1, .inl (k1, 600, .inl s1))] sz) := by
  refine Met.ofW (cc := cX13_lay) (maxL := 3) (ret := none) (by decide) rfl ?_
  intro p e s m args below meth c s₁ B hml hv
  obtain ⟨rfl, hsz, hP, hK, hD0, hE, hZ⟩ := hv
  have hx := B.exec
  have hb := B.bytes
  have hr := B.returns
  have hG : ∀ w ∈ zG, w.before _ s = true := fun w h => atoms_spec (ws := (zw yX13_lay cX13_lay 3 none)) B.pre w (List.mem_cons_of_mem _ h)
  have hown : s.vm.findClass RX13 = some m.cls := findClass_of_methodNamed B.named
  have hlocks := B.notSynchronized
  subst hsz
  have hD := hD0.self (sz := s.heap.size)
  generalize hAe : va_A [(h0, .inr (13, [.ref h1, .int 4, .ref u0, .ref u1, .int 0, .ref u2, .ref u3, .ref u4, .ref u5, .ref u6, .ref u7, .ref u8, .ref u9, .int 0, .ref u10, .ref u11, .int 0, .ref u12, .int (-1), .ref u13, .int 0, .int 0, .ref u14, .int 0, .int 0, .ref u15, .ref u16, .ref u17, .ref u18, .ref u19, .int 0, .ref u20, .int 0, .int 0, .int 0, .int 0, .int 0, .int 0, .ref u21, .ref u22, .ref u23, .ref u24, .int 0, .ref u25, .ref u26, .ref u27, .ref u28, .int 0, .ref u29, .ref u30, .int 0, .int 0, .ref u31, .int 0, .int 0, .int 0, .ref u32, .ref u33, .ref u34, .int 0, .int 0, .ref u35, .ref u36, .ref u37, .ref u38, .ref u39, .ref u40, .ref u41, .ref u42, .ref u43, .ref u44, .int 0, .ref u45, .ref u46, .ref u47])), (h1, .inl (k1, 600, .inl s1))] s.heap.size = A at hD hZ ⊢
  have hA : ∀ q : Nat, s.heap.size ≤ q → A q := fun q h => by rw [← hAe]; exact Or.inr h
  have hS : va_S A s.heap s.heap [] := va_S.rf
  have hl := lv_entry ([.ref h0, .int s0]) (n := 3) (Nat.le_of_ble_eq_true rfl)
  rw [lg_entry_eq]
  generalize (lg_sl ([.ref h0, .int s0]) ++ List.replicate (3 - (lg_sl ([.ref h0, .int s0])).length) Slot.unset).toArray = ls at hl ⊢
  have hl : lv_has ls 3 [(0, .ref h0), (1, .int s0)] := hl
  refine lv_bipush (v := 24) hx hb dX13_lay_0 (by decide) ?_
  refine lv_istore_n (lv' := [(2, .int 24), (0, .ref h0), (1, .int s0)]) hx hb dX13_lay_2 rfl hl (by decide) rfl (fun ls hl => ?_)
  refine lv_iload_n hx hb dX13_lay_3 rfl (lv_at hl 0 rfl) ?_
  refine lv_if_lt (tgt := 36) hx hb dX13_lay_4 (by decide) (fun c_3148 => absurd c_3148 (by decide)) (fun c_3148 => ?_)
  refine lv_aload_n hx hb dX13_lay_7 rfl (lv_at hl 1 rfl) ?_
  refine va_get (D := (dC, dI)) (ci := 13) (v := .ref h1) (C := RX13) (T := TX13) (N := 75) hx hb hG zuX13 hown hK hP 0 rfl rfl 0 (by decide) (hG _ zw209) (fun _ h9 => h9) rfl dX13_lay_8 ?_
  refine lv_aload_n hx hb dX13_lay_11 rfl (lv_at hl 1 rfl) ?_
  refine va_get (D := (dC, dI)) (ci := 13) (v := .int 4) (C := RX13) (T := TX13) (N := 75) hx hb hG zuX13 hown hK hP 0 rfl rfl 1 (by decide) (hG _ zw303) (fun _ h9 => h9) rfl dX13_lay_12 ?_
  refine lv_iload_n hx hb dX13_lay_15 rfl (lv_at hl 2 rfl) ?_
  refine lv_iload_n hx hb dX13_lay_16 rfl (lv_at hl 0 rfl) ?_
  refine lv_ishr hx hb dX13_lay_17 ?_
  refine lv_topi (fun z_3149 e_z_3149 => ?_)
  refine lv_i2b hx hb dX13_lay_18 rfl ?_
  refine lv_topi (fun z_3150 e_z_3150 => ?_)
  refine va_bast hx hb hK hP hD hS 1 0 rfl rfl (zin_lit (by decide)) dX13_lay_19 (fun H locs hP hD hS => ?_)
  obtain ⟨f_3151, e_f_3151⟩ : ∃ z : Nat → Int32, z = upd s1 4 (vp_nar .byte z_3150) := ⟨_, rfl⟩
  have hP : va_P (dC, dI) vwCl [(h0, .inr (13, [.ref h1, .int 4, .ref u0, .ref u1, .int 0, .ref u2, .ref u3, .ref u4, .ref u5, .ref u6, .ref u7, .ref u8, .ref u9, .int 0, .ref u10, .ref u11, .int 0, .ref u12, .int (-1), .ref u13, .int 0, .int 0, .ref u14, .int 0, .int 0, .ref u15, .ref u16, .ref u17, .ref u18, .ref u19, .int 0, .ref u20, .int 0, .int 0, .int 0, .int 0, .int 0, .int 0, .ref u21, .ref u22, .ref u23, .ref u24, .int 0, .ref u25, .ref u26, .ref u27, .ref u28, .int 0, .ref u29, .ref u30, .int 0, .int 0, .ref u31, .int 0, .int 0, .int 0, .ref u32, .ref u33, .ref u34, .int 0, .int 0, .ref u35, .ref u36, .ref u37, .ref u38, .ref u39, .ref u40, .ref u41, .ref u42, .ref u43, .ref u44, .int 0, .ref u45, .ref u46, .ref u47])), (h1, .inl (k1, 600, .inl f_3151))] H := by rw [e_f_3151]; exact hP
  have hD : va_D A [(h0, .inr (13, [.ref h1, .int 4, .ref u0, .ref u1, .int 0, .ref u2, .ref u3, .ref u4, .ref u5, .ref u6, .ref u7, .ref u8, .ref u9, .int 0, .ref u10, .ref u11, .int 0, .ref u12, .int (-1), .ref u13, .int 0, .int 0, .ref u14, .int 0, .int 0, .ref u15, .ref u16, .ref u17, .ref u18, .ref u19, .int 0, .ref u20, .int 0, .int 0, .int 0, .int 0, .int 0, .int 0, .ref u21, .ref u22, .ref u23, .ref u24, .int 0, .ref u25, .ref u26, .ref u27, .ref u28, .int 0, .ref u29, .ref u30, .int 0, .int 0, .ref u31, .int 0, .int 0, .int 0, .ref u32, .ref u33, .ref u34, .int 0, .int 0, .ref u35, .ref u36, .ref u37, .ref u38, .ref u39, .ref u40, .ref u41, .ref u42, .ref u43, .ref u44, .int 0, .ref u45, .ref u46, .ref u47])), (h1, .inl (k1, 600, .inl f_3151))] := by rw [e_f_3151]; exact hD
  refine lv_aload_n hx hb dX13_lay_20 rfl (lv_at hl 1 rfl) ?_
  refine lv_dup hx hb dX13_lay_21 rfl ?_
  refine va_get (D := (dC, dI)) (ci := 13) (v := .int 4) (C := RX13) (T := TX13) (N := 75) hx hb hG zuX13 hown hK hP 0 rfl rfl 1 (by decide) (hG _ zw303) (fun _ h9 => h9) rfl dX13_lay_22 ?_
  refine lv_iconst (v := 1) hx hb dX13_lay_25 (by decide) ?_
  refine lv_iadd hx hb dX13_lay_26 ?_
  refine lv_topi (fun z_3152 e_z_3152 => ?_)
  obtain rfl : z_3152 = (5 : Int32) := e_z_3152.trans (by decide)
  refine va_put (D := (dC, dI)) (ci := 13) (v := .int 5) (ty := .int) (C := RX13) (T := TX13) (N := 75) hx hb hG zuX13 tyX13 tyX13_ok nmX13 hown hK hP hD hS 0 rfl rfl 1 (by decide) (hG _ zw303) (fun _ h9 => h9) rfl (by decide +kernel) rfl rfl (Nat.le_of_ble_eq_true rfl) dX13_lay_27 (fun H locs hP hD hS => ?_)
  have hP : va_P (dC, dI) vwCl [(h0, .inr (13, [.ref h1, .int 5, .ref u0, .ref u1, .int 0, .ref u2, .ref u3, .ref u4, .ref u5, .ref u6, .ref u7, .ref u8, .ref u9, .int 0, .ref u10, .ref u11, .int 0, .ref u12, .int (-1), .ref u13, .int 0, .int 0, .ref u14, .int 0, .int 0, .ref u15, .ref u16, .ref u17, .ref u18, .ref u19, .int 0, .ref u20, .int 0, .int 0, .int 0, .int 0, .int 0, .int 0, .ref u21, .ref u22, .ref u23, .ref u24, .int 0, .ref u25, .ref u26, .ref u27, .ref u28, .int 0, .ref u29, .ref u30, .int 0, .int 0, .ref u31, .int 0, .int 0, .int 0, .ref u32, .ref u33, .ref u34, .int 0, .int 0, .ref u35, .ref u36, .ref u37, .ref u38, .ref u39, .ref u40, .ref u41, .ref u42, .ref u43, .ref u44, .int 0, .ref u45, .ref u46, .ref u47])), (h1, .inl (k1, 600, .inl f_3151))] H := hP
  have hD : va_D A [(h0, .inr (13, [.ref h1, .int 5, .ref u0, .ref u1, .int 0, .ref u2, .ref u3, .ref u4, .ref u5, .ref u6, .ref u7, .ref u8, .ref u9, .int 0, .ref u10, .ref u11, .int 0, .ref u12, .int (-1), .ref u13, .int 0, .int 0, .ref u14, .int 0, .int 0, .ref u15, .ref u16, .ref u17, .ref u18, .ref u19, .int 0, .ref u20, .int 0, .int 0, .int 0, .int 0, .int 0, .int 0, .ref u21, .ref u22, .ref u23, .ref u24, .int 0, .ref u25, .ref u26, .ref u27, .ref u28, .int 0, .ref u29, .ref u30, .int 0, .int 0, .ref u31, .int 0, .int 0, .int 0, .ref u32, .ref u33, .ref u34, .int 0, .int 0, .ref u35, .ref u36, .ref u37, .ref u38, .ref u39, .ref u40, .ref u41, .ref u42, .ref u43, .ref u44, .int 0, .ref u45, .ref u46, .ref u47])), (h1, .inl (k1, 600, .inl f_3151))] := hD
  refine lv_iinc (v := 16) (lv' := [(2, .int 16), (0, .ref h0), (1, .int s0)]) hx hb dX13_lay_30 hl (k := 0) rfl (by decide) (by decide) rfl (fun ls hl => ?_)
  refine lv_goto (tgt := 3) hx hb dX13_lay_33 (by decide) ?_
  refine lv_iload_n hx hb dX13_lay_3 rfl (lv_at hl 0 rfl) ?_
  refine lv_if_lt (tgt := 36) hx hb dX13_lay_4 (by decide) (fun c_3153 => absurd c_3153 (by decide)) (fun c_3153 => ?_)
  refine lv_aload_n hx hb dX13_lay_7 rfl (lv_at hl 1 rfl) ?_
  refine va_get (D := (dC, dI)) (ci := 13) (v := .ref h1) (C := RX13) (T := TX13) (N := 75) hx hb hG zuX13 hown hK hP 0 rfl rfl 0 (by decide) (hG _ zw209) (fun _ h9 => h9) rfl dX13_lay_8 ?_
  refine lv_aload_n hx hb dX13_lay_11 rfl (lv_at hl 1 rfl) ?_
  refine va_get (D := (dC, dI)) (ci := 13) (v := .int 5) (C := RX13) (T := TX13) (N := 75) hx hb hG zuX13 hown hK hP 0 rfl rfl 1 (by decide) (hG _ zw303) (fun _ h9 => h9) rfl dX13_lay_12 ?_
  refine lv_iload_n hx hb dX13_lay_15 rfl (lv_at hl 2 rfl) ?_
  refine lv_iload_n hx hb dX13_lay_16 rfl (lv_at hl 0 rfl) ?_
  refine lv_ishr hx hb dX13_lay_17 ?_
  refine lv_topi (fun z_3154 e_z_3154 => ?_)
  refine lv_i2b hx hb dX13_lay_18 rfl ?_
  refine lv_topi (fun z_3155 e_z_3155 => ?_)
  refine va_bast hx hb hK hP hD hS 1 0 rfl rfl (zin_lit (by decide)) dX13_lay_19 (fun H locs hP hD hS => ?_)
  obtain ⟨f_3156, e_f_3156⟩ : ∃ z : Nat → Int32, z = upd f_3151 5 (vp_nar .byte z_3155) := ⟨_, rfl⟩
  have hP : va_P (dC, dI) vwCl [(h0, .inr (13, [.ref h1, .int 5, .ref u0, .ref u1, .int 0, .ref u2, .ref u3, .ref u4, .ref u5, .ref u6, .ref u7, .ref u8, .ref u9, .int 0, .ref u10, .ref u11, .int 0, .ref u12, .int (-1), .ref u13, .int 0, .int 0, .ref u14, .int 0, .int 0, .ref u15, .ref u16, .ref u17, .ref u18, .ref u19, .int 0, .ref u20, .int 0, .int 0, .int 0, .int 0, .int 0, .int 0, .ref u21, .ref u22, .ref u23, .ref u24, .int 0, .ref u25, .ref u26, .ref u27, .ref u28, .int 0, .ref u29, .ref u30, .int 0, .int 0, .ref u31, .int 0, .int 0, .int 0, .ref u32, .ref u33, .ref u34, .int 0, .int 0, .ref u35, .ref u36, .ref u37, .ref u38, .ref u39, .ref u40, .ref u41, .ref u42, .ref u43, .ref u44, .int 0, .ref u45, .ref u46, .ref u47])), (h1, .inl (k1, 600, .inl f_3156))] H := by rw [e_f_3156]; exact hP
  have hD : va_D A [(h0, .inr (13, [.ref h1, .int 5, .ref u0, .ref u1, .int 0, .ref u2, .ref u3, .ref u4, .ref u5, .ref u6, .ref u7, .ref u8, .ref u9, .int 0, .ref u10, .ref u11, .int 0, .ref u12, .int (-1), .ref u13, .int 0, .int 0, .ref u14, .int 0, .int 0, .ref u15, .ref u16, .ref u17, .ref u18, .ref u19, .int 0, .ref u20, .int 0, .int 0, .int 0, .int 0, .int 0, .int 0, .ref u21, .ref u22, .ref u23, .ref u24, .int 0, .ref u25, .ref u26, .ref u27, .ref u28, .int 0, .ref u29, .ref u30, .int 0, .int 0, .ref u31, .int 0, .int 0, .int 0, .ref u32, .ref u33, .ref u34, .int 0, .int 0, .ref u35, .ref u36, .ref u37, .ref u38, .ref u39, .ref u40, .ref u41, .ref u42, .ref u43, .ref u44, .int 0, .ref u45, .ref u46, .ref u47])), (h1, .inl (k1, 600, .inl f_3156))] := by rw [e_f_3156]; exact hD
  refine lv_aload_n hx hb dX13_lay_20 rfl (lv_at hl 1 rfl) ?_
  refine lv_dup hx hb dX13_lay_21 rfl ?_
  refine va_get (D := (dC, dI)) (ci := 13) (v := .int 5) (C := RX13) (T := TX13) (N := 75) hx hb hG zuX13 hown hK hP 0 rfl rfl 1 (by decide) (hG _ zw303) (fun _ h9 => h9) rfl dX13_lay_22 ?_
  refine lv_iconst (v := 1) hx hb dX13_lay_25 (by decide) ?_
  refine lv_iadd hx hb dX13_lay_26 ?_
  refine lv_topi (fun z_3157 e_z_3157 => ?_)
  obtain rfl : z_3157 = (6 : Int32) := e_z_3157.trans (by decide)
  refine va_put (D := (dC, dI)) (ci := 13) (v := .int 6) (ty := .int) (C := RX13) (T := TX13) (N := 75) hx hb hG zuX13 tyX13 tyX13_ok nmX13 hown hK hP hD hS 0 rfl rfl 1 (by decide) (hG _ zw303) (fun _ h9 => h9) rfl (by decide +kernel) rfl rfl (Nat.le_of_ble_eq_true rfl) dX13_lay_27 (fun H locs hP hD hS => ?_)
  have hP : va_P (dC, dI) vwCl [(h0, .inr (13, [.ref h1, .int 6, .ref u0, .ref u1, .int 0, .ref u2, .ref u3, .ref u4, .ref u5, .ref u6, .ref u7, .ref u8, .ref u9, .int 0, .ref u10, .ref u11, .int 0, .ref u12, .int (-1), .ref u13, .int 0, .int 0, .ref u14, .int 0, .int 0, .ref u15, .ref u16, .ref u17, .ref u18, .ref u19, .int 0, .ref u20, .int 0, .int 0, .int 0, .int 0, .int 0, .int 0, .ref u21, .ref u22, .ref u23, .ref u24, .int 0, .ref u25, .ref u26, .ref u27, .ref u28, .int 0, .ref u29, .ref u30, .int 0, .int 0, .ref u31, .int 0, .int 0, .int 0, .ref u32, .ref u33, .ref u34, .int 0, .int 0, .ref u35, .ref u36, .ref u37, .ref u38, .ref u39, .ref u40, .ref u41, .ref u42, .ref u43, .ref u44, .int 0, .ref u45, .ref u46, .ref u47])), (h1, .inl (k1, 600, .inl f_3156))] H := hP
  have hD : va_D A [(h0, .inr (13, [.ref h1, .int 6, .ref u0, .ref u1, .int 0, .ref u2, .ref u3, .ref u4, .ref u5, .ref u6, .ref u7, .ref u8, .ref u9, .int 0, .ref u10, .ref u11, .int 0, .ref u12, .int (-1), .ref u13, .int 0, .int 0, .ref u14, .int 0, .int 0, .ref u15, .ref u16, .ref u17, .ref u18, .ref u19, .int 0, .ref u20, .int 0, .int 0, .int 0, .int 0, .int 0, .int 0, .ref u21, .ref u22, .ref u23, .ref u24, .int 0, .ref u25, .ref u26, .ref u27, .ref u28, .int 0, .ref u29, .ref u30, .int 0, .int 0, .ref u31, .int 0, .int 0, .int 0, .ref u32, .ref u33, .ref u34, .int 0, .int 0, .ref u35, .ref u36, .ref u37, .ref u38, .ref u39, .ref u40, .ref u41, .ref u42, .ref u43, .ref u44, .int 0, .ref u45, .ref u46, .ref u47])), (h1, .inl (k1, 600, .inl f_3156))] := hD
  refine lv_iinc (v := 8) (lv' := [(2, .int 8), (0, .ref h0), (1, .int s0)]) hx hb dX13_lay_30 hl (k := 0) rfl (by decide) (by decide) rfl (fun ls hl => ?_)
  refine lv_goto (tgt := 3) hx hb dX13_lay_33 (by decide) ?_
  refine lv_iload_n hx hb dX13_lay_3 rfl (lv_at hl 0 rfl) ?_
  refine lv_if_lt (tgt := 36) hx hb dX13_lay_4 (by decide) (fun c_3158 => absurd c_3158 (by decide)) (fun c_3158 => ?_)
  refine lv_aload_n hx hb dX13_lay_7 rfl (lv_at hl 1 rfl) ?_
  refine va_get (D := (dC, dI)) (ci := 13) (v := .ref h1) (C := RX13) (T := TX13) (N := 75) hx hb hG zuX13 hown hK hP 0 rfl rfl 0 (by decide) (hG _ zw209) (fun _ h9 => h9) rfl dX13_lay_8 ?_
  refine lv_aload_n hx hb dX13_lay_11 rfl (lv_at hl 1 rfl) ?_
  refine va_get (D := (dC, dI)) (ci := 13) (v := .int 6) (C := RX13) (T := TX13) (N := 75) hx hb hG zuX13 hown hK hP 0 rfl rfl 1 (by decide) (hG _ zw303) (fun _ h9 => h9) rfl dX13_lay_12 ?_
  refine lv_iload_n hx hb dX13_lay_15 rfl (lv_at hl 2 rfl) ?_
  refine lv_iload_n hx hb dX13_lay_16 rfl (lv_at hl 0 rfl) ?_
  refine lv_ishr hx hb dX13_lay_17 ?_
  refine lv_topi (fun z_3159 e_z_3159 => ?_)
  refine lv_i2b hx hb dX13_lay_18 rfl ?_
  refine lv_topi (fun z_3160 e_z_3160 => ?_)
  refine va_bast hx hb hK hP hD hS 1 0 rfl rfl (zin_lit (by decide)) dX13_lay_19 (fun H locs hP hD hS => ?_)
  obtain ⟨f_3161, e_f_3161⟩ : ∃ z : Nat → Int32, z = upd f_3156 6 (vp_nar .byte z_3160) := ⟨_, rfl⟩
  have hP : va_P (dC, dI) vwCl [(h0, .inr (13, [.ref h1, .int 6, .ref u0, .ref u1, .int 0, .ref u2, .ref u3, .ref u4, .ref u5, .ref u6, .ref u7, .ref u8, .ref u9, .int 0, .ref u10, .ref u11, .int 0, .ref u12, .int (-1), .ref u13, .int 0, .int 0, .ref u14, .int 0, .int 0, .ref u15, .ref u16, .ref u17, .ref u18, .ref u19, .int 0, .ref u20, .int 0, .int 0, .int 0, .int 0, .int 0, .int 0, .ref u21, .ref u22, .ref u23, .ref u24, .int 0, .ref u25, .ref u26, .ref u27, .ref u28, .int 0, .ref u29, .ref u30, .int 0, .int 0, .ref u31, .int 0, .int 0, .int 0, .ref u32, .ref u33, .ref u34, .int 0, .int 0, .ref u35, .ref u36, .ref u37, .ref u38, .ref u39, .ref u40, .ref u41, .ref u42, .ref u43, .ref u44, .int 0, .ref u45, .ref u46, .ref u47])), (h1, .inl (k1, 600, .inl f_3161))] H := by rw [e_f_3161]; exact hP
  have hD : va_D A [(h0, .inr (13, [.ref h1, .int 6, .ref u0, .ref u1, .int 0, .ref u2, .ref u3, .ref u4, .ref u5, .ref u6, .ref u7, .ref u8, .ref u9, .int 0, .ref u10, .ref u11, .int 0, .ref u12, .int (-1), .ref u13, .int 0, .int 0, .ref u14, .int 0, .int 0, .ref u15, .ref u16, .ref u17, .ref u18, .ref u19, .int 0, .ref u20, .int 0, .int 0, .int 0, .int 0, .int 0, .int 0, .ref u21, .ref u22, .ref u23, .ref u24, .int 0, .ref u25, .ref u26, .ref u27, .ref u28, .int 0, .ref u29, .ref u30, .int 0, .int 0, .ref u31, .int 0, .int 0, .int 0, .ref u32, .ref u33, .ref u34, .int 0, .int 0, .ref u35, .ref u36, .ref u37, .ref u38, .ref u39, .ref u40, .ref u41, .ref u42, .ref u43, .ref u44, .int 0, .ref u45, .ref u46, .ref u47])), (h1, .inl (k1, 600, .inl f_3161))] := by rw [e_f_3161]; exact hD
  refine lv_aload_n hx hb dX13_lay_20 rfl (lv_at hl 1 rfl) ?_
  refine lv_dup hx hb dX13_lay_21 rfl ?_
  refine va_get (D := (dC, dI)) (ci := 13) (v := .int 6) (C := RX13) (T := TX13) (N := 75) hx hb hG zuX13 hown hK hP 0 rfl rfl 1 (by decide) (hG _ zw303) (fun _ h9 => h9) rfl dX13_lay_22 ?_
  refine lv_iconst (v := 1) hx hb dX13_lay_25 (by decide) ?_
  refine lv_iadd hx hb dX13_lay_26 ?_
  refine lv_topi (fun z_3162 e_z_3162 => ?_)
  obtain rfl : z_3162 = (7 : Int32) := e_z_3162.trans (by decide)
  refine va_put (D := (dC, dI)) (ci := 13) (v := .int 7) (ty := .int) (C := RX13) (T := TX13) (N := 75) hx hb hG zuX13 tyX13 tyX13_ok nmX13 hown hK hP hD hS 0 rfl rfl 1 (by decide) (hG _ zw303) (fun _ h9 => h9) rfl (by decide +kernel) rfl rfl (Nat.le_of_ble_eq_true rfl) dX13_lay_27 (fun H locs hP hD hS => ?_)
  have hP : va_P (dC, dI) vwCl [(h0, .inr (13, [.ref h1, .int 7, .ref u0, .ref u1, .int 0, .ref u2, .ref u3, .ref u4, .ref u5, .ref u6, .ref u7, .ref u8, .ref u9, .int 0, .ref u10, .ref u11, .int 0, .ref u12, .int (-1), .ref u13, .int 0, .int 0, .ref u14, .int 0, .int 0, .ref u15, .ref u16, .ref u17, .ref u18, .ref u19, .int 0, .ref u20, .int 0, .int 0, .int 0, .int 0, .int 0, .int 0, .ref u21, .ref u22, .ref u23, .ref u24, .int 0, .ref u25, .ref u26, .ref u27, .ref u28, .int 0, .ref u29, .ref u30, .int 0, .int 0, .ref u31, .int 0, .int 0, .int 0, .ref u32, .ref u33, .ref u34, .int 0, .int 0, .ref u35, .ref u36, .ref u37, .ref u38, .ref u39, .ref u40, .ref u41, .ref u42, .ref u43, .ref u44, .int 0, .ref u45, .ref u46, .ref u47])), (h1, .inl (k1, 600, .inl f_3161))] H := hP
  have hD : va_D A [(h0, .inr (13, [.ref h1, .int 7, .ref u0, .ref u1, .int 0, .ref u2, .ref u3, .ref u4, .ref u5, .ref u6, .ref u7, .ref u8, .ref u9, .int 0, .ref u10, .ref u11, .int 0, .ref u12, .int (-1), .ref u13, .int 0, .int 0, .ref u14, .int 0, .int 0, .ref u15, .ref u16, .ref u17, .ref u18, .ref u19, .int 0, .ref u20, .int 0, .int 0, .int 0, .int 0, .int 0, .int 0, .ref u21, .ref u22, .ref u23, .ref u24, .int 0, .ref u25, .ref u26, .ref u27, .ref u28, .int 0, .ref u29, .ref u30, .int 0, .int 0, .ref u31, .int 0, .int 0, .int 0, .ref u32, .ref u33, .ref u34, .int 0, .int 0, .ref u35, .ref u36, .ref u37, .ref u38, .ref u39, .ref u40, .ref u41, .ref u42, .ref u43, .ref u44, .int 0, .ref u45, .ref u46, .ref u47])), (h1, .inl (k1, 600, .inl f_3161))] := hD
  refine lv_iinc (v := 0) (lv' := [(2, .int 0), (0, .ref h0), (1, .int s0)]) hx hb dX13_lay_30 hl (k := 0) rfl (by decide) (by decide) rfl (fun ls hl => ?_)
  refine lv_goto (tgt := 3) hx hb dX13_lay_33 (by decide) ?_
  refine lv_iload_n hx hb dX13_lay_3 rfl (lv_at hl 0 rfl) ?_
  refine lv_if_lt (tgt := 36) hx hb dX13_lay_4 (by decide) (fun c_3163 => absurd c_3163 (by decide)) (fun c_3163 => ?_)
  refine lv_aload_n hx hb dX13_lay_7 rfl (lv_at hl 1 rfl) ?_
  refine va_get (D := (dC, dI)) (ci := 13) (v := .ref h1) (C := RX13) (T := TX13) (N := 75) hx hb hG zuX13 hown hK hP 0 rfl rfl 0 (by decide) (hG _ zw209) (fun _ h9 => h9) rfl dX13_lay_8 ?_
  refine lv_aload_n hx hb dX13_lay_11 rfl (lv_at hl 1 rfl) ?_
  refine va_get (D := (dC, dI)) (ci := 13) (v := .int 7) (C := RX13) (T := TX13) (N := 75) hx hb hG zuX13 hown hK hP 0 rfl rfl 1 (by decide) (hG _ zw303) (fun _ h9 => h9) rfl dX13_lay_12 ?_
  refine lv_iload_n hx hb dX13_lay_15 rfl (lv_at hl 2 rfl) ?_
  refine lv_iload_n hx hb dX13_lay_16 rfl (lv_at hl 0 rfl) ?_
  refine lv_ishr hx hb dX13_lay_17 ?_
  refine lv_topi (fun z_3164 e_z_3164 => ?_)
  refine lv_i2b hx hb dX13_lay_18 rfl ?_
  refine lv_topi (fun z_3165 e_z_3165 => ?_)
  refine va_bast hx hb hK hP hD hS 1 0 rfl rfl (zin_lit (by decide)) dX13_lay_19 (fun H locs hP hD hS => ?_)
  obtain ⟨f_3166, e_f_3166⟩ : ∃ z : Nat → Int32, z = upd f_3161 7 (vp_nar .byte z_3165) := ⟨_, rfl⟩
  have hP : va_P (dC, dI) vwCl [(h0, .inr (13, [.ref h1, .int 7, .ref u0, .ref u1, .int 0, .ref u2, .ref u3, .ref u4, .ref u5, .ref u6, .ref u7, .ref u8, .ref u9, .int 0, .ref u10, .ref u11, .int 0, .ref u12, .int (-1), .ref u13, .int 0, .int 0, .ref u14, .int 0, .int 0, .ref u15, .ref u16, .ref u17, .ref u18, .ref u19, .int 0, .ref u20, .int 0, .int 0, .int 0, .int 0, .int 0, .int 0, .ref u21, .ref u22, .ref u23, .ref u24, .int 0, .ref u25, .ref u26, .ref u27, .ref u28, .int 0, .ref u29, .ref u30, .int 0, .int 0, .ref u31, .int 0, .int 0, .int 0, .ref u32, .ref u33, .ref u34, .int 0, .int 0, .ref u35, .ref u36, .ref u37, .ref u38, .ref u39, .ref u40, .ref u41, .ref u42, .ref u43, .ref u44, .int 0, .ref u45, .ref u46, .ref u47])), (h1, .inl (k1, 600, .inl f_3166))] H := by rw [e_f_3166]; exact hP
  have hD : va_D A [(h0, .inr (13, [.ref h1, .int 7, .ref u0, .ref u1, .int 0, .ref u2, .ref u3, .ref u4, .ref u5, .ref u6, .ref u7, .ref u8, .ref u9, .int 0, .ref u10, .ref u11, .int 0, .ref u12, .int (-1), .ref u13, .int 0, .int 0, .ref u14, .int 0, .int 0, .ref u15, .ref u16, .ref u17, .ref u18, .ref u19, .int 0, .ref u20, .int 0, .int 0, .int 0, .int 0, .int 0, .int 0, .ref u21, .ref u22, .ref u23, .ref u24, .int 0, .ref u25, .ref u26, .ref u27, .ref u28, .int 0, .ref u29, .ref u30, .int 0, .int 0, .ref u31, .int 0, .int 0, .int 0, .ref u32, .ref u33, .ref u34, .int 0, .int 0, .ref u35, .ref u36, .ref u37, .ref u38, .ref u39, .ref u40, .ref u41, .ref u42, .ref u43, .ref u44, .int 0, .ref u45, .ref u46, .ref u47])), (h1, .inl (k1, 600, .inl f_3166))] := by rw [e_f_3166]; exact hD
  refine lv_aload_n hx hb dX13_lay_20 rfl (lv_at hl 1 rfl) ?_
  refine lv_dup hx hb dX13_lay_21 rfl ?_
  refine va_get (D := (dC, dI)) (ci := 13) (v := .int 7) (C := RX13) (T := TX13) (N := 75) hx hb hG zuX13 hown hK hP 0 rfl rfl 1 (by decide) (hG _ zw303) (fun _ h9 => h9) rfl dX13_lay_22 ?_
  refine lv_iconst (v := 1) hx hb dX13_lay_25 (by decide) ?_
  refine lv_iadd hx hb dX13_lay_26 ?_
  refine lv_topi (fun z_3167 e_z_3167 => ?_)
  obtain rfl : z_3167 = (8 : Int32) := e_z_3167.trans (by decide)
  refine va_put (D := (dC, dI)) (ci := 13) (v := .int 8) (ty := .int) (C := RX13) (T := TX13) (N := 75) hx hb hG zuX13 tyX13 tyX13_ok nmX13 hown hK hP hD hS 0 rfl rfl 1 (by decide) (hG _ zw303) (fun _ h9 => h9) rfl (by decide +kernel) rfl rfl (Nat.le_of_ble_eq_true rfl) dX13_lay_27 (fun H locs hP hD hS => ?_)
  have hP : va_P (dC, dI) vwCl [(h0, .inr (13, [.ref h1, .int 8, .ref u0, .ref u1, .int 0, .ref u2, .ref u3, .ref u4, .ref u5, .ref u6, .ref u7, .ref u8, .ref u9, .int 0, .ref u10, .ref u11, .int 0, .ref u12, .int (-1), .ref u13, .int 0, .int 0, .ref u14, .int 0, .int 0, .ref u15, .ref u16, .ref u17, .ref u18, .ref u19, .int 0, .ref u20, .int 0, .int 0, .int 0, .int 0, .int 0, .int 0, .ref u21, .ref u22, .ref u23, .ref u24, .int 0, .ref u25, .ref u26, .ref u27, .ref u28, .int 0, .ref u29, .ref u30, .int 0, .int 0, .ref u31, .int 0, .int 0, .int 0, .ref u32, .ref u33, .ref u34, .int 0, .int 0, .ref u35, .ref u36, .ref u37, .ref u38, .ref u39, .ref u40, .ref u41, .ref u42, .ref u43, .ref u44, .int 0, .ref u45, .ref u46, .ref u47])), (h1, .inl (k1, 600, .inl f_3166))] H := hP
  have hD : va_D A [(h0, .inr (13, [.ref h1, .int 8, .ref u0, .ref u1, .int 0, .ref u2, .ref u3, .ref u4, .ref u5, .ref u6, .ref u7, .ref u8, .ref u9, .int 0, .ref u10, .ref u11, .int 0, .ref u12, .int (-1), .ref u13, .int 0, .int 0, .ref u14, .int 0, .int 0, .ref u15, .ref u16, .ref u17, .ref u18, .ref u19, .int 0, .ref u20, .int 0, .int 0, .int 0, .int 0, .int 0, .int 0, .ref u21, .ref u22, .ref u23, .ref u24, .int 0, .ref u25, .ref u26, .ref u27, .ref u28, .int 0, .ref u29, .ref u30, .int 0, .int 0, .ref u31, .int 0, .int 0, .int 0, .ref u32, .ref u33, .ref u34, .int 0, .int 0, .ref u35, .ref u36, .ref u37, .ref u38, .ref u39, .ref u40, .ref u41, .ref u42, .ref u43, .ref u44, .int 0, .ref u45, .ref u46, .ref u47])), (h1, .inl (k1, 600, .inl f_3166))] := hD
  refine lv_iinc (v := (-8)) (lv' := [(2, .int (-8)), (0, .ref h0), (1, .int s0)]) hx hb dX13_lay_30 hl (k := 0) rfl (by decide) (by decide) rfl (fun ls hl => ?_)
  refine lv_goto (tgt := 3) hx hb dX13_lay_33 (by decide) ?_
  refine lv_iload_n hx hb dX13_lay_3 rfl (lv_at hl 0 rfl) ?_
  refine lv_if_lt (tgt := 36) hx hb dX13_lay_4 (by decide) (fun c_3168 => ?_) (fun c_3168 => absurd c_3168 (by decide))
  have hP9 := hP.sub (ws' := [(h0, .inr (13, [.ref h1, .int 8, .ref u0, .ref u1, .int 0, .ref u2, .ref u3, .ref u4, .ref u5, .ref u6, .ref u7, .ref u8, .ref u9, .int 0, .ref u10, .ref u11, .int 0, .ref u12, .int (-1), .ref u13, .int 0, .int 0, .ref u14, .int 0, .int 0, .ref u15, .ref u16, .ref u17, .ref u18, .ref u19, .int 0, .ref u20, .int 0, .int 0, .int 0, .int 0, .int 0, .int 0, .ref u21, .ref u22, .ref u23, .ref u24, .int 0, .ref u25, .ref u26, .ref u27, .ref u28, .int 0, .ref u29, .ref u30, .int 0, .int 0, .ref u31, .int 0, .int 0, .int 0, .ref u32, .ref u33, .ref u34, .int 0, .int 0, .ref u35, .ref u36, .ref u37, .ref u38, .ref u39, .ref u40, .ref u41, .ref u42, .ref u43, .ref u44, .int 0, .ref u45, .ref u46, .ref u47])), (h1, .inl (k1, 600, .inl f_3166))]) [0, 1] rfl
  have hD9 := hD.sub (ws' := [(h0, .inr (13, [.ref h1, .int 8, .ref u0, .ref u1, .int 0, .ref u2, .ref u3, .ref u4, .ref u5, .ref u6, .ref u7, .ref u8, .ref u9, .int 0, .ref u10, .ref u11, .int 0, .ref u12, .int (-1), .ref u13, .int 0, .int 0, .ref u14, .int 0, .int 0, .ref u15, .ref u16, .ref u17, .ref u18, .ref u19, .int 0, .ref u20, .int 0, .int 0, .int 0, .int 0, .int 0, .int 0, .ref u21, .ref u22, .ref u23, .ref u24, .int 0, .ref u25, .ref u26, .ref u27, .ref u28, .int 0, .ref u29, .ref u30, .int 0, .int 0, .ref u31, .int 0, .int 0, .int 0, .ref u32, .ref u33, .ref u34, .int 0, .int 0, .ref u35, .ref u36, .ref u37, .ref u38, .ref u39, .ref u40, .ref u41, .ref u42, .ref u43, .ref u44, .int 0, .ref u45, .ref u46, .ref u47])), (h1, .inl (k1, 600, .inl f_3166))]) [0, 1] (by decide) rfl
  have hK9 := hK.sub (tys' := [(k1, .byte)]) [0] rfl
  refine W.widen (k := 0) (n := 0) (by decide) (by decide) ?_
  exact W.vret hx hb hr (fun t ht hW => ⟨⟨(), rfl, trivial, f_3166, by rw [ht]; exact hP9, va_K.moved hW.alike hK9, hD9⟩, hS.F ht⟩) hS.2.2 dX13_lay_36
set_option maxHeartbeats 4000000 in
set_option maxRecDepth 100000 in
theorem kX13_lay_2 (l : Launch) (dC : Nat → ClassId) (dI : Nat → Nat → Nat) (h0 h1 u0 u1 u2 u3 u4 u5 u6 u7 u8 u9 u10 u11 u12 u13 u14 u15 u16 u17 u18 u19 u20 u21 u22 u23 u24 u25 u26 u27 u28 u29 u30 u31 u32 u33 u34 u35 u36 u37 u38 u39 u40 u41 u42 u43 u44 u45 u46 u47 : Nat) (k1 : ClassId) (sz : Nat) (s0 : Int32) (s1 : Nat → Int32) : Met l yX13_lay (zw yX13_lay cX13_lay 3 none) { frames := 0, cells := 0, slots := 0, locals := 0 } (zPc dC dI [.ref h0, .int s0] sz [(h0, .inr (13, [.ref h1, .int 8, .ref u0, .ref u1, .int 0, .ref u2, .ref u3, .ref u4, .ref u5, .ref u6, .ref u7, .ref u8, .ref u9, .int 0, .ref u10, .ref u11, .int 0, .ref u12, .int (-1), .ref u13, .int 0, .int 0, .ref u14, .int 0, .int 0, .ref u15, .ref u16, .ref u17, .ref u18, .ref u19, .int 0, .ref u20, .int 0, .int 0, .int 0, .int 0, .int 0, .int 0, .ref u21, .ref u22, .ref u23, .ref u24, .int 0, .ref u25, .ref u26, .ref u27, .ref u28, .int 0, .ref u29, .ref u30, .int 0, .int 0, .ref u31, .int 0, .int 0, .int 0, .ref u32, .ref u33, .ref u34, .int 0, .int 0, .ref u35, .ref u36, .ref u37, .ref u38, .ref u39, .ref u40, .ref u41, .ref u42, .ref u43, .ref u44, .int 0, .ref u45, .ref u46, .ref u47])), (h1, .inl (k1, 600, .inl s1))] [(k1, .byte)]) (va_Qv (fun _ : Unit => True) (fun (_ : Unit) (t : State) => ∃ (f0 : Nat → Int32), va_P (dC, dI) vwCl [(h0, .inr (13, [.ref h1, .int 12, .ref u0, .ref u1, .int 0, .ref u2, .ref u3, .ref u4, .ref u5, .ref u6, .ref u7, .ref u8, .ref u9, .int 0, .ref u10, .ref u11, .int 0, .ref u12, .int (-1), .ref u13, .int 0, .int 0, .ref u14, .int 0, .int 0, .ref u15, .ref u16, .ref u17, .ref u18, .ref u19, .int 0, .ref u20, .int 0, .int 0, .int 0, .int 0, .int 0, .int 0, .ref u21, .ref u22, .ref u23, .ref u24, .int 0, .ref u25, .ref u26, .ref u27, .ref u28, .int 0, .ref u29, .ref u30, .int 0, .int 0, .ref u31, .int 0, .int 0, .int 0, .ref u32, .ref u33, .ref u34, .int 0, .int 0, .ref u35, .ref u36, .ref u37, .ref u38, .ref u39, .ref u40, .ref u41, .ref u42, .ref u43, .ref u44, .int 0, .ref u45, .ref u46, .ref u47])), (h1, .inl (k1, 600, .inl f0))] t.heap ∧ va_K (dC, dI) vwCl [(k1, .byte)] t ∧ va_D (va_A [(h0, .inr (13, [.ref h1, .int 8, .ref u0, .ref u1, .int 0, .ref u2, .ref u3, .ref u4, .ref u5, .ref u6, .ref u7, .ref u8, .ref u9, .int 0, .ref u10, .ref u11, .int 0, .ref u12, .int (-1), .ref u13, .int 0, .int 0, .ref u14, .int 0, .int 0, .ref u15, .ref u16, .ref u17, .ref u18, .ref u19, .int 0, .ref u20, .int 0, .int 0, .int 0, .int 0, .int 0, .int 0, .ref u21, .ref u22, .ref u23, .ref u24, .int 0, .ref u25, .ref u26, .ref u27, .ref u28, .int 0, .ref u29, .ref u30, .int 0, .int 0, .ref u31, .int 0, .int 0, .int 0, .ref u32, .ref u33, .ref u34, .int 0, .int 0, .ref u35, .ref u36, .ref u37, .ref u38, .ref u39, .ref u40, .ref u41, .ref u42, .ref u43, .ref u44, .int 0, .ref u45, .ref u46, .ref u47])), (h1, .inl (k1, 600, .inl s1))] sz) [(h0, .inr (13, [.ref h1, .int 12, .ref u0, .ref u1, .int 0, .ref u2, .ref u3, .ref u4, .ref u5, .ref u6, .ref u7, .ref u8, .ref u9, .int 0, .ref u10, .ref u11, .int 0, .ref u12, .int (-1), .ref u13, .int 0, .int 0, .ref u14, .int 0, .int 0, .ref u15, .ref u16, .ref u17, .ref u18, .ref u19, .int 0, .ref u20, .int 0, .int 0, .int 0, .int 0, .int 0, .int 0, .ref u21, .ref u22, .ref u23, .ref u24, .int 0, .ref u25, .ref u26, .ref u27, .ref u28, .int 0, .ref u29, .ref u30, .int 0, .int 0, .ref u31, .int 0, .int 0, .int 0, .ref u32, .ref u33, .ref u34, .int 0, .int 0, .ref u35, .ref u36, .ref u37, .ref u38, .ref u39, .ref u40, .ref u41, .ref u42, .ref u43, .ref u44, .int 0, .ref u45, .ref u46, .ref u47])), (h1, .inl (k1, 600, .inl f0))]) (va_A [(h0, .inr (13, [.ref h1, .int 8, .ref u0, .ref u1, .int 0, .ref u2, .ref u3, .ref u4, .ref u5, .ref u6, .ref u7, .ref u8, .ref u9, .int 0, .ref u10, .ref u11, .int 0, .ref u12, .int (-1), .ref u13, .int 0, .int 0, .ref u14, .int 0, .int 0, .ref u15, .ref u16, .ref u17, .ref u18, .ref u19, .int 0, .ref u20, .int 0, .int 0, .int 0, .int 0, .int 0, .int 0, .ref u21, .ref u22, .ref u23, .ref u24, .int 0, .ref u25, .ref u26, .ref u27, .ref u28, .int 0, .ref u29, .ref u30, .int 0, .int 0, .ref u31, .int 0, .int 0, .int 0, .ref u32, .ref u33, .ref u34, .int 0, .int 0, .ref u35, .ref u36, .ref u37, .ref u38, .ref u39, .ref u40, .ref u41, .ref u42, .ref u43, .ref u44, .int 0, .ref u45, .ref u46, .ref u47])), (h1, .inl (k1, 600, .inl s1))] sz)) 0 0 (va_A [(h0, .inr (13, [.ref h1, .int 8, .ref u0, .ref u1, .int 0, .ref u2, .ref u3, .ref u4, .ref u5, .ref u6, .ref u7, .ref u8, .ref u9, .int 0, .ref u10, .ref u11, .int 0, .ref u12, .int (-1), .ref u13, .int 0, .int 0, .ref u14, .int 0, .int 0, .ref u15, .ref u16, .ref u17, .ref u18, .ref u19, .int 0, .ref u20, .int 0, .int 0, .int 0, .int 0, .int 0, .int 0, .ref u21, .ref u22, .ref u23, .ref u24, .int 0, .ref u25, .ref u26, .ref u27, .ref u28, .int 0, .ref u29, .ref u30, .int 0, .int 0, .ref u31, .int 0, .int 0, .int 0, .ref u32, .ref u33, .ref u34, .int 0, .int 0, .ref u35, .ref u36, .ref u37, .ref u38, .ref u39, .ref u40, .ref u41, .ref u42, .ref u43, .ref u44, .int 0, .ref u45, .ref u46, .ref u47])), (h1, .inl (k1, 600, .inl s1))] sz) := by
  refine Met.ofW (cc := cX13_lay) (maxL := 3) (ret := none) (by decide) rfl ?_
  intro p e s m args below meth c s₁ B hml hv
  obtain ⟨rfl, hsz, hP, hK, hD0, hE, hZ⟩ := hv
  have hx := B.exec
  have hb := B.bytes
  have hr := B.returns
  have hG : ∀ w ∈ zG, w.before _ s = true := fun w h => atoms_spec (ws := (zw yX13_lay cX13_lay 3 none)) B.pre w (List.mem_cons_of_mem _ h)
  have hown : s.vm.findClass RX13 = some m.cls := findClass_of_methodNamed B.named
  have hlocks := B.notSynchronized
  subst hsz
  have hD := hD0.self (sz := s.heap.size)
  generalize hAe : va_A [(h0, .inr (13, [.ref h1, .int 8, .ref u0, .ref u1, .int 0, .ref u2, .ref u3, .ref u4, .ref u5, .ref u6, .ref u7, .ref u8, .ref u9, .int 0, .ref u10, .ref u11, .int 0, .ref u12, .int (-1), .ref u13, .int 0, .int 0, .ref u14, .int 0, .int 0, .ref u15, .ref u16, .ref u17, .ref u18, .ref u19, .int 0, .ref u20, .int 0, .int 0, .int 0, .int 0, .int 0, .int 0, .ref u21, .ref u22, .ref u23, .ref u24, .int 0, .ref u25, .ref u26, .ref u27, .ref u28, .int 0, .ref u29, .ref u30, .int 0, .int 0, .ref u31, .int 0, .int 0, .int 0, .ref u32, .ref u33, .ref u34, .int 0, .int 0, .ref u35, .ref u36, .ref u37, .ref u38, .ref u39, .ref u40, .ref u41, .ref u42, .ref u43, .ref u44, .int 0, .ref u45, .ref u46, .ref u47])), (h1, .inl (k1, 600, .inl s1))] s.heap.size = A at hD hZ ⊢
  have hA : ∀ q : Nat, s.heap.size ≤ q → A q := fun q h => by rw [← hAe]; exact Or.inr h
  have hS : va_S A s.heap s.heap [] := va_S.rf
  have hl := lv_entry ([.ref h0, .int s0]) (n := 3) (Nat.le_of_ble_eq_true rfl)
  rw [lg_entry_eq]
  generalize (lg_sl ([.ref h0, .int s0]) ++ List.replicate (3 - (lg_sl ([.ref h0, .int s0])).length) Slot.unset).toArray = ls at hl ⊢
  have hl : lv_has ls 3 [(0, .ref h0), (1, .int s0)] := hl
  refine lv_bipush (v := 24) hx hb dX13_lay_0 (by decide) ?_
  refine lv_istore_n (lv' := [(2, .int 24), (0, .ref h0), (1, .int s0)]) hx hb dX13_lay_2 rfl hl (by decide) rfl (fun ls hl => ?_)
  refine lv_iload_n hx hb dX13_lay_3 rfl (lv_at hl 0 rfl) ?_
  refine lv_if_lt (tgt := 36) hx hb dX13_lay_4 (by decide) (fun c_3214 => absurd c_3214 (by decide)) (fun c_3214 => ?_)
  refine lv_aload_n hx hb dX13_lay_7 rfl (lv_at hl 1 rfl) ?_
  refine va_get (D := (dC, dI)) (ci := 13) (v := .ref h1) (C := RX13) (T := TX13) (N := 75) hx hb hG zuX13 hown hK hP 0 rfl rfl 0 (by decide) (hG _ zw209) (fun _ h9 => h9) rfl dX13_lay_8 ?_
  refine lv_aload_n hx hb dX13_lay_11 rfl (lv_at hl 1 rfl) ?_
  refine va_get (D := (dC, dI)) (ci := 13) (v := .int 8) (C := RX13) (T := TX13) (N := 75) hx hb hG zuX13 hown hK hP 0 rfl rfl 1 (by decide) (hG _ zw303) (fun _ h9 => h9) rfl dX13_lay_12 ?_
  refine lv_iload_n hx hb dX13_lay_15 rfl (lv_at hl 2 rfl) ?_
  refine lv_iload_n hx hb dX13_lay_16 rfl (lv_at hl 0 rfl) ?_
  refine lv_ishr hx hb dX13_lay_17 ?_
  refine lv_topi (fun z_3215 e_z_3215 => ?_)
  refine lv_i2b hx hb dX13_lay_18 rfl ?_
  refine lv_topi (fun z_3216 e_z_3216 => ?_)
  refine va_bast hx hb hK hP hD hS 1 0 rfl rfl (zin_lit (by decide)) dX13_lay_19 (fun H locs hP hD hS => ?_)
  obtain ⟨f_3217, e_f_3217⟩ : ∃ z : Nat → Int32, z = upd s1 8 (vp_nar .byte z_3216) := ⟨_, rfl⟩
  have hP : va_P (dC, dI) vwCl [(h0, .inr (13, [.ref h1, .int 8, .ref u0, .ref u1, .int 0, .ref u2, .ref u3, .ref u4, .ref u5, .ref u6, .ref u7, .ref u8, .ref u9, .int 0, .ref u10, .ref u11, .int 0, .ref u12, .int (-1), .ref u13, .int 0, .int 0, .ref u14, .int 0, .int 0, .ref u15, .ref u16, .ref u17, .ref u18, .ref u19, .int 0, .ref u20, .int 0, .int 0, .int 0, .int 0, .int 0, .int 0, .ref u21, .ref u22, .ref u23, .ref u24, .int 0, .ref u25, .ref u26, .ref u27, .ref u28, .int 0, .ref u29, .ref u30, .int 0, .int 0, .ref u31, .int 0, .int 0, .int 0, .ref u32, .ref u33, .ref u34, .int 0, .int 0, .ref u35, .ref u36, .ref u37, .ref u38, .ref u39, .ref u40, .ref u41, .ref u42, .ref u43, .ref u44, .int 0, .ref u45, .ref u46, .ref u47])), (h1, .inl (k1, 600, .inl f_3217))] H := by rw [e_f_3217]; exact hP
  have hD : va_D A [(h0, .inr (13, [.ref h1, .int 8, .ref u0, .ref u1, .int 0, .ref u2, .ref u3, .ref u4, .ref u5, .ref u6, .ref u7, .ref u8, .ref u9, .int 0, .ref u10, .ref u11, .int 0, .ref u12, .int (-1), .ref u13, .int 0, .int 0, .ref u14, .int 0, .int 0, .ref u15, .ref u16, .ref u17, .ref u18, .ref u19, .int 0, .ref u20, .int 0, .int 0, .int 0, .int 0, .int 0, .int 0, .ref u21, .ref u22, .ref u23, .ref u24, .int 0, .ref u25, .ref u26, .ref u27, .ref u28, .int 0, .ref u29, .ref u30, .int 0, .int 0, .ref u31, .int 0, .int 0, .int 0, .ref u32, .ref u33, .ref u34, .int 0, .int 0, .ref u35, .ref u36, .ref u37, .ref u38, .ref u39, .ref u40, .ref u41, .ref u42, .ref u43, .ref u44, .int 0, .ref u45, .ref u46, .ref u47])), (h1, .inl (k1, 600, .inl f_3217))] := by rw [e_f_3217]; exact hD
  refine lv_aload_n hx hb dX13_lay_20 rfl (lv_at hl 1 rfl) ?_
  refine lv_dup hx hb dX13_lay_21 rfl ?_
  refine va_get (D := (dC, dI)) (ci := 13) (v := .int 8) (C := RX13) (T := TX13) (N := 75) hx hb hG zuX13 hown hK hP 0 rfl rfl 1 (by decide) (hG _ zw303) (fun _ h9 => h9) rfl dX13_lay_22 ?_
  refine lv_iconst (v := 1) hx hb dX13_lay_25 (by decide) ?_
  refine lv_iadd hx hb dX13_lay_26 ?_
  refine lv_topi (fun z_3218 e_z_3218 => ?_)
  obtain rfl : z_3218 = (9 : Int32) := e_z_3218.trans (by decide)
  refine va_put (D := (dC, dI)) (ci := 13) (v := .int 9) (ty := .int) (C := RX13) (T := TX13) (N := 75) hx hb hG zuX13 tyX13 tyX13_ok nmX13 hown hK hP hD hS 0 rfl rfl 1 (by decide) (hG _ zw303) (fun _ h9 => h9) rfl (by decide +kernel) rfl rfl (Nat.le_of_ble_eq_true rfl) dX13_lay_27 (fun H locs hP hD hS => ?_)
  have hP : va_P (dC, dI) vwCl [(h0, .inr (13, [.ref h1, .int 9, .ref u0, .ref u1, .int 0, .ref u2, .ref u3, .ref u4, .ref u5, .ref u6, .ref u7, .ref u8, .ref u9, .int 0, .ref u10, .ref u11, .int 0, .ref u12, .int (-1), .ref u13, .int 0, .int 0, .ref u14, .int 0, .int 0, .ref u15, .ref u16, .ref u17, .ref u18, .ref u19, .int 0, .ref u20, .int 0, .int 0, .int 0, .int 0, .int 0, .int 0, .ref u21, .ref u22, .ref u23, .ref u24, .int 0, .ref u25, .ref u26, .ref u27, .ref u28, .int 0, .ref u29, .ref u30, .int 0, .int 0, .ref u31, .int 0, .int 0, .int 0, .ref u32, .ref u33, .ref u34, .int 0, .int 0, .ref u35, .ref u36, .ref u37, .ref u38, .ref u39, .ref u40, .ref u41, .ref u42, .ref u43, .ref u44, .int 0, .ref u45, .ref u46, .ref u47])), (h1, .inl (k1, 600, .inl f_3217))] H := hP
  have hD : va_D A [(h0, .inr (13, [.ref h1, .int 9, .ref u0, .ref u1, .int 0, .ref u2, .ref u3, .ref u4, .ref u5, .ref u6, .ref u7, .ref u8, .ref u9, .int 0, .ref u10, .ref u11, .int 0, .ref u12, .int (-1), .ref u13, .int 0, .int 0, .ref u14, .int 0, .int 0, .ref u15, .ref u16, .ref u17, .ref u18, .ref u19, .int 0, .ref u20, .int 0, .int 0, .int 0, .int 0, .int 0, .int 0, .ref u21, .ref u22, .ref u23, .ref u24, .int 0, .ref u25, .ref u26, .ref u27, .ref u28, .int 0, .ref u29, .ref u30, .int 0, .int 0, .ref u31, .int 0, .int 0, .int 0, .ref u32, .ref u33, .ref u34, .int 0, .int 0, .ref u35, .ref u36, .ref u37, .ref u38, .ref u39, .ref u40, .ref u41, .ref u42, .ref u43, .ref u44, .int 0, .ref u45, .ref u46, .ref u47])), (h1, .inl (k1, 600, .inl f_3217))] := hD
  refine lv_iinc (v := 16) (lv' := [(2, .int 16), (0, .ref h0), (1, .int s0)]) hx hb dX13_lay_30 hl (k := 0) rfl (by decide) (by decide) rfl (fun ls hl => ?_)
  refine lv_goto (tgt := 3) hx hb dX13_lay_33 (by decide) ?_
  refine lv_iload_n hx hb dX13_lay_3 rfl (lv_at hl 0 rfl) ?_
  refine lv_if_lt (tgt := 36) hx hb dX13_lay_4 (by decide) (fun c_3219 => absurd c_3219 (by decide)) (fun c_3219 => ?_)
  refine lv_aload_n hx hb dX13_lay_7 rfl (lv_at hl 1 rfl) ?_
  refine va_get (D := (dC, dI)) (ci := 13) (v := .ref h1) (C := RX13) (T := TX13) (N := 75) hx hb hG zuX13 hown hK hP 0 rfl rfl 0 (by decide) (hG _ zw209) (fun _ h9 => h9) rfl dX13_lay_8 ?_
  refine lv_aload_n hx hb dX13_lay_11 rfl (lv_at hl 1 rfl) ?_
  refine va_get (D := (dC, dI)) (ci := 13) (v := .int 9) (C := RX13) (T := TX13) (N := 75) hx hb hG zuX13 hown hK hP 0 rfl rfl 1 (by decide) (hG _ zw303) (fun _ h9 => h9) rfl dX13_lay_12 ?_
  refine lv_iload_n hx hb dX13_lay_15 rfl (lv_at hl 2 rfl) ?_
  refine lv_iload_n hx hb dX13_lay_16 rfl (lv_at hl 0 rfl) ?_
  refine lv_ishr hx hb dX13_lay_17 ?_
  refine lv_topi (fun z_3220 e_z_3220 => ?_)
  refine lv_i2b hx hb dX13_lay_18 rfl ?_
  refine lv_topi (fun z_3221 e_z_3221 => ?_)
  refine va_bast hx hb hK hP hD hS 1 0 rfl rfl (zin_lit (by decide)) dX13_lay_19 (fun H locs hP hD hS => ?_)
  obtain ⟨f_3222, e_f_3222⟩ : ∃ z : Nat → Int32, z = upd f_3217 9 (vp_nar .byte z_3221) := ⟨_, rfl⟩
  have hP : va_P (dC, dI) vwCl [(h0, .inr (13, [.ref h1, .int 9, .ref u0, .ref u1, .int 0, .ref u2, .ref u3, .ref u4, .ref u5, .ref u6, .ref u7, .ref u8, .ref u9, .int 0, .ref u10, .ref u11, .int 0, .ref u12, .int (-1), .ref u13, .int 0, .int 0, .ref u14, .int 0, .int 0, .ref u15, .ref u16, .ref u17, .ref u18, .ref u19, .int 0, .ref u20, .int 0, .int 0, .int 0, .int 0, .int 0, .int 0, .ref u21, .ref u22, .ref u23, .ref u24, .int 0, .ref u25, .ref u26, .ref u27, .ref u28, .int 0, .ref u29, .ref u30, .int 0, .int 0, .ref u31, .int 0, .int 0, .int 0, .ref u32, .ref u33, .ref u34, .int 0, .int 0, .ref u35, .ref u36, .ref u37, .ref u38, .ref u39, .ref u40, .ref u41, .ref u42, .ref u43, .ref u44, .int 0, .ref u45, .ref u46, .ref u47])), (h1, .inl (k1, 600, .inl f_3222))] H := by rw [e_f_3222]; exact hP
  have hD : va_D A [(h0, .inr (13, [.ref h1, .int 9, .ref u0, .ref u1, .int 0, .ref u2, .ref u3, .ref u4, .ref u5, .ref u6, .ref u7, .ref u8, .ref u9, .int 0, .ref u10, .ref u11, .int 0, .ref u12, .int (-1), .ref u13, .int 0, .int 0, .ref u14, .int 0, .int 0, .ref u15, .ref u16, .ref u17, .ref u18, .ref u19, .int 0, .ref u20, .int 0, .int 0, .int 0, .int 0, .int 0, .int 0, .ref u21, .ref u22, .ref u23, .ref u24, .int 0, .ref u25, .ref u26, .ref u27, .ref u28, .int 0, .ref u29, .ref u30, .int 0, .int 0, .ref u31, .int 0, .int 0, .int 0, .ref u32, .ref u33, .ref u34, .int 0, .int 0, .ref u35, .ref u36, .ref u37, .ref u38, .ref u39, .ref u40, .ref u41, .ref u42, .ref u43, .ref u44, .int 0, .ref u45, .ref u46, .ref u47])), (h1, .inl (k1, 600, .inl f_3222))] := by rw [e_f_3222]; exact hD
  refine lv_aload_n hx hb dX13_lay_20 rfl (lv_at hl 1 rfl) ?_
  refine lv_dup hx hb dX13_lay_21 rfl ?_
  refine va_get (D := (dC, dI)) (ci := 13) (v := .int 9) (C := RX13) (T := TX13) (N := 75) hx hb hG zuX13 hown hK hP 0 rfl rfl 1 (by decide) (hG _ zw303) (fun _ h9 => h9) rfl dX13_lay_22 ?_
  refine lv_iconst (v := 1) hx hb dX13_lay_25 (by decide) ?_
  refine lv_iadd hx hb dX13_lay_26 ?_
  refine lv_topi (fun z_3223 e_z_3223 => ?_)
  obtain rfl : z_3223 = (10 : Int32) := e_z_3223.trans (by decide)
  refine va_put (D := (dC, dI)) (ci := 13) (v := .int 10) (ty := .int) (C := RX13) (T := TX13) (N := 75) hx hb hG zuX13 tyX13 tyX13_ok nmX13 hown hK hP hD hS 0 rfl rfl 1 (by decide) (hG _ zw303) (fun _ h9 => h9) rfl (by decide +kernel) rfl rfl (Nat.le_of_ble_eq_true rfl) dX13_lay_27 (fun H locs hP hD hS => ?_)
  have hP : va_P (dC, dI) vwCl [(h0, .inr (13, [.ref h1, .int 10, .ref u0, .ref u1, .int 0, .ref u2, .ref u3, .ref u4, .ref u5, .ref u6, .ref u7, .ref u8, .ref u9, .int 0, .ref u10, .ref u11, .int 0, .ref u12, .int (-1), .ref u13, .int 0, .int 0, .ref u14, .int 0, .int 0, .ref u15, .ref u16, .ref u17, .ref u18, .ref u19, .int 0, .ref u20, .int 0, .int 0, .int 0, .int 0, .int 0, .int 0, .ref u21, .ref u22, .ref u23, .ref u24, .int 0, .ref u25, .ref u26, .ref u27, .ref u28, .int 0, .ref u29, .ref u30, .int 0, .int 0, .ref u31, .int 0, .int 0, .int 0, .ref u32, .ref u33, .ref u34, .int 0, .int 0, .ref u35, .ref u36, .ref u37, .ref u38, .ref u39, .ref u40, .ref u41, .ref u42, .ref u43, .ref u44, .int 0, .ref u45, .ref u46, .ref u47])), (h1, .inl (k1, 600, .inl f_3222))] H := hP
  have hD : va_D A [(h0, .inr (13, [.ref h1, .int 10, .ref u0, .ref u1, .int 0, .ref u2, .ref u3, .ref u4, .ref u5, .ref u6, .ref u7, .ref u8, .ref u9, .int 0, .ref u10, .ref u11, .int 0, .ref u12, .int (-1), .ref u13, .int 0, .int 0, .ref u14, .int 0, .int 0, .ref u15, .ref u16, .ref u17, .ref u18, .ref u19, .int 0, .ref u20, .int 0, .int 0, .int 0, .int 0, .int 0, .int 0, .ref u21, .ref u22, .ref u23, .ref u24, .int 0, .ref u25, .ref u26, .ref u27, .ref u28, .int 0, .ref u29, .ref u30, .int 0, .int 0, .ref u31, .int 0, .int 0, .int 0, .ref u32, .ref u33, .ref u34, .int 0, .int 0, .ref u35, .ref u36, .ref u37, .ref u38, .ref u39, .ref u40, .ref u41, .ref u42, .ref u43, .ref u44, .int 0, .ref u45, .ref u46, .ref u47])), (h1, .inl (k1, 600, .inl f_3222))] := hD
  refine lv_iinc (v := 8) (lv' := [(2, .int 8), (0, .ref h0), (1, .int s0)]) hx hb dX13_lay_30 hl (k := 0) rfl (by decide) (by decide) rfl (fun ls hl => ?_)
  refine lv_goto (tgt := 3) hx hb dX13_lay_33 (by decide) ?_
  refine lv_iload_n hx hb dX13_lay_3 rfl (lv_at hl 0 rfl) ?_
  refine lv_if_lt (tgt := 36) hx hb dX13_lay_4 (by decide) (fun c_3224 => absurd c_3224 (by decide)) (fun c_3224 => ?_)
  refine lv_aload_n hx hb dX13_lay_7 rfl (lv_at hl 1 rfl) ?_
  refine va_get (D := (dC, dI)) (ci := 13) (v := .ref h1) (C := RX13) (T := TX13) (N := 75) hx hb hG zuX13 hown hK hP 0 rfl rfl 0 (by decide) (hG _ zw209) (fun _ h9 => h9) rfl dX13_lay_8 ?_
  refine lv_aload_n hx hb dX13_lay_11 rfl (lv_at hl 1 rfl) ?_
  refine va_get (D := (dC, dI)) (ci := 13) (v := .int 10) (C := RX13) (T := TX13) (N := 75) hx hb hG zuX13 hown hK hP 0 rfl rfl 1 (by decide) (hG _ zw303) (fun _ h9 => h9) rfl dX13_lay_12 ?_
  refine lv_iload_n hx hb dX13_lay_15 rfl (lv_at hl 2 rfl) ?_
  refine lv_iload_n hx hb dX13_lay_16 rfl (lv_at hl 0 rfl) ?_
  refine lv_ishr hx hb dX13_lay_17 ?_
  refine lv_topi (fun z_3225 e_z_3225 => ?_)
  refine lv_i2b hx hb dX13_lay_18 rfl ?_
  refine lv_topi (fun z_3226 e_z_3226 => ?_)
  refine va_bast hx hb hK hP hD hS 1 0 rfl rfl (zin_lit (by decide)) dX13_lay_19 (fun H locs hP hD hS => ?_)
  obtain ⟨f_3227, e_f_3227⟩ : ∃ z : Nat → Int32, z = upd f_3222 10 (vp_nar .byte z_3226) := ⟨_, rfl⟩
  have hP : va_P (dC, dI) vwCl [(h0, .inr (13, [.ref h1, .int 10, .ref u0, .ref u1, .int 0, .ref u2, .ref u3, .ref u4, .ref u5, .ref u6, .ref u7, .ref u8, .ref u9, .int 0, .ref u10, .ref u11, .int 0, .ref u12, .int (-1), .ref u13, .int 0, .int 0, .ref u14, .int 0, .int 0, .ref u15, .ref u16, .ref u17, .ref u18, .ref u19, .int 0, .ref u20, .int 0, .int 0, .int 0, .int 0, .int 0, .int 0, .ref u21, .ref u22, .ref u23, .ref u24, .int 0, .ref u25, .ref u26, .ref u27, .ref u28, .int 0, .ref u29, .ref u30, .int 0, .int 0, .ref u31, .int 0, .int 0, .int 0, .ref u32, .ref u33, .ref u34, .int 0, .int 0, .ref u35, .ref u36, .ref u37, .ref u38, .ref u39, .ref u40, .ref u41, .ref u42, .ref u43, .ref u44, .int 0, .ref u45, .ref u46, .ref u47])), (h1, .inl (k1, 600, .inl f_3227))] H := by rw [e_f_3227]; exact hP
  have hD : va_D A [(h0, .inr (13, [.ref h1, .int 10, .ref u0, .ref u1, .int 0, .ref u2, .ref u3, .ref u4, .ref u5, .ref u6, .ref u7, .ref u8, .ref u9, .int 0, .ref u10, .ref u11, .int 0, .ref u12, .int (-1), .ref u13, .int 0, .int 0, .ref u14, .int 0, .int 0, .ref u15, .ref u16, .ref u17, .ref u18, .ref u19, .int 0, .ref u20, .int 0, .int 0, .int 0, .int 0, .int 0, .int 0, .ref u21, .ref u22, .ref u23, .ref u24, .int 0, .ref u25, .ref u26, .ref u27, .ref u28, .int 0, .ref u29, .ref u30, .int 0, .int 0, .ref u31, .int 0, .int 0, .int 0, .ref u32, .ref u33, .ref u34, .int 0, .int 0, .ref u35, .ref u36, .ref u37, .ref u38, .ref u39, .ref u40, .ref u41, .ref u42, .ref u43, .ref u44, .int 0, .ref u45, .ref u46, .ref u47])), (h1, .inl (k1, 600, .inl f_3227))] := by rw [e_f_3227]; exact hD
  refine lv_aload_n hx hb dX13_lay_20 rfl (lv_at hl 1 rfl) ?_
  refine lv_dup hx hb dX13_lay_21 rfl ?_
  refine va_get (D := (dC, dI)) (ci := 13) (v := .int 10) (C := RX13) (T := TX13) (N := 75) hx hb hG zuX13 hown hK hP 0 rfl rfl 1 (by decide) (hG _ zw303) (fun _ h9 => h9) rfl dX13_lay_22 ?_
  refine lv_iconst (v := 1) hx hb dX13_lay_25 (by decide) ?_
  refine lv_iadd hx hb dX13_lay_26 ?_
  refine lv_topi (fun z_3228 e_z_3228 => ?_)
  obtain rfl : z_3228 = (11 : Int32) := e_z_3228.trans (by decide)
  refine va_put (D := (dC, dI)) (ci := 13) (v := .int 11) (ty := .int) (C := RX13) (T := TX13) (N := 75) hx hb hG zuX13 tyX13 tyX13_ok nmX13 hown hK hP hD hS 0 rfl rfl 1 (by decide) (hG _ zw303) (fun _ h9 => h9) rfl (by decide +kernel) rfl rfl (Nat.le_of_ble_eq_true rfl) dX13_lay_27 (fun H locs hP hD hS => ?_)
  have hP : va_P (dC, dI) vwCl [(h0, .inr (13, [.ref h1, .int 11, .ref u0, .ref u1, .int 0, .ref u2, .ref u3, .ref u4, .ref u5, .ref u6, .ref u7, .ref u8, .ref u9, .int 0, .ref u10, .ref u11, .int 0, .ref u12, .int (-1), .ref u13, .int 0, .int 0, .ref u14, .int 0, .int 0, .ref u15, .ref u16, .ref u17, .ref u18, .ref u19, .int 0, .ref u20, .int 0, .int 0, .int 0, .int 0, .int 0, .int 0, .ref u21, .ref u22, .ref u23, .ref u24, .int 0, .ref u25, .ref u26, .ref u27, .ref u28, .int 0, .ref u29, .ref u30, .int 0, .int 0, .ref u31, .int 0, .int 0, .int 0, .ref u32, .ref u33, .ref u34, .int 0, .int 0, .ref u35, .ref u36, .ref u37, .ref u38, .ref u39, .ref u40, .ref u41, .ref u42, .ref u43, .ref u44, .int 0, .ref u45, .ref u46, .ref u47])), (h1, .inl (k1, 600, .inl f_3227))] H := hP
  have hD : va_D A [(h0, .inr (13, [.ref h1, .int 11, .ref u0, .ref u1, .int 0, .ref u2, .ref u3, .ref u4, .ref u5, .ref u6, .ref u7, .ref u8, .ref u9, .int 0, .ref u10, .ref u11, .int 0, .ref u12, .int (-1), .ref u13, .int 0, .int 0, .ref u14, .int 0, .int 0, .ref u15, .ref u16, .ref u17, .ref u18, .ref u19, .int 0, .ref u20, .int 0, .int 0, .int 0, .int 0, .int 0, .int 0, .ref u21, .ref u22, .ref u23, .ref u24, .int 0, .ref u25, .ref u26, .ref u27, .ref u28, .int 0, .ref u29, .ref u30, .int 0, .int 0, .ref u31, .int 0, .int 0, .int 0, .ref u32, .ref u33, .ref u34, .int 0, .int 0, .ref u35, .ref u36, .ref u37, .ref u38, .ref u39, .ref u40, .ref u41, .ref u42, .ref u43, .ref u44, .int 0, .ref u45, .ref u46, .ref u47])), (h1, .inl (k1, 600, .inl f_3227))] := hD
  refine lv_iinc (v := 0) (lv' := [(2, .int 0), (0, .ref h0), (1, .int s0)]) hx hb dX13_lay_30 hl (k := 0) rfl (by decide) (by decide) rfl (fun ls hl => ?_)
  refine lv_goto (tgt := 3) hx hb dX13_lay_33 (by decide) ?_
  refine lv_iload_n hx hb dX13_lay_3 rfl (lv_at hl 0 rfl) ?_
  refine lv_if_lt (tgt := 36) hx hb dX13_lay_4 (by decide) (fun c_3229 => absurd c_3229 (by decide)) (fun c_3229 => ?_)
  refine lv_aload_n hx hb dX13_lay_7 rfl (lv_at hl 1 rfl) ?_
  refine va_get (D := (dC, dI)) (ci := 13) (v := .ref h1) (C := RX13) (T := TX13) (N := 75) hx hb hG zuX13 hown hK hP 0 rfl rfl 0 (by decide) (hG _ zw209) (fun _ h9 => h9) rfl dX13_lay_8 ?_
  refine lv_aload_n hx hb dX13_lay_11 rfl (lv_at hl 1 rfl) ?_
  refine va_get (D := (dC, dI)) (ci := 13) (v := .int 11) (C := RX13) (T := TX13) (N := 75) hx hb hG zuX13 hown hK hP 0 rfl rfl 1 (by decide) (hG _ zw303) (fun _ h9 => h9) rfl dX13_lay_12 ?_
  refine lv_iload_n hx hb dX13_lay_15 rfl (lv_at hl 2 rfl) ?_
  refine lv_iload_n hx hb dX13_lay_16 rfl (lv_at hl 0 rfl) ?_
  refine lv_ishr hx hb dX13_lay_17 ?_
  refine lv_topi (fun z_3230 e_z_3230 => ?_)
  refine lv_i2b hx hb dX13_lay_18 rfl ?_
  refine lv_topi (fun z_3231 e_z_3231 => ?_)
  refine va_bast hx hb hK hP hD hS 1 0 rfl rfl (zin_lit (by decide)) dX13_lay_19 (fun H locs hP hD hS => ?_)
  obtain ⟨f_3232, e_f_3232⟩ : ∃ z : Nat → Int32, z = upd f_3227 11 (vp_nar .byte z_3231) := ⟨_, rfl⟩
  have hP : va_P (dC, dI) vwCl [(h0, .inr (13, [.ref h1, .int 11, .ref u0, .ref u1, .int 0, .ref u2, .ref u3, .ref u4, .ref u5, .ref u6, .ref u7, .ref u8, .ref u9, .int 0, .ref u10, .ref u11, .int 0, .ref u12, .int (-1), .ref u13, .int 0, .int 0, .ref u14, .int 0, .int 0, .ref u15, .ref u16, .ref u17, .ref u18, .ref u19, .int 0, .ref u20, .int 0, .int 0, .int 0, .int 0, .int 0, .int 0, .ref u21, .ref u22, .ref u23, .ref u24, .int 0, .ref u25, .ref u26, .ref u27, .ref u28, .int 0, .ref u29, .ref u30, .int 0, .int 0, .ref u31, .int 0, .int 0, .int 0, .ref u32, .ref u33, .ref u34, .int 0, .int 0, .ref u35, .ref u36, .ref u37, .ref u38, .ref u39, .ref u40, .ref u41, .ref u42, .ref u43, .ref u44, .int 0, .ref u45, .ref u46, .ref u47])), (h1, .inl (k1, 600, .inl f_3232))] H := by rw [e_f_3232]; exact hP
  have hD : va_D A [(h0, .inr (13, [.ref h1, .int 11, .ref u0, .ref u1, .int 0, .ref u2, .ref u3, .ref u4, .ref u5, .ref u6, .ref u7, .ref u8, .ref u9, .int 0, .ref u10, .ref u11, .int 0, .ref u12, .int (-1), .ref u13, .int 0, .int 0, .ref u14, .int 0, .int 0, .ref u15, .ref u16, .ref u17, .ref u18, .ref u19, .int 0, .ref u20, .int 0, .int 0, .int 0, .int 0, .int 0, .int 0, .ref u21, .ref u22, .ref u23, .ref u24, .int 0, .ref u25, .ref u26, .ref u27, .ref u28, .int 0, .ref u29, .ref u30, .int 0, .int 0, .ref u31, .int 0, .int 0, .int 0, .ref u32, .ref u33, .ref u34, .int 0, .int 0, .ref u35, .ref u36, .ref u37, .ref u38, .ref u39, .ref u40, .ref u41, .ref u42, .ref u43, .ref u44, .int 0, .ref u45, .ref u46, .ref u47])), (h1, .inl (k1, 600, .inl f_3232))] := by rw [e_f_3232]; exact hD
  refine lv_aload_n hx hb dX13_lay_20 rfl (lv_at hl 1 rfl) ?_
  refine lv_dup hx hb dX13_lay_21 rfl ?_
  refine va_get (D := (dC, dI)) (ci := 13) (v := .int 11) (C := RX13) (T := TX13) (N := 75) hx hb hG zuX13 hown hK hP 0 rfl rfl 1 (by decide) (hG _ zw303) (fun _ h9 => h9) rfl dX13_lay_22 ?_
  refine lv_iconst (v := 1) hx hb dX13_lay_25 (by decide) ?_
  refine lv_iadd hx hb dX13_lay_26 ?_
  refine lv_topi (fun z_3233 e_z_3233 => ?_)
  obtain rfl : z_3233 = (12 : Int32) := e_z_3233.trans (by decide)
  refine va_put (D := (dC, dI)) (ci := 13) (v := .int 12) (ty := .int) (C := RX13) (T := TX13) (N := 75) hx hb hG zuX13 tyX13 tyX13_ok nmX13 hown hK hP hD hS 0 rfl rfl 1 (by decide) (hG _ zw303) (fun _ h9 => h9) rfl (by decide +kernel) rfl rfl (Nat.le_of_ble_eq_true rfl) dX13_lay_27 (fun H locs hP hD hS => ?_)
  have hP : va_P (dC, dI) vwCl [(h0, .inr (13, [.ref h1, .int 12, .ref u0, .ref u1, .int 0, .ref u2, .ref u3, .ref u4, .ref u5, .ref u6, .ref u7, .ref u8, .ref u9, .int 0, .ref u10, .ref u11, .int 0, .ref u12, .int (-1), .ref u13, .int 0, .int 0, .ref u14, .int 0, .int 0, .ref u15, .ref u16, .ref u17, .ref u18, .ref u19, .int 0, .ref u20, .int 0, .int 0, .int 0, .int 0, .int 0, .int 0, .ref u21, .ref u22, .ref u23, .ref u24, .int 0, .ref u25, .ref u26, .ref u27, .ref u28, .int 0, .ref u29, .ref u30, .int 0, .int 0, .ref u31, .int 0, .int 0, .int 0, .ref u32, .ref u33, .ref u34, .int 0, .int 0, .ref u35, .ref u36, .ref u37, .ref u38, .ref u39, .ref u40, .ref u41, .ref u42, .ref u43, .ref u44, .int 0, .ref u45, .ref u46, .ref u47])), (h1, .inl (k1, 600, .inl f_3232))] H := hP
  have hD : va_D A [(h0, .inr (13, [.ref h1, .int 12, .ref u0, .ref u1, .int 0, .ref u2, .ref u3, .ref u4, .ref u5, .ref u6, .ref u7, .ref u8, .ref u9, .int 0, .ref u10, .ref u11, .int 0, .ref u12, .int (-1), .ref u13, .int 0, .int 0, .ref u14, .int 0, .int 0, .ref u15, .ref u16, .ref u17, .ref u18, .ref u19, .int 0, .ref u20, .int 0, .int 0, .int 0, .int 0, .int 0, .int 0, .ref u21, .ref u22, .ref u23, .ref u24, .int 0, .ref u25, .ref u26, .ref u27, .ref u28, .int 0, .ref u29, .ref u30, .int 0, .int 0, .ref u31, .int 0, .int 0, .int 0, .ref u32, .ref u33, .ref u34, .int 0, .int 0, .ref u35, .ref u36, .ref u37, .ref u38, .ref u39, .ref u40, .ref u41, .ref u42, .ref u43, .ref u44, .int 0, .ref u45, .ref u46, .ref u47])), (h1, .inl (k1, 600, .inl f_3232))] := hD
  refine lv_iinc (v := (-8)) (lv' := [(2, .int (-8)), (0, .ref h0), (1, .int s0)]) hx hb dX13_lay_30 hl (k := 0) rfl (by decide) (by decide) rfl (fun ls hl => ?_)
  refine lv_goto (tgt := 3) hx hb dX13_lay_33 (by decide) ?_
  refine lv_iload_n hx hb dX13_lay_3 rfl (lv_at hl 0 rfl) ?_
  refine lv_if_lt (tgt := 36) hx hb dX13_lay_4 (by decide) (fun c_3234 => ?_) (fun c_3234 => absurd c_3234 (by decide))
  have hP9 := hP.sub (ws' := [(h0, .inr (13, [.ref h1, .int 12, .ref u0, .ref u1, .int 0, .ref u2, .ref u3, .ref u4, .ref u5, .ref u6, .ref u7, .ref u8, .ref u9, .int 0, .ref u10, .ref u11, .int 0, .ref u12, .int (-1), .ref u13, .int 0, .int 0, .ref u14, .int 0, .int 0, .ref u15, .ref u16, .ref u17, .ref u18, .ref u19, .int 0, .ref u20, .int 0, .int 0, .int 0, .int 0, .int 0, .int 0, .ref u21, .ref u22, .ref u23, .ref u24, .int 0, .ref u25, .ref u26, .ref u27, .ref u28, .int 0, .ref u29, .ref u30, .int 0, .int 0, .ref u31, .int 0, .int 0, .int 0, .ref u32, .ref u33, .ref u34, .int 0, .int 0, .ref u35, .ref u36, .ref u37, .ref u38, .ref u39, .ref u40, .ref u41, .ref u42, .ref u43, .ref u44, .int 0, .ref u45, .ref u46, .ref u47])), (h1, .inl (k1, 600, .inl f_3232))]) [0, 1] rfl
  have hD9 := hD.sub (ws' := [(h0, .inr (13, [.ref h1, .int 12, .ref u0, .ref u1, .int 0, .ref u2, .ref u3, .ref u4, .ref u5, .ref u6, .ref u7, .ref u8, .ref u9, .int 0, .ref u10, .ref u11, .int 0, .ref u12, .int (-1), .ref u13, .int 0, .int 0, .ref u14, .int 0, .int 0, .ref u15, .ref u16, .ref u17, .ref u18, .ref u19, .int 0, .ref u20, .int 0, .int 0, .int 0, .int 0, .int 0, .int 0, .ref u21, .ref u22, .ref u23, .ref u24, .int 0, .ref u25, .ref u26, .ref u27, .ref u28, .int 0, .ref u29, .ref u30, .int 0, .int 0, .ref u31, .int 0, .int 0, .int 0, .ref u32, .ref u33, .ref u34, .int 0, .int 0, .ref u35, .ref u36, .ref u37, .ref u38, .ref u39, .ref u40, .ref u41, .ref u42, .ref u43, .ref u44, .int 0, .ref u45, .ref u46, .ref u47])), (h1, .inl (k1, 600, .inl f_3232))]) [0, 1] (by decide) rfl
  have hK9 := hK.sub (tys' := [(k1, .byte)]) [0] rfl
  refine W.widen (k := 0) (n := 0) (by decide) (by decide) ?_
  exact W.vret hx hb hr (fun t ht hW => ⟨⟨(), rfl, trivial, f_3232, by rw [ht]; exact hP9, va_K.moved hW.alike hK9, hD9⟩, hS.F ht⟩) hS.2.2 dX13_lay_36
set_option maxHeartbeats 4000000 in
set_option maxRecDepth 100000 in
theorem kX13_lay_3 (l : Launch) (dC : Nat → ClassId) (dI : Nat → Nat → Nat) (h0 h1 u0 u1 u2 u3 u4 u5 u6 u7 u8 u9 u10 u11 u12 u13 u14 u15 u16 u17 u18 u19 u20 u21 u22 u23 u24 u25 u26 u27 u28 u29 u30 u31 u32 u33 u34 u35 u36 u37 u38 u39 u40 u41 u42 u43 u44 u45 u46 u47 : Nat) (k1 : ClassId) (sz : Nat) (s0 : Int32) (s1 : Nat → Int32) : Met l yX13_lay (zw yX13_lay cX13_lay 3 none) { frames := 0, cells := 0, slots := 0, locals := 0 } (zPc dC dI [.ref h0, .int s0] sz [(h0, .inr (13, [.ref h1, .int 12, .ref u0, .ref u1, .int 0, .ref u2, .ref u3, .ref u4, .ref u5, .ref u6, .ref u7, .ref u8, .ref u9, .int 0, .ref u10, .ref u11, .int 0, .ref u12, .int (-1), .ref u13, .int 0, .int 0, .ref u14, .int 0, .int 0, .ref u15, .ref u16, .ref u17, .ref u18, .ref u19, .int 0, .ref u20, .int 0, .int 0, .int 0, .int 0, .int 0, .int 0, .ref u21, .ref u22, .ref u23, .ref u24, .int 0, .ref u25, .ref u26, .ref u27, .ref u28, .int 0, .ref u29, .ref u30, .int 0, .int 0, .ref u31, .int 0, .int 0, .int 0, .ref u32, .ref u33, .ref u34, .int 0, .int 0, .ref u35, .ref u36, .ref u37, .ref u38, .ref u39, .ref u40, .ref u41, .ref u42, .ref u43, .ref u44, .int 0, .ref u45, .ref u46, .ref u47])), (h1, .inl (k1, 600, .inl s1))] [(k1, .byte)]) (va_Qv (fun _ : Unit => True) (fun (_ : Unit) (t : State) => ∃ (f0 : Nat → Int32), va_P (dC, dI) vwCl [(h0, .inr (13, [.ref h1, .int 16, .ref u0, .ref u1, .int 0, .ref u2, .ref u3, .ref u4, .ref u5, .ref u6, .ref u7, .ref u8, .ref u9, .int 0, .ref u10, .ref u11, .int 0, .ref u12, .int (-1), .ref u13, .int 0, .int 0, .ref u14, .int 0, .int 0, .ref u15, .ref u16, .ref u17, .ref u18, .ref u19, .int 0, .ref u20, .int 0, .int 0, .int 0, .int 0, .int 0, .int 0, .ref u21, .ref u22, .ref u23, .ref u24, .int 0, .ref u25, .ref u26, .ref u27, .ref u28, .int 0, .ref u29, .ref u30, .int 0, .int 0, .ref u31, .int 0, .int 0, .int 0, .ref u32, .ref u33, .ref u34, .int 0, .int 0, .ref u35, .ref u36, .ref u37, .ref u38, .ref u39, .ref u40, .ref u41, .ref u42, .ref u43, .ref u44, .int 0, .ref u45, .ref u46, .ref u47])), (h1, .inl (k1, 600, .inl f0))] t.heap ∧ va_K (dC, dI) vwCl [(k1, .byte)] t ∧ va_D (va_A [(h0, .inr (13, [.ref h1, .int 12, .ref u0, .ref u1, .int 0, .ref u2, .ref u3, .ref u4, .ref u5, .ref u6, .ref u7, .ref u8, .ref u9, .int 0, .ref u10, .ref u11, .int 0, .ref u12, .int (-1), .ref u13, .int 0, .int 0, .ref u14, .int 0, .int 0, .ref u15, .ref u16, .ref u17, .ref u18, .ref u19, .int 0, .ref u20, .int 0, .int 0, .int 0, .int 0, .int 0, .int 0, .ref u21, .ref u22, .ref u23, .ref u24, .int 0, .ref u25, .ref u26, .ref u27, .ref u28, .int 0, .ref u29, .ref u30, .int 0, .int 0, .ref u31, .int 0, .int 0, .int 0, .ref u32, .ref u33, .ref u34, .int 0, .int 0, .ref u35, .ref u36, .ref u37, .ref u38, .ref u39, .ref u40, .ref u41, .ref u42, .ref u43, .ref u44, .int 0, .ref u45, .ref u46, .ref u47])), (h1, .inl (k1, 600, .inl s1))] sz) [(h0, .inr (13, [.ref h1, .int 16, .ref u0, .ref u1, .int 0, .ref u2, .ref u3, .ref u4, .ref u5, .ref u6, .ref u7, .ref u8, .ref u9, .int 0, .ref u10, .ref u11, .int 0, .ref u12, .int (-1), .ref u13, .int 0, .int 0, .ref u14, .int 0, .int 0, .ref u15, .ref u16, .ref u17, .ref u18, .ref u19, .int 0, .ref u20, .int 0, .int 0, .int 0, .int 0, .int 0, .int 0, .ref u21, .ref u22, .ref u23, .ref u24, .int 0, .ref u25, .ref u26, .ref u27, .ref u28, .int 0, .ref u29, .ref u30, .int 0, .int 0, .ref u31, .int 0, .int 0, .int 0, .ref u32, .ref u33, .ref u34, .int 0, .int 0, .ref u35, .ref u36, .ref u37, .ref u38, .ref u39, .ref u40, .ref u41, .ref u42, .ref u43, .ref u44, .int 0, .ref u45, .ref u46, .ref u47])), (h1, .inl (k1, 600, .inl f0))]) (va_A [(h0, .inr (13, [.ref h1, .int 12, .ref u0, .ref u1, .int 0, .ref u2, .ref u3, .ref u4, .ref u5, .ref u6, .ref u7, .ref u8, .ref u9, .int 0, .ref u10, .ref u11, .int 0, .ref u12, .int (-1), .ref u13, .int 0, .int 0, .ref u14, .int 0, .int 0, .ref u15, .ref u16, .ref u17, .ref u18, .ref u19, .int 0, .ref u20, .int 0, .int 0, .int 0, .int 0, .int 0, .int 0, .ref u21, .ref u22, .ref u23, .ref u24, .int 0, .ref u25, .ref u26, .ref u27, .ref u28, .int 0, .ref u29, .ref u30, .int 0, .int 0, .ref u31, .int 0, .int 0, .int 0, .ref u32, .ref u33, .ref u34, .int 0, .int 0, .ref u35, .ref u36, .ref u37, .ref u38, .ref u39, .ref u40, .ref u41, .ref u42, .ref u43, .ref u44, .int 0, .ref u45, .ref u46, .ref u47])), (h1, .inl (k1, 600, .inl s1))] sz)) 0 0 (va_A [(h0, .inr (13, [.ref h1, .int 12, .ref u0, .ref u1, .int 0, .ref u2, .ref u3, .ref u4, .ref u5, .ref u6, .ref u7, .ref u8, .ref u9, .int 0, .ref u10, .ref u11, .int 0, .ref u12, .int (-1), .ref u13, .int 0, .int 0, .ref u14, .int 0, .int 0, .ref u15, .ref u16, .ref u17, .ref u18, .ref u19, .int 0, .ref u20, .int 0, .int 0, .int 0, .int 0, .int 0, .int 0, .ref u21, .ref u22, .ref u23, .ref u24, .int 0, .ref u25, .ref u26, .ref u27, .ref u28, .int 0, .ref u29, .ref u30, .int 0, .int 0, .ref u31, .int 0, .int 0, .int 0, .ref u32, .ref u33, .ref u34, .int 0, .int 0, .ref u35, .ref u36, .ref u37, .ref u38, .ref u39, .ref u40, .ref u41, .ref u42, .ref u43, .ref u44, .int 0, .ref u45, .ref u46, .ref u47])), (h1, .inl (k1, 600, .inl s1))] sz) := by
  refine Met.ofW (cc := cX13_lay) (maxL := 3) (ret := none) (by decide) rfl ?_
  intro p e s m args below meth c s₁ B hml hv
  obtain ⟨rfl, hsz, hP, hK, hD0, hE, hZ⟩ := hv
  have hx := B.exec
  have hb := B.bytes
  have hr := B.returns
  have hG : ∀ w ∈ zG, w.before _ s = true := fun w h => atoms_spec (ws := (zw yX13_lay cX13_lay 3 none)) B.pre w (List.mem_cons_of_mem _ h)
  have hown : s.vm.findClass RX13 = some m.cls := findClass_of_methodNamed B.named
  have hlocks := B.notSynchronized
  subst hsz
  have hD := hD0.self (sz := s.heap.size)
  generalize hAe : va_A [(h0, .inr (13, [.ref h1, .int 12, .ref u0, .ref u1, .int 0, .ref u2, .ref u3, .ref u4, .ref u5, .ref u6, .ref u7, .ref u8, .ref u9, .int 0, .ref u10, .ref u11, .int 0, .ref u12, .int (-1), .ref u13, .int 0, .int 0, .ref u14, .int 0, .int 0, .ref u15, .ref u16, .ref u17, .ref u18, .ref u19, .int 0, .ref u20, .int 0, .int 0, .int 0, .int 0, .int 0, .int 0, .ref u21, .ref u22, .ref u23, .ref u24, .int 0, .ref u25, .ref u26, .ref u27, .ref u28, .int 0, .ref u29, .ref u30, .int 0, .int 0, .ref u31, .int 0, .int 0, .int 0, .ref u32, .ref u33, .ref u34, .int 0, .int 0, .ref u35, .ref u36, .ref u37, .ref u38, .ref u39, .ref u40, .ref u41, .ref u42, .ref u43, .ref u44, .int 0, .ref u45, .ref u46, .ref u47])), (h1, .inl (k1, 600, .inl s1))] s.heap.size = A at hD hZ ⊢
  have hA : ∀ q : Nat, s.heap.size ≤ q → A q := fun q h => by rw [← hAe]; exact Or.inr h
  have hS : va_S A s.heap s.heap [] := va_S.rf
  have hl := lv_entry ([.ref h0, .int s0]) (n := 3) (Nat.le_of_ble_eq_true rfl)
  rw [lg_entry_eq]
  generalize (lg_sl ([.ref h0, .int s0]) ++ List.replicate (3 - (lg_sl ([.ref h0, .int s0])).length) Slot.unset).toArray = ls at hl ⊢
  have hl : lv_has ls 3 [(0, .ref h0), (1, .int s0)] := hl
  refine lv_bipush (v := 24) hx hb dX13_lay_0 (by decide) ?_
  refine lv_istore_n (lv' := [(2, .int 24), (0, .ref h0), (1, .int s0)]) hx hb dX13_lay_2 rfl hl (by decide) rfl (fun ls hl => ?_)
  refine lv_iload_n hx hb dX13_lay_3 rfl (lv_at hl 0 rfl) ?_
  refine lv_if_lt (tgt := 36) hx hb dX13_lay_4 (by decide) (fun c_3280 => absurd c_3280 (by decide)) (fun c_3280 => ?_)
  refine lv_aload_n hx hb dX13_lay_7 rfl (lv_at hl 1 rfl) ?_
  refine va_get (D := (dC, dI)) (ci := 13) (v := .ref h1) (C := RX13) (T := TX13) (N := 75) hx hb hG zuX13 hown hK hP 0 rfl rfl 0 (by decide) (hG _ zw209) (fun _ h9 => h9) rfl dX13_lay_8 ?_
  refine lv_aload_n hx hb dX13_lay_11 rfl (lv_at hl 1 rfl) ?_
  refine va_get (D := (dC, dI)) (ci := 13) (v := .int 12) (C := RX13) (T := TX13) (N := 75) hx hb hG zuX13 hown hK hP 0 rfl rfl 1 (by decide) (hG _ zw303) (fun _ h9 => h9) rfl dX13_lay_12 ?_
  refine lv_iload_n hx hb dX13_lay_15 rfl (lv_at hl 2 rfl) ?_
  refine lv_iload_n hx hb dX13_lay_16 rfl (lv_at hl 0 rfl) ?_
  refine lv_ishr hx hb dX13_lay_17 ?_
  refine lv_topi (fun z_3281 e_z_3281 => ?_)
  refine lv_i2b hx hb dX13_lay_18 rfl ?_
  refine lv_topi (fun z_3282 e_z_3282 => ?_)
  refine va_bast hx hb hK hP hD hS 1 0 rfl rfl (zin_lit (by decide)) dX13_lay_19 (fun H locs hP hD hS => ?_)
  obtain ⟨f_3283, e_f_3283⟩ : ∃ z : Nat → Int32, z = upd s1 12 (vp_nar .byte z_3282) := ⟨_, rfl⟩
  have hP : va_P (dC, dI) vwCl [(h0, .inr (13, [.ref h1, .int 12, .ref u0, .ref u1, .int 0, .ref u2, .ref u3, .ref u4, .ref u5, .ref u6, .ref u7, .ref u8, .ref u9, .int 0, .ref u10, .ref u11, .int 0, .ref u12, .int (-1), .ref u13, .int 0, .int 0, .ref u14, .int 0, .int 0, .ref u15, .ref u16, .ref u17, .ref u18, .ref u19, .int 0, .ref u20, .int 0, .int 0, .int 0, .int 0, .int 0, .int 0, .ref u21, .ref u22, .ref u23, .ref u24, .int 0, .ref u25, .ref u26, .ref u27, .ref u28, .int 0, .ref u29, .ref u30, .int 0, .int 0, .ref u31, .int 0, .int 0, .int 0, .ref u32, .ref u33, .ref u34, .int 0, .int 0, .ref u35, .ref u36, .ref u37, .ref u38, .ref u39, .ref u40, .ref u41, .ref u42, .ref u43, .ref u44, .int 0, .ref u45, .ref u46, .ref u47])), (h1, .inl (k1, 600, .inl f_3283))] H := by rw [e_f_3283]; exact hP
  have hD : va_D A [(h0, .inr (13, [.ref h1, .int 12, .ref u0, .ref u1, .int 0, .ref u2, .ref u3, .ref u4, .ref u5, .ref u6, .ref u7, .ref u8, .ref u9, .int 0, .ref u10, .ref u11, .int 0, .ref u12, .int (-1), .ref u13, .int 0, .int 0, .ref u14, .int 0, .int 0, .ref u15, .ref u16, .ref u17, .ref u18, .ref u19, .int 0, .ref u20, .int 0, .int 0, .int 0, .int 0, .int 0, .int 0, .ref u21, .ref u22, .ref u23, .ref u24, .int 0, .ref u25, .ref u26, .ref u27, .ref u28, .int 0, .ref u29, .ref u30, .int 0, .int 0, .ref u31, .int 0, .int 0, .int 0, .ref u32, .ref u33, .ref u34, .int 0, .int 0, .ref u35, .ref u36, .ref u37, .ref u38, .ref u39, .ref u40, .ref u41, .ref u42, .ref u43, .ref u44, .int 0, .ref u45, .ref u46, .ref u47])), (h1, .inl (k1, 600, .inl f_3283))] := by rw [e_f_3283]; exact hD
  refine lv_aload_n hx hb dX13_lay_20 rfl (lv_at hl 1 rfl) ?_
  refine lv_dup hx hb dX13_lay_21 rfl ?_
  refine va_get (D := (dC, dI)) (ci := 13) (v := .int 12) (C := RX13) (T := TX13) (N := 75) hx hb hG zuX13 hown hK hP 0 rfl rfl 1 (by decide) (hG _ zw303) (fun _ h9 => h9) rfl dX13_lay_22 ?_
  refine lv_iconst (v := 1) hx hb dX13_lay_25 (by decide) ?_
  refine lv_iadd hx hb dX13_lay_26 ?_
  refine lv_topi (fun z_3284 e_z_3284 => ?_)
  obtain rfl : z_3284 = (13 : Int32) := e_z_3284.trans (by decide)
  refine va_put (D := (dC, dI)) (ci := 13) (v := .int 13) (ty := .int) (C := RX13) (T := TX13) (N := 75) hx hb hG zuX13 tyX13 tyX13_ok nmX13 hown hK hP hD hS 0 rfl rfl 1 (by decide) (hG _ zw303) (fun _ h9 => h9) rfl (by decide +kernel) rfl rfl (Nat.le_of_ble_eq_true rfl) dX13_lay_27 (fun H locs hP hD hS => ?_)
  have hP : va_P (dC, dI) vwCl [(h0, .inr (13, [.ref h1, .int 13, .ref u0, .ref u1, .int 0, .ref u2, .ref u3, .ref u4, .ref u5, .ref u6, .ref u7, .ref u8, .ref u9, .int 0, .ref u10, .ref u11, .int 0, .ref u12, .int (-1), .ref u13, .int 0, .int 0, .ref u14, .int 0, .int 0, .ref u15, .ref u16, .ref u17, .ref u18, .ref u19, .int 0, .ref u20, .int 0, .int 0, .int 0, .int 0, .int 0, .int 0, .ref u21, .ref u22, .ref u23, .ref u24, .int 0, .ref u25, .ref u26, .ref u27, .ref u28, .int 0, .ref u29, .ref u30, .int 0, .int 0, .ref u31, .int 0, .int 0, .int 0, .ref u32, .ref u33, .ref u34, .int 0, .int 0, .ref u35, .ref u36, .ref u37, .ref u38, .ref u39, .ref u40, .ref u41, .ref u42, .ref u43, .ref u44, .int 0, .ref u45, .ref u46, .ref u47])), (h1, .inl (k1, 600, .inl f_3283))] H := hP
  have hD : va_D A [(h0, .inr (13, [.ref h1, .int 13, .ref u0, .ref u1, .int 0, .ref u2, .ref u3, .ref u4, .ref u5, .ref u6, .ref u7, .ref u8, .ref u9, .int 0, .ref u10, .ref u11, .int 0, .ref u12, .int (-1), .ref u13, .int 0, .int 0, .ref u14, .int 0, .int 0, .ref u15, .ref u16, .ref u17, .ref u18, .ref u19, .int 0, .ref u20, .int 0, .int 0, .int 0, .int 0, .int 0, .int 0, .ref u21, .ref u22, .ref u23, .ref u24, .int 0, .ref u25, .ref u26, .ref u27, .ref u28, .int 0, .ref u29, .ref u30, .int 0, .int 0, .ref u31, .int 0, .int 0, .int 0, .ref u32, .ref u33, .ref u34, .int 0, .int 0, .ref u35, .ref u36, .ref u37, .ref u38, .ref u39, .ref u40, .ref u41, .ref u42, .ref u43, .ref u44, .int 0, .ref u45, .ref u46, .ref u47])), (h1, .inl (k1, 600, .inl f_3283))] := hD
  refine lv_iinc (v := 16) (lv' := [(2, .int 16), (0, .ref h0), (1, .int s0)]) hx hb dX13_lay_30 hl (k := 0) rfl (by decide) (by decide) rfl (fun ls hl => ?_)
  refine lv_goto (tgt := 3) hx hb dX13_lay_33 (by decide) ?_
  refine lv_iload_n hx hb dX13_lay_3 rfl (lv_at hl 0 rfl) ?_
  refine lv_if_lt (tgt := 36) hx hb dX13_lay_4 (by decide) (fun c_3285 => absurd c_3285 (by decide)) (fun c_3285 => ?_)
  refine lv_aload_n hx hb dX13_lay_7 rfl (lv_at hl 1 rfl) ?_
  refine va_get (D := (dC, dI)) (ci := 13) (v := .ref h1) (C := RX13) (T := TX13) (N := 75) hx hb hG zuX13 hown hK hP 0 rfl rfl 0 (by decide) (hG _ zw209) (fun _ h9 => h9) rfl dX13_lay_8 ?_
  refine lv_aload_n hx hb dX13_lay_11 rfl (lv_at hl 1 rfl) ?_
  refine va_get (D := (dC, dI)) (ci := 13) (v := .int 13) (C := RX13) (T := TX13) (N := 75) hx hb hG zuX13 hown hK hP 0 rfl rfl 1 (by decide) (hG _ zw303) (fun _ h9 => h9) rfl dX13_lay_12 ?_
  refine lv_iload_n hx hb dX13_lay_15 rfl (lv_at hl 2 rfl) ?_
  refine lv_iload_n hx hb dX13_lay_16 rfl (lv_at hl 0 rfl) ?_
  refine lv_ishr hx hb dX13_lay_17 ?_
  refine lv_topi (fun z_3286 e_z_3286 => ?_)
  refine lv_i2b hx hb dX13_lay_18 rfl ?_
  refine lv_topi (fun z_3287 e_z_3287 => ?_)
  refine va_bast hx hb hK hP hD hS 1 0 rfl rfl (zin_lit (by decide)) dX13_lay_19 (fun H locs hP hD hS => ?_)
  obtain ⟨f_3288, e_f_3288⟩ : ∃ z : Nat → Int32, z = upd f_3283 13 (vp_nar .byte z_3287) := ⟨_, rfl⟩
  have hP : va_P (dC, dI) vwCl [(h0, .inr (13, [.ref h1, .int 13, .ref u0, .ref u1, .int 0, .ref u2, .ref u3, .ref u4, .ref u5, .ref u6, .ref u7, .ref u8, .ref u9, .int 0, .ref u10, .ref u11, .int 0, .ref u12, .int (-1), .ref u13, .int 0, .int 0, .ref u14, .int 0, .int 0, .ref u15, .ref u16, .ref u17, .ref u18, .ref u19, .int 0, .ref u20, .int 0, .int 0, .int 0, .int 0, .int 0, .int 0, .ref u21, .ref u22, .ref u23, .ref u24, .int 0, .ref u25, .ref u26, .ref u27, .ref u28, .int 0, .ref u29, .ref u30, .int 0, .int 0, .ref u31, .int 0, .int 0, .int 0, .ref u32, .ref u33, .ref u34, .int 0, .int 0, .ref u35, .ref u36, .ref u37, .ref u38, .ref u39, .ref u40, .ref u41, .ref u42, .ref u43, .ref u44, .int 0, .ref u45, .ref u46, .ref u47])), (h1, .inl (k1, 600, .inl f_3288))] H := by rw [e_f_3288]; exact hP
  have hD : va_D A [(h0, .inr (13, [.ref h1, .int 13, .ref u0, .ref u1, .int 0, .ref u2, .ref u3, .ref u4, .ref u5, .ref u6, .ref u7, .ref u8, .ref u9, .int 0, .ref u10, .ref u11, .int 0, .ref u12, .int (-1), .ref u13, .int 0, .int 0, .ref u14, .int 0, .int 0, .ref u15, .ref u16, .ref u17, .ref u18, .ref u19, .int 0, .ref u20, .int 0, .int 0, .int 0, .int 0, .int 0, .int 0, .ref u21, .ref u22, .ref u23, .ref u24, .int 0, .ref u25, .ref u26, .ref u27, .ref u28, .int 0, .ref u29, .ref u30, .int 0, .int 0, .ref u31, .int 0, .int 0, .int 0, .ref u32, .ref u33, .ref u34, .int 0, .int 0, .ref u35, .ref u36, .ref u37, .ref u38, .ref u39, .ref u40, .ref u41, .ref u42, .ref u43, .ref u44, .int 0, .ref u45, .ref u46, .ref u47])), (h1, .inl (k1, 600, .inl f_3288))] := by rw [e_f_3288]; exact hD
  refine lv_aload_n hx hb dX13_lay_20 rfl (lv_at hl 1 rfl) ?_
  refine lv_dup hx hb dX13_lay_21 rfl ?_
  refine va_get (D := (dC, dI)) (ci := 13) (v := .int 13) (C := RX13) (T := TX13) (N := 75) hx hb hG zuX13 hown hK hP 0 rfl rfl 1 (by decide) (hG _ zw303) (fun _ h9 => h9) rfl dX13_lay_22 ?_
  refine lv_iconst (v := 1) hx hb dX13_lay_25 (by decide) ?_
  refine lv_iadd hx hb dX13_lay_26 ?_
  refine lv_topi (fun z_3289 e_z_3289 => ?_)
  obtain rfl : z_3289 = (14 : Int32) := e_z_3289.trans (by decide)
  refine va_put (D := (dC, dI)) (ci := 13) (v := .int 14) (ty := .int) (C := RX13) (T := TX13) (N := 75) hx hb hG zuX13 tyX13 tyX13_ok nmX13 hown hK hP hD hS 0 rfl rfl 1 (by decide) (hG _ zw303) (fun _ h9 => h9) rfl (by decide +kernel) rfl rfl (Nat.le_of_ble_eq_true rfl) dX13_lay_27 (fun H locs hP hD hS => ?_)
  have hP : va_P (dC, dI) vwCl [(h0, .inr (13, [.ref h1, .int 14, .ref u0, .ref u1, .int 0, .ref u2, .ref u3, .ref u4, .ref u5, .ref u6, .ref u7, .ref u8, .ref u9, .int 0, .ref u10, .ref u11, .int 0, .ref u12, .int (-1), .ref u13, .int 0, .int 0, .ref u14, .int 0, .int 0, .ref u15, .ref u16, .ref u17, .ref u18, .ref u19, .int 0, .ref u20, .int 0, .int 0, .int 0, .int 0, .int 0, .int 0, .ref u21, .ref u22, .ref u23, .ref u24, .int 0, .ref u25, .ref u26, .ref u27, .ref u28, .int 0, .ref u29, .ref u30, .int 0, .int 0, .ref u31, .int 0, .int 0, .int 0, .ref u32, .ref u33, .ref u34, .int 0, .int 0, .ref u35, .ref u36, .ref u37, .ref u38, .ref u39, .ref u40, .ref u41, .ref u42, .ref u43, .ref u44, .int 0, .ref u45, .ref u46, .ref u47])), (h1, .inl (k1, 600, .inl f_3288))] H := hP
  have hD : va_D A [(h0, .inr (13, [.ref h1, .int 14, .ref u0, .ref u1, .int 0, .ref u2, .ref u3, .ref u4, .ref u5, .ref u6, .ref u7, .ref u8, .ref u9, .int 0, .ref u10, .ref u11, .int 0, .ref u12, .int (-1), .ref u13, .int 0, .int 0, .ref u14, .int 0, .int 0, .ref u15, .ref u16, .ref u17, .ref u18, .ref u19, .int 0, .ref u20, .int 0, .int 0, .int 0, .int 0, .int 0, .int 0, .ref u21, .ref u22, .ref u23, .ref u24, .int 0, .ref u25, .ref u26, .ref u27, .ref u28, .int 0, .ref u29, .ref u30, .int 0, .int 0, .ref u31, .int 0, .int 0, .int 0, .ref u32, .ref u33, .ref u34, .int 0, .int 0, .ref u35, .ref u36, .ref u37, .ref u38, .ref u39, .ref u40, .ref u41, .ref u42, .ref u43, .ref u44, .int 0, .ref u45, .ref u46, .ref u47])), (h1, .inl (k1, 600, .inl f_3288))] := hD
  refine lv_iinc (v := 8) (lv' := [(2, .int 8), (0, .ref h0), (1, .int s0)]) hx hb dX13_lay_30 hl (k := 0) rfl (by decide) (by decide) rfl (fun ls hl => ?_)
  refine lv_goto (tgt := 3) hx hb dX13_lay_33 (by decide) ?_
  refine lv_iload_n hx hb dX13_lay_3 rfl (lv_at hl 0 rfl) ?_
  refine lv_if_lt (tgt := 36) hx hb dX13_lay_4 (by decide) (fun c_3290 => absurd c_3290 (by decide)) (fun c_3290 => ?_)
  refine lv_aload_n hx hb dX13_lay_7 rfl (lv_at hl 1 rfl) ?_
  refine va_get (D := (dC, dI)) (ci := 13) (v := .ref h1) (C := RX13) (T := TX13) (N := 75) hx hb hG zuX13 hown hK hP 0 rfl rfl 0 (by decide) (hG _ zw209) (fun _ h9 => h9) rfl dX13_lay_8 ?_
  refine lv_aload_n hx hb dX13_lay_11 rfl (lv_at hl 1 rfl) ?_
  refine va_get (D := (dC, dI)) (ci := 13) (v := .int 14) (C := RX13) (T := TX13) (N := 75) hx hb hG zuX13 hown hK hP 0 rfl rfl 1 (by decide) (hG _ zw303) (fun _ h9 => h9) rfl dX13_lay_12 ?_
  refine lv_iload_n hx hb dX13_lay_15 rfl (lv_at hl 2 rfl) ?_
  refine lv_iload_n hx hb dX13_lay_16 rfl (lv_at hl 0 rfl) ?_
  refine lv_ishr hx hb dX13_lay_17 ?_
  refine lv_topi (fun z_3291 e_z_3291 => ?_)
  refine lv_i2b hx hb dX13_lay_18 rfl ?_
  refine lv_topi (fun z_3292 e_z_3292 => ?_)
  refine va_bast hx hb hK hP hD hS 1 0 rfl rfl (zin_lit (by decide)) dX13_lay_19 (fun H locs hP hD hS => ?_)
  obtain ⟨f_3293, e_f_3293⟩ : ∃ z : Nat → Int32, z = upd f_3288 14 (vp_nar .byte z_3292) := ⟨_, rfl⟩
  have hP : va_P (dC, dI) vwCl [(h0, .inr (13, [.ref h1, .int 14, .ref u0, .ref u1, .int 0, .ref u2, .ref u3, .ref u4, .ref u5, .ref u6, .ref u7, .ref u8, .ref u9, .int 0, .ref u10, .ref u11, .int 0, .ref u12, .int (-1), .ref u13, .int 0, .int 0, .ref u14, .int 0, .int 0, .ref u15, .ref u16, .ref u17, .ref u18, .ref u19, .int 0, .ref u20, .int 0, .int 0, .int 0, .int 0, .int 0, .int 0, .ref u21, .ref u22, .ref u23, .ref u24, .int 0, .ref u25, .ref u26, .ref u27, .ref u28, .int 0, .ref u29, .ref u30, .int 0, .int 0, .ref u31, .int 0, .int 0, .int 0, .ref u32, .ref u33, .ref u34, .int 0, .int 0, .ref u35, .ref u36, .ref u37, .ref u38, .ref u39, .ref u40, .ref u41, .ref u42, .ref u43, .ref u44, .int 0, .ref u45, .ref u46, .ref u47])), (h1, .inl (k1, 600, .inl f_3293))] H := by rw [e_f_3293]; exact hP
  have hD : va_D A [(h0, .inr (13, [.ref h1, .int 14, .ref u0, .ref u1, .int 0, .ref u2, .ref u3, .ref u4, .ref u5, .ref u6, .ref u7, .ref u8, .ref u9, .int 0, .ref u10, .ref u11, .int 0, .ref u12, .int (-1), .ref u13, .int 0, .int 0, .ref u14, .int 0, .int 0, .ref u15, .ref u16, .ref u17, .ref u18, .ref u19, .int 0, .ref u20, .int 0, .int 0, .int 0, .int 0, .int 0, .int 0, .ref u21, .ref u22, .ref u23, .ref u24, .int 0, .ref u25, .ref u26, .ref u27, .ref u28, .int 0, .ref u29, .ref u30, .int 0, .int 0, .ref u31, .int 0, .int 0, .int 0, .ref u32, .ref u33, .ref u34, .int 0, .int 0, .ref u35, .ref u36, .ref u37, .ref u38, .ref u39, .ref u40, .ref u41, .ref u42, .ref u43, .ref u44, .int 0, .ref u45, .ref u46, .ref u47])), (h1, .inl (k1, 600, .inl f_3293))] := by rw [e_f_3293]; exact hD
  refine lv_aload_n hx hb dX13_lay_20 rfl (lv_at hl 1 rfl) ?_
  refine lv_dup hx hb dX13_lay_21 rfl ?_
  refine va_get (D := (dC, dI)) (ci := 13) (v := .int 14) (C := RX13) (T := TX13) (N := 75) hx hb hG zuX13 hown hK hP 0 rfl rfl 1 (by decide) (hG _ zw303) (fun _ h9 => h9) rfl dX13_lay_22 ?_
  refine lv_iconst (v := 1) hx hb dX13_lay_25 (by decide) ?_
  refine lv_iadd hx hb dX13_lay_26 ?_
  refine lv_topi (fun z_3294 e_z_3294 => ?_)
  obtain rfl : z_3294 = (15 : Int32) := e_z_3294.trans (by decide)
  refine va_put (D := (dC, dI)) (ci := 13) (v := .int 15) (ty := .int) (C := RX13) (T := TX13) (N := 75) hx hb hG zuX13 tyX13 tyX13_ok nmX13 hown hK hP hD hS 0 rfl rfl 1 (by decide) (hG _ zw303) (fun _ h9 => h9) rfl (by decide +kernel) rfl rfl (Nat.le_of_ble_eq_true rfl) dX13_lay_27 (fun H locs hP hD hS => ?_)
  have hP : va_P (dC, dI) vwCl [(h0, .inr (13, [.ref h1, .int 15, .ref u0, .ref u1, .int 0, .ref u2, .ref u3, .ref u4, .ref u5, .ref u6, .ref u7, .ref u8, .ref u9, .int 0, .ref u10, .ref u11, .int 0, .ref u12, .int (-1), .ref u13, .int 0, .int 0, .ref u14, .int 0, .int 0, .ref u15, .ref u16, .ref u17, .ref u18, .ref u19, .int 0, .ref u20, .int 0, .int 0, .int 0, .int 0, .int 0, .int 0, .ref u21, .ref u22, .ref u23, .ref u24, .int 0, .ref u25, .ref u26, .ref u27, .ref u28, .int 0, .ref u29, .ref u30, .int 0, .int 0, .ref u31, .int 0, .int 0, .int 0, .ref u32, .ref u33, .ref u34, .int 0, .int 0, .ref u35, .ref u36, .ref u37, .ref u38, .ref u39, .ref u40, .ref u41, .ref u42, .ref u43, .ref u44, .int 0, .ref u45, .ref u46, .ref u47])), (h1, .inl (k1, 600, .inl f_3293))] H := hP
  have hD : va_D A [(h0, .inr (13, [.ref h1, .int 15, .ref u0, .ref u1, .int 0, .ref u2, .ref u3, .ref u4, .ref u5, .ref u6, .ref u7, .ref u8, .ref u9, .int 0, .ref u10, .ref u11, .int 0, .ref u12, .int (-1), .ref u13, .int 0, .int 0, .ref u14, .int 0, .int 0, .ref u15, .ref u16, .ref u17, .ref u18, .ref u19, .int 0, .ref u20, .int 0, .int 0, .int 0, .int 0, .int 0, .int 0, .ref u21, .ref u22, .ref u23, .ref u24, .int 0, .ref u25, .ref u26, .ref u27, .ref u28, .int 0, .ref u29, .ref u30, .int 0, .int 0, .ref u31, .int 0, .int 0, .int 0, .ref u32, .ref u33, .ref u34, .int 0, .int 0, .ref u35, .ref u36, .ref u37, .ref u38, .ref u39, .ref u40, .ref u41, .ref u42, .ref u43, .ref u44, .int 0, .ref u45, .ref u46, .ref u47])), (h1, .inl (k1, 600, .inl f_3293))] := hD
  refine lv_iinc (v := 0) (lv' := [(2, .int 0), (0, .ref h0), (1, .int s0)]) hx hb dX13_lay_30 hl (k := 0) rfl (by decide) (by decide) rfl (fun ls hl => ?_)
  refine lv_goto (tgt := 3) hx hb dX13_lay_33 (by decide) ?_
  refine lv_iload_n hx hb dX13_lay_3 rfl (lv_at hl 0 rfl) ?_
  refine lv_if_lt (tgt := 36) hx hb dX13_lay_4 (by decide) (fun c_3295 => absurd c_3295 (by decide)) (fun c_3295 => ?_)
  refine lv_aload_n hx hb dX13_lay_7 rfl (lv_at hl 1 rfl) ?_
  refine va_get (D := (dC, dI)) (ci := 13) (v := .ref h1) (C := RX13) (T := TX13) (N := 75) hx hb hG zuX13 hown hK hP 0 rfl rfl 0 (by decide) (hG _ zw209) (fun _ h9 => h9) rfl dX13_lay_8 ?_
  refine lv_aload_n hx hb dX13_lay_11 rfl (lv_at hl 1 rfl) ?_
  refine va_get (D := (dC, dI)) (ci := 13) (v := .int 15) (C := RX13) (T := TX13) (N := 75) hx hb hG zuX13 hown hK hP 0 rfl rfl 1 (by decide) (hG _ zw303) (fun _ h9 => h9) rfl dX13_lay_12 ?_
  refine lv_iload_n hx hb dX13_lay_15 rfl (lv_at hl 2 rfl) ?_
  refine lv_iload_n hx hb dX13_lay_16 rfl (lv_at hl 0 rfl) ?_
  refine lv_ishr hx hb dX13_lay_17 ?_
  refine lv_topi (fun z_3296 e_z_3296 => ?_)
  refine lv_i2b hx hb dX13_lay_18 rfl ?_
  refine lv_topi (fun z_3297 e_z_3297 => ?_)
  refine va_bast hx hb hK hP hD hS 1 0 rfl rfl (zin_lit (by decide)) dX13_lay_19 (fun H locs hP hD hS => ?_)
  obtain ⟨f_3298, e_f_3298⟩ : ∃ z : Nat → Int32, z = upd f_3293 15 (vp_nar .byte z_3297) := ⟨_, rfl⟩
  have hP : va_P (dC, dI) vwCl [(h0, .inr (13, [.ref h1, .int 15, .ref u0, .ref u1, .int 0, .ref u2, .ref u3, .ref u4, .ref u5, .ref u6, .ref u7, .ref u8, .ref u9, .int 0, .ref u10, .ref u11, .int 0, .ref u12, .int (-1), .ref u13, .int 0, .int 0, .ref u14, .int 0, .int 0, .ref u15, .ref u16, .ref u17, .ref u18, .ref u19, .int 0, .ref u20, .int 0, .int 0, .int 0, .int 0, .int 0, .int 0, .ref u21, .ref u22, .ref u23, .ref u24, .int 0, .ref u25, .ref u26, .ref u27, .ref u28, .int 0, .ref u29, .ref u30, .int 0, .int 0, .ref u31, .int 0, .int 0, .int 0, .ref u32, .ref u33, .ref u34, .int 0, .int 0, .ref u35, .ref u36, .ref u37, .ref u38, .ref u39, .ref u40, .ref u41, .ref u42, .ref u43, .ref u44, .int 0, .ref u45, .ref u46, .ref u47])), (h1, .inl (k1, 600, .inl f_3298))] H := by rw [e_f_3298]; exact hP
  have hD : va_D A [(h0, .inr (13, [.ref h1, .int 15, .ref u0, .ref u1, .int 0, .ref u2, .ref u3, .ref u4, .ref u5, .ref u6, .ref u7, .ref u8, .ref u9, .int 0, .ref u10, .ref u11, .int 0, .ref u12, .int (-1), .ref u13, .int 0, .int 0, .ref u14, .int 0, .int 0, .ref u15, .ref u16, .ref u17, .ref u18, .ref u19, .int 0, .ref u20, .int 0, .int 0, .int 0, .int 0, .int 0, .int 0, .ref u21, .ref u22, .ref u23, .ref u24, .int 0, .ref u25, .ref u26, .ref u27, .ref u28, .int 0, .ref u29, .ref u30, .int 0, .int 0, .ref u31, .int 0, .int 0, .int 0, .ref u32, .ref u33, .ref u34, .int 0, .int 0, .ref u35, .ref u36, .ref u37, .ref u38, .ref u39, .ref u40, .ref u41, .ref u42, .ref u43, .ref u44, .int 0, .ref u45, .ref u46, .ref u47])), (h1, .inl (k1, 600, .inl f_3298))] := by rw [e_f_3298]; exact hD
  refine lv_aload_n hx hb dX13_lay_20 rfl (lv_at hl 1 rfl) ?_
  refine lv_dup hx hb dX13_lay_21 rfl ?_
  refine va_get (D := (dC, dI)) (ci := 13) (v := .int 15) (C := RX13) (T := TX13) (N := 75) hx hb hG zuX13 hown hK hP 0 rfl rfl 1 (by decide) (hG _ zw303) (fun _ h9 => h9) rfl dX13_lay_22 ?_
  refine lv_iconst (v := 1) hx hb dX13_lay_25 (by decide) ?_
  refine lv_iadd hx hb dX13_lay_26 ?_
  refine lv_topi (fun z_3299 e_z_3299 => ?_)
  obtain rfl : z_3299 = (16 : Int32) := e_z_3299.trans (by decide)
  refine va_put (D := (dC, dI)) (ci := 13) (v := .int 16) (ty := .int) (C := RX13) (T := TX13) (N := 75) hx hb hG zuX13 tyX13 tyX13_ok nmX13 hown hK hP hD hS 0 rfl rfl 1 (by decide) (hG _ zw303) (fun _ h9 => h9) rfl (by decide +kernel) rfl rfl (Nat.le_of_ble_eq_true rfl) dX13_lay_27 (fun H locs hP hD hS => ?_)
  have hP : va_P (dC, dI) vwCl [(h0, .inr (13, [.ref h1, .int 16, .ref u0, .ref u1, .int 0, .ref u2, .ref u3, .ref u4, .ref u5, .ref u6, .ref u7, .ref u8, .ref u9, .int 0, .ref u10, .ref u11, .int 0, .ref u12, .int (-1), .ref u13, .int 0, .int 0, .ref u14, .int 0, .int 0, .ref u15, .ref u16, .ref u17, .ref u18, .ref u19, .int 0, .ref u20, .int 0, .int 0, .int 0, .int 0, .int 0, .int 0, .ref u21, .ref u22, .ref u23, .ref u24, .int 0, .ref u25, .ref u26, .ref u27, .ref u28, .int 0, .ref u29, .ref u30, .int 0, .int 0, .ref u31, .int 0, .int 0, .int 0, .ref u32, .ref u33, .ref u34, .int 0, .int 0, .ref u35, .ref u36, .ref u37, .ref u38, .ref u39, .ref u40, .ref u41, .ref u42, .ref u43, .ref u44, .int 0, .ref u45, .ref u46, .ref u47])), (h1, .inl (k1, 600, .inl f_3298))] H := hP
  have hD : va_D A [(h0, .inr (13, [.ref h1, .int 16, .ref u0, .ref u1, .int 0, .ref u2, .ref u3, .ref u4, .ref u5, .ref u6, .ref u7, .ref u8, .ref u9, .int 0, .ref u10, .ref u11, .int 0, .ref u12, .int (-1), .ref u13, .int 0, .int 0, .ref u14, .int 0, .int 0, .ref u15, .ref u16, .ref u17, .ref u18, .ref u19, .int 0, .ref u20, .int 0, .int 0, .int 0, .int 0, .int 0, .int 0, .ref u21, .ref u22, .ref u23, .ref u24, .int 0, .ref u25, .ref u26, .ref u27, .ref u28, .int 0, .ref u29, .ref u30, .int 0, .int 0, .ref u31, .int 0, .int 0, .int 0, .ref u32, .ref u33, .ref u34, .int 0, .int 0, .ref u35, .ref u36, .ref u37, .ref u38, .ref u39, .ref u40, .ref u41, .ref u42, .ref u43, .ref u44, .int 0, .ref u45, .ref u46, .ref u47])), (h1, .inl (k1, 600, .inl f_3298))] := hD
  refine lv_iinc (v := (-8)) (lv' := [(2, .int (-8)), (0, .ref h0), (1, .int s0)]) hx hb dX13_lay_30 hl (k := 0) rfl (by decide) (by decide) rfl (fun ls hl => ?_)
  refine lv_goto (tgt := 3) hx hb dX13_lay_33 (by decide) ?_
  refine lv_iload_n hx hb dX13_lay_3 rfl (lv_at hl 0 rfl) ?_
  refine lv_if_lt (tgt := 36) hx hb dX13_lay_4 (by decide) (fun c_3300 => ?_) (fun c_3300 => absurd c_3300 (by decide))
  have hP9 := hP.sub (ws' := [(h0, .inr (13, [.ref h1, .int 16, .ref u0, .ref u1, .int 0, .ref u2, .ref u3, .ref u4, .ref u5, .ref u6, .ref u7, .ref u8, .ref u9, .int 0, .ref u10, .ref u11, .int 0, .ref u12, .int (-1), .ref u13, .int 0, .int 0, .ref u14, .int 0, .int 0, .ref u15, .ref u16, .ref u17, .ref u18, .ref u19, .int 0, .ref u20, .int 0, .int 0, .int 0, .int 0, .int 0, .int 0, .ref u21, .ref u22, .ref u23, .ref u24, .int 0, .ref u25, .ref u26, .ref u27, .ref u28, .int 0, .ref u29, .ref u30, .int 0, .int 0, .ref u31, .int 0, .int 0, .int 0, .ref u32, .ref u33, .ref u34, .int 0, .int 0, .ref u35, .ref u36, .ref u37, .ref u38, .ref u39, .ref u40, .ref u41, .ref u42, .ref u43, .ref u44, .int 0, .ref u45, .ref u46, .ref u47])), (h1, .inl (k1, 600, .inl f_3298))]) [0, 1] rfl
  have hD9 := hD.sub (ws' := [(h0, .inr (13, [.ref h1, .int 16, .ref u0, .ref u1, .int 0, .ref u2, .ref u3, .ref u4, .ref u5, .ref u6, .ref u7, .ref u8, .ref u9, .int 0, .ref u10, .ref u11, .int 0, .ref u12, .int (-1), .ref u13, .int 0, .int 0, .ref u14, .int 0, .int 0, .ref u15, .ref u16, .ref u17, .ref u18, .ref u19, .int 0, .ref u20, .int 0, .int 0, .int 0, .int 0, .int 0, .int 0, .ref u21, .ref u22, .ref u23, .ref u24, .int 0, .ref u25, .ref u26, .ref u27, .ref u28, .int 0, .ref u29, .ref u30, .int 0, .int 0, .ref u31, .int 0, .int 0, .int 0, .ref u32, .ref u33, .ref u34, .int 0, .int 0, .ref u35, .ref u36, .ref u37, .ref u38, .ref u39, .ref u40, .ref u41, .ref u42, .ref u43, .ref u44, .int 0, .ref u45, .ref u46, .ref u47])), (h1, .inl (k1, 600, .inl f_3298))]) [0, 1] (by decide) rfl
  have hK9 := hK.sub (tys' := [(k1, .byte)]) [0] rfl
  refine W.widen (k := 0) (n := 0) (by decide) (by decide) ?_
  exact W.vret hx hb hr (fun t ht hW => ⟨⟨(), rfl, trivial, f_3298, by rw [ht]; exact hP9, va_K.moved hW.alike hK9, hD9⟩, hS.F ht⟩) hS.2.2 dX13_lay_36
set_option maxHeartbeats 4000000 in
set_option maxRecDepth 100000 in
theorem kX13_lay_4 (l : Launch) (dC : Nat → ClassId) (dI : Nat → Nat → Nat) (h0 h1 u0 u1 u2 u3 u4 u5 u6 u7 u8 u9 u10 u11 u12 u13 u14 u15 u16 u17 u18 u19 u20 u21 u22 u23 u24 u25 u26 u27 u28 u29 u30 u31 u32 u33 u34 u35 u36 u37 u38 u39 u40 u41 u42 u43 u44 u45 u46 u47 : Nat) (k1 : ClassId) (sz : Nat) (s0 : Int32) (s1 : Nat → Int32) : Met l yX13_lay (zw yX13_lay cX13_lay 3 none) { frames := 0, cells := 0, slots := 0, locals := 0 } (zPc dC dI [.ref h0, .int s0] sz [(h0, .inr (13, [.ref h1, .int 16, .ref u0, .ref u1, .int 0, .ref u2, .ref u3, .ref u4, .ref u5, .ref u6, .ref u7, .ref u8, .ref u9, .int 0, .ref u10, .ref u11, .int 0, .ref u12, .int (-1), .ref u13, .int 0, .int 0, .ref u14, .int 0, .int 0, .ref u15, .ref u16, .ref u17, .ref u18, .ref u19, .int 0, .ref u20, .int 0, .int 0, .int 0, .int 0, .int 0, .int 0, .ref u21, .ref u22, .ref u23, .ref u24, .int 0, .ref u25, .ref u26, .ref u27, .ref u28, .int 0, .ref u29, .ref u30, .int 0, .int 0, .ref u31, .int 0, .int 0, .int 0, .ref u32, .ref u33, .ref u34, .int 0, .int 0, .ref u35, .ref u36, .ref u37, .ref u38, .ref u39, .ref u40, .ref u41, .ref u42, .ref u43, .ref u44, .int 0, .ref u45, .ref u46, .ref u47])), (h1, .inl (k1, 600, .inl s1))] [(k1, .byte)]) (va_Qv (fun _ : Unit => True) (fun (_ : Unit) (t : State) => ∃ (f0 : Nat → Int32), va_P (dC, dI) vwCl [(h0, .inr (13, [.ref h1, .int 20, .ref u0, .ref u1, .int 0, .ref u2, .ref u3, .ref u4, .ref u5, .ref u6, .ref u7, .ref u8, .ref u9, .int 0, .ref u10, .ref u11, .int 0, .ref u12, .int (-1), .ref u13, .int 0, .int 0, .ref u14, .int 0, .int 0, .ref u15, .ref u16, .ref u17, .ref u18, .ref u19, .int 0, .ref u20, .int 0, .int 0, .int 0, .int 0, .int 0, .int 0, .ref u21, .ref u22, .ref u23, .ref u24, .int 0, .ref u25, .ref u26, .ref u27, .ref u28, .int 0, .ref u29, .ref u30, .int 0, .int 0, .ref u31, .int 0, .int 0, .int 0, .ref u32, .ref u33, .ref u34, .int 0, .int 0, .ref u35, .ref u36, .ref u37, .ref u38, .ref u39, .ref u40, .ref u41, .ref u42, .ref u43, .ref u44, .int 0, .ref u45, .ref u46, .ref u47])), (h1, .inl (k1, 600, .inl f0))] t.heap ∧ va_K (dC, dI) vwCl [(k1, .byte)] t ∧ va_D (va_A [(h0, .inr (13, [.ref h1, .int 16, .ref u0, .ref u1, .int 0, .ref u2, .ref u3, .ref u4, .ref u5, .ref u6, .ref u7, .ref u8, .ref u9, .int 0, .ref u10, .ref u11, .int 0, .ref u12, .int (-1), .ref u13, .int 0, .int 0, .ref u14, .int 0, .int 0, .ref u15, .ref u16, .ref u17, .ref u18, .ref u19, .int 0, .ref u20, .int 0, .int 0, .int 0, .int 0, .int 0, .int 0, .ref u21, .ref u22, .ref u23, .ref u24, .int 0, .ref u25, .ref u26, .ref u27, .ref u28, .int 0, .ref u29, .ref u30, .int 0, .int 0, .ref u31, .int 0, .int 0, .int 0, .ref u32, .ref u33, .ref u34, .int 0, .int 0, .ref u35, .ref u36, .ref u37, .ref u38, .ref u39, .ref u40, .ref u41, .ref u42, .ref u43, .ref u44, .int 0, .ref u45, .ref u46, .ref u47])), (h1, .inl (k1, 600, .inl s1))] sz) [(h0, .inr (13, [.ref h1, .int 20, .ref u0, .ref u1, .int 0, .ref u2, .ref u3, .ref u4, .ref u5, .ref u6, .ref u7, .ref u8, .ref u9, .int 0, .ref u10, .ref u11, .int 0, .ref u12, .int (-1), .ref u13, .int 0, .int 0, .ref u14, .int 0, .int 0, .ref u15, .ref u16, .ref u17, .ref u18, .ref u19, .int 0, .ref u20, .int 0, .int 0, .int 0, .int 0, .int 0, .int 0, .ref u21, .ref u22, .ref u23, .ref u24, .int 0, .ref u25, .ref u26, .ref u27, .ref u28, .int 0, .ref u29, .ref u30, .int 0, .int 0, .ref u31, .int 0, .int 0, .int 0, .ref u32, .ref u33, .ref u34, .int 0, .int 0, .ref u35, .ref u36, .ref u37, .ref u38, .ref u39, .ref u40, .ref u41, .ref u42, .ref u43, .ref u44, .int 0, .ref u45, .ref u46, .ref u47])), (h1, .inl (k1, 600, .inl f0))]) (va_A [(h0, .inr (13, [.ref h1, .int 16, .ref u0, .ref u1, .int 0, .ref u2, .ref u3, .ref u4, .ref u5, .ref u6, .ref u7, .ref u8, .ref u9, .int 0, .ref u10, .ref u11, .int 0, .ref u12, .int (-1), .ref u13, .int 0, .int 0, .ref u14, .int 0, .int 0, .ref u15, .ref u16, .ref u17, .ref u18, .ref u19, .int 0, .ref u20, .int 0, .int 0, .int 0, .int 0, .int 0, .int 0, .ref u21, .ref u22, .ref u23, .ref u24, .int 0, .ref u25, .ref u26, .ref u27, .ref u28, .int 0, .ref u29, .ref u30, .int 0, .int 0, .ref u31, .int 0, .int 0, .int 0, .ref u32, .ref u33, .ref u34, .int 0, .int 0, .ref u35, .ref u36, .ref u37, .ref u38, .ref u39, .ref u40, .ref u41, .ref u42, .ref u43, .ref u44, .int 0, .ref u45, .ref u46, .ref u47])), (h1, .inl (k1, 600, .inl s1))] sz)) 0 0 (va_A [(h0, .inr (13, [.ref h1, .int 16, .ref u0, .ref u1, .int 0, .ref u2, .ref u3, .ref u4, .ref u5, .ref u6, .ref u7, .ref u8, .ref u9, .int 0, .ref u10, .ref u11, .int 0, .ref u12, .int (-1), .ref u13, .int 0, .int 0, .ref u14, .int 0, .int 0, .ref u15, .ref u16, .ref u17, .ref u18, .ref u19, .int 0, .ref u20, .int 0, .int 0, .int 0, .int 0, .int 0, .int 0, .ref u21, .ref u22, .ref u23, .ref u24, .int 0, .ref u25, .ref u26, .ref u27, .ref u28, .int 0, .ref u29, .ref u30, .int 0, .int 0, .ref u31, .int 0, .int 0, .int 0, .ref u32, .ref u33, .ref u34, .int 0, .int 0, .ref u35, .ref u36, .ref u37, .ref u38, .ref u39, .ref u40, .ref u41, .ref u42, .ref u43, .ref u44, .int 0, .ref u45, .ref u46, .ref u47])), (h1, .inl (k1, 600, .inl s1))] sz) := by
  refine Met.ofW (cc := cX13_lay) (maxL := 3) (ret := none) (by decide) rfl ?_
  intro p e s m args below meth c s₁ B hml hv
  obtain ⟨rfl, hsz, hP, hK, hD0, hE, hZ⟩ := hv
  have hx := B.exec
  have hb := B.bytes
  have hr := B.returns
  have hG : ∀ w ∈ zG, w.before _ s = true := fun w h => atoms_spec (ws := (zw yX13_lay cX13_lay 3 none)) B.pre w (List.mem_cons_of_mem _ h)
  have hown : s.vm.findClass RX13 = some m.cls := findClass_of_methodNamed B.named
  have hlocks := B.notSynchronized
  subst hsz
  have hD := hD0.self (sz := s.heap.size)
  generalize hAe : va_A [(h0, .inr (13, [.ref h1, .int 16, .ref u0, .ref u1, .int 0, .ref u2, .ref u3, .ref u4, .ref u5, .ref u6, .ref u7, .ref u8, .ref u9, .int 0, .ref u10, .ref u11, .int 0, .ref u12, .int (-1), .ref u13, .int 0, .int 0, .ref u14, .int 0, .int 0, .ref u15, .ref u16, .ref u17, .ref u18, .ref u19, .int 0, .ref u20, .int 0, .int 0, .int 0, .int 0, .int 0, .int 0, .ref u21, .ref u22, .ref u23, .ref u24, .int 0, .ref u25, .ref u26, .ref u27, .ref u28, .int 0, .ref u29, .ref u30, .int 0, .int 0, .ref u31, .int 0, .int 0, .int 0, .ref u32, .ref u33, .ref u34, .int 0, .int 0, .ref u35, .ref u36, .ref u37, .ref u38, .ref u39, .ref u40, .ref u41, .ref u42, .ref u43, .ref u44, .int 0, .ref u45, .ref u46, .ref u47])), (h1, .inl (k1, 600, .inl s1))] s.heap.size = A at hD hZ ⊢
  have hA : ∀ q : Nat, s.heap.size ≤ q → A q := fun q h => by rw [← hAe]; exact Or.inr h
  have hS : va_S A s.heap s.heap [] := va_S.rf
  have hl := lv_entry ([.ref h0, .int s0]) (n := 3) (Nat.le_of_ble_eq_true rfl)
  rw [lg_entry_eq]
  generalize (lg_sl ([.ref h0, .int s0]) ++ List.replicate (3 - (lg_sl ([.ref h0, .int s0])).length) Slot.unset).toArray = ls at hl ⊢
  have hl : lv_has ls 3 [(0, .ref h0), (1, .int s0)] := hl
  refine lv_bipush (v := 24) hx hb dX13_lay_0 (by decide) ?_
  refine lv_istore_n (lv' := [(2, .int 24), (0, .ref h0), (1, .int s0)]) hx hb dX13_lay_2 rfl hl (by decide) rfl (fun ls hl => ?_)
  refine lv_iload_n hx hb dX13_lay_3 rfl (lv_at hl 0 rfl) ?_
  refine lv_if_lt (tgt := 36) hx hb dX13_lay_4 (by decide) (fun c_3346 => absurd c_3346 (by decide)) (fun c_3346 => ?_)
  refine lv_aload_n hx hb dX13_lay_7 rfl (lv_at hl 1 rfl) ?_
  refine va_get (D := (dC, dI)) (ci := 13) (v := .ref h1) (C := RX13) (T := TX13) (N := 75) hx hb hG zuX13 hown hK hP 0 rfl rfl 0 (by decide) (hG _ zw209) (fun _ h9 => h9) rfl dX13_lay_8 ?_
  refine lv_aload_n hx hb dX13_lay_11 rfl (lv_at hl 1 rfl) ?_
  refine va_get (D := (dC, dI)) (ci := 13) (v := .int 16) (C := RX13) (T := TX13) (N := 75) hx hb hG zuX13 hown hK hP 0 rfl rfl 1 (by decide) (hG _ zw303) (fun _ h9 => h9) rfl dX13_lay_12 ?_
  refine lv_iload_n hx hb dX13_lay_15 rfl (lv_at hl 2 rfl) ?_
  refine lv_iload_n hx hb dX13_lay_16 rfl (lv_at hl 0 rfl) ?_
  refine lv_ishr hx hb dX13_lay_17 ?_
  refine lv_topi (fun z_3347 e_z_3347 => ?_)
  refine lv_i2b hx hb dX13_lay_18 rfl ?_
  refine lv_topi (fun z_3348 e_z_3348 => ?_)
  refine va_bast hx hb hK hP hD hS 1 0 rfl rfl (zin_lit (by decide)) dX13_lay_19 (fun H locs hP hD hS => ?_)
  obtain ⟨f_3349, e_f_3349⟩ : ∃ z : Nat → Int32, z = upd s1 16 (vp_nar .byte z_3348) := ⟨_, rfl⟩
  have hP : va_P (dC, dI) vwCl [(h0, .inr (13, [.ref h1, .int 16, .ref u0, .ref u1, .int 0, .ref u2, .ref u3, .ref u4, .ref u5, .ref u6, .ref u7, .ref u8, .ref u9, .int 0, .ref u10, .ref u11, .int 0, .ref u12, .int (-1), .ref u13, .int 0, .int 0, .ref u14, .int 0, .int 0, .ref u15, .ref u16, .ref u17, .ref u18, .ref u19, .int 0, .ref u20, .int 0, .int 0, .int 0, .int 0, .int 0, .int 0, .ref u21, .ref u22, .ref u23, .ref u24, .int 0, .ref u25, .ref u26, .ref u27, .ref u28, .int 0, .ref u29, .ref u30, .int 0, .int 0, .ref u31, .int 0, .int 0, .int 0, .ref u32, .ref u33, .ref u34, .int 0, .int 0, .ref u35, .ref u36, .ref u37, .ref u38, .ref u39, .ref u40, .ref u41, .ref u42, .ref u43, .ref u44, .int 0, .ref u45, .ref u46, .ref u47])), (h1, .inl (k1, 600, .inl f_3349))] H := by rw [e_f_3349]; exact hP
  have hD : va_D A [(h0, .inr (13, [.ref h1, .int 16, .ref u0, .ref u1, .int 0, .ref u2, .ref u3, .ref u4, .ref u5, .ref u6, .ref u7, .ref u8, .ref u9, .int 0, .ref u10, .ref u11, .int 0, .ref u12, .int (-1), .ref u13, .int 0, .int 0, .ref u14, .int 0, .int 0, .ref u15, .ref u16, .ref u17, .ref u18, .ref u19, .int 0, .ref u20, .int 0, .int 0, .int 0, .int 0, .int 0, .int 0, .ref u21, .ref u22, .ref u23, .ref u24, .int 0, .ref u25, .ref u26, .ref u27, .ref u28, .int 0, .ref u29, .ref u30, .int 0, .int 0, .ref u31, .int 0, .int 0, .int 0, .ref u32, .ref u33, .ref u34, .int 0, .int 0, .ref u35, .ref u36, .ref u37, .ref u38, .ref u39, .ref u40, .ref u41, .ref u42, .ref u43, .ref u44, .int 0, .ref u45, .ref u46, .ref u47])), (h1, .inl (k1, 600, .inl f_3349))] := by rw [e_f_3349]; exact hD
  refine lv_aload_n hx hb dX13_lay_20 rfl (lv_at hl 1 rfl) ?_
  refine lv_dup hx hb dX13_lay_21 rfl ?_
  refine va_get (D := (dC, dI)) (ci := 13) (v := .int 16) (C := RX13) (T := TX13) (N := 75) hx hb hG zuX13 hown hK hP 0 rfl rfl 1 (by decide) (hG _ zw303) (fun _ h9 => h9) rfl dX13_lay_22 ?_
  refine lv_iconst (v := 1) hx hb dX13_lay_25 (by decide) ?_
  refine lv_iadd hx hb dX13_lay_26 ?_
  refine lv_topi (fun z_3350 e_z_3350 => ?_)
  obtain rfl : z_3350 = (17 : Int32) := e_z_3350.trans (by decide)
  refine va_put (D := (dC, dI)) (ci := 13) (v := .int 17) (ty := .int) (C := RX13) (T := TX13) (N := 75) hx hb hG zuX13 tyX13 tyX13_ok nmX13 hown hK hP hD hS 0 rfl rfl 1 (by decide) (hG _ zw303) (fun _ h9 => h9) rfl (by decide +kernel) rfl rfl (Nat.le_of_ble_eq_true rfl) dX13_lay_27 (fun H locs hP hD hS => ?_)
  have hP : va_P (dC, dI) vwCl [(h0, .inr (13, [.ref h1, .int 17, .ref u0, .ref u1, .int 0, .ref u2, .ref u3, .ref u4, .ref u5, .ref u6, .ref u7, .ref u8, .ref u9, .int 0, .ref u10, .ref u11, .int 0, .ref u12, .int (-1), .ref u13, .int 0, .int 0, .ref u14, .int 0, .int 0, .ref u15, .ref u16, .ref u17, .ref u18, .ref u19, .int 0, .ref u20, .int 0, .int 0, .int 0, .int 0, .int 0, .int 0, .ref u21, .ref u22, .ref u23, .ref u24, .int 0, .ref u25, .ref u26, .ref u27, .ref u28, .int 0, .ref u29, .ref u30, .int 0, .int 0, .ref u31, .int 0, .int 0, .int 0, .ref u32, .ref u33, .ref u34, .int 0, .int 0, .ref u35, .ref u36, .ref u37, .ref u38, .ref u39, .ref u40, .ref u41, .ref u42, .ref u43, .ref u44, .int 0, .ref u45, .ref u46, .ref u47])), (h1, .inl (k1, 600, .inl f_3349))] H := hP
  have hD : va_D A [(h0, .inr (13, [.ref h1, .int 17, .ref u0, .ref u1, .int 0, .ref u2, .ref u3, .ref u4, .ref u5, .ref u6, .ref u7, .ref u8, .ref u9, .int 0, .ref u10, .ref u11, .int 0, .ref u12, .int (-1), .ref u13, .int 0, .int 0, .ref u14, .int 0, .int 0, .ref u15, .ref u16, .ref u17, .ref u18, .ref u19, .int 0, .ref u20, .int 0, .int 0, .int 0, .int 0, .int 0, .int 0, .ref u21, .ref u22, .ref u23, .ref u24, .int 0, .ref u25, .ref u26, .ref u27, .ref u28, .int 0, .ref u29, .ref u30, .int 0, .int 0, .ref u31, .int 0, .int 0, .int 0, .ref u32, .ref u33, .ref u34, .int 0, .int 0, .ref u35, .ref u36, .ref u37, .ref u38, .ref u39, .ref u40, .ref u41, .ref u42, .ref u43, .ref u44, .int 0, .ref u45, .ref u46, .ref u47])), (h1, .inl (k1, 600, .inl f_3349))] := hD
  refine lv_iinc (v := 16) (lv' := [(2, .int 16), (0, .ref h0), (1, .int s0)]) hx hb dX13_lay_30 hl (k := 0) rfl (by decide) (by decide) rfl (fun ls hl => ?_)
  refine lv_goto (tgt := 3) hx hb dX13_lay_33 (by decide) ?_
  refine lv_iload_n hx hb dX13_lay_3 rfl (lv_at hl 0 rfl) ?_
  refine lv_if_lt (tgt := 36) hx hb dX13_lay_4 (by decide) (fun c_3351 => absurd c_3351 (by decide)) (fun c_3351 => ?_)
  refine lv_aload_n hx hb dX13_lay_7 rfl (lv_at hl 1 rfl) ?_
  refine va_get (D := (dC, dI)) (ci := 13) (v := .ref h1) (C := RX13) (T := TX13) (N := 75) hx hb hG zuX13 hown hK hP 0 rfl rfl 0 (by decide) (hG _ zw209) (fun _ h9 => h9) rfl dX13_lay_8 ?_
  refine lv_aload_n hx hb dX13_lay_11 rfl (lv_at hl 1 rfl) ?_
  refine va_get (D := (dC, dI)) (ci := 13) (v := .int 17) (C := RX13) (T := TX13) (N := 75) hx hb hG zuX13 hown hK hP 0 rfl rfl 1 (by decide) (hG _ zw303) (fun _ h9 => h9) rfl dX13_lay_12 ?_
  refine lv_iload_n hx hb dX13_lay_15 rfl (lv_at hl 2 rfl) ?_
  refine lv_iload_n hx hb dX13_lay_16 rfl (lv_at hl 0 rfl) ?_
  refine lv_ishr hx hb dX13_lay_17 ?_
  refine lv_topi (fun z_3352 e_z_3352 => ?_)
  refine lv_i2b hx hb dX13_lay_18 rfl ?_
  refine lv_topi (fun z_3353 e_z_3353 => ?_)
  refine va_bast hx hb hK hP hD hS 1 0 rfl rfl (zin_lit (by decide)) dX13_lay_19 (fun H locs hP hD hS => ?_)
  obtain ⟨f_3354, e_f_3354⟩ : ∃ z : Nat → Int32, z = upd f_3349 17 (vp_nar .byte z_3353) := ⟨_, rfl⟩
  have hP : va_P (dC, dI) vwCl [(h0, .inr (13, [.ref h1, .int 17, .ref u0, .ref u1, .int 0, .ref u2, .ref u3, .ref u4, .ref u5, .ref u6, .ref u7, .ref u8, .ref u9, .int 0, .ref u10, .ref u11, .int 0, .ref u12, .int (-1), .ref u13, .int 0, .int 0, .ref u14, .int 0, .int 0, .ref u15, .ref u16, .ref u17, .ref u18, .ref u19, .int 0, .ref u20, .int 0, .int 0, .int 0, .int 0, .int 0, .int 0, .ref u21, .ref u22, .ref u23, .ref u24, .int 0, .ref u25, .ref u26, .ref u27, .ref u28, .int 0, .ref u29, .ref u30, .int 0, .int 0, .ref u31, .int 0, .int 0, .int 0, .ref u32, .ref u33, .ref u34, .int 0, .int 0, .ref u35, .ref u36, .ref u37, .ref u38, .ref u39, .ref u40, .ref u41, .ref u42, .ref u43, .ref u44, .int 0, .ref u45, .ref u46, .ref u47])), (h1, .inl (k1, 600, .inl f_3354))] H := by rw [e_f_3354]; exact hP
  have hD : va_D A [(h0, .inr (13, [.ref h1, .int 17, .ref u0, .ref u1, .int 0, .ref u2, .ref u3, .ref u4, .ref u5, .ref u6, .ref u7, .ref u8, .ref u9, .int 0, .ref u10, .ref u11, .int 0, .ref u12, .int (-1), .ref u13, .int 0, .int 0, .ref u14, .int 0, .int 0, .ref u15, .ref u16, .ref u17, .ref u18, .ref u19, .int 0, .ref u20, .int 0, .int 0, .int 0, .int 0, .int 0, .int 0, .ref u21, .ref u22, .ref u23, .ref u24, .int 0, .ref u25, .ref u26, .ref u27, .ref u28, .int 0, .ref u29, .ref u30, .int 0, .int 0, .ref u31, .int 0, .int 0, .int 0, .ref u32, .ref u33, .ref u34, .int 0, .int 0, .ref u35, .ref u36, .ref u37, .ref u38, .ref u39, .ref u40, .ref u41, .ref u42, .ref u43, .ref u44, .int 0, .ref u45, .ref u46, .ref u47])), (h1, .inl (k1, 600, .inl f_3354))] := by rw [e_f_3354]; exact hD
  refine lv_aload_n hx hb dX13_lay_20 rfl (lv_at hl 1 rfl) ?_
  refine lv_dup hx hb dX13_lay_21 rfl ?_
  refine va_get (D := (dC, dI)) (ci := 13) (v := .int 17) (C := RX13) (T := TX13) (N := 75) hx hb hG zuX13 hown hK hP 0 rfl rfl 1 (by decide) (hG _ zw303) (fun _ h9 => h9) rfl dX13_lay_22 ?_
  refine lv_iconst (v := 1) hx hb dX13_lay_25 (by decide) ?_
  refine lv_iadd hx hb dX13_lay_26 ?_
  refine lv_topi (fun z_3355 e_z_3355 => ?_)
  obtain rfl : z_3355 = (18 : Int32) := e_z_3355.trans (by decide)
  refine va_put (D := (dC, dI)) (ci := 13) (v := .int 18) (ty := .int) (C := RX13) (T := TX13) (N := 75) hx hb hG zuX13 tyX13 tyX13_ok nmX13 hown hK hP hD hS 0 rfl rfl 1 (by decide) (hG _ zw303) (fun _ h9 => h9) rfl (by decide +kernel) rfl rfl (Nat.le_of_ble_eq_true rfl) dX13_lay_27 (fun H locs hP hD hS => ?_)
  have hP : va_P (dC, dI) vwCl [(h0, .inr (13, [.ref h1, .int 18, .ref u0, .ref u1, .int 0, .ref u2, .ref u3, .ref u4, .ref u5, .ref u6, .ref u7, .ref u8, .ref u9, .int 0, .ref u10, .ref u11, .int 0, .ref u12, .int (-1), .ref u13, .int 0, .int 0, .ref u14, .int 0, .int 0, .ref u15, .ref u16, .ref u17, .ref u18, .ref u19, .int 0, .ref u20, .int 0, .int 0, .int 0, .int 0, .int 0, .int 0, .ref u21, .ref u22, .ref u23, .ref u24, .int 0, .ref u25, .ref u26, .ref u27, .ref u28, .int 0, .ref u29, .ref u30, .int 0, .int 0, .ref u31, .int 0, .int 0, .int 0, .ref u32, .ref u33, .ref u34, .int 0, .int 0, .ref u35, .ref u36, .ref u37, .ref u38, .ref u39, .ref u40, .ref u41, .ref u42, .ref u43, .ref u44, .int 0, .ref u45, .ref u46, .ref u47])), (h1, .inl (k1, 600, .inl f_3354))] H := hP
  have hD : va_D A [(h0, .inr (13, [.ref h1, .int 18, .ref u0, .ref u1, .int 0, .ref u2, .ref u3, .ref u4, .ref u5, .ref u6, .ref u7, .ref u8, .ref u9, .int 0, .ref u10, .ref u11, .int 0, .ref u12, .int (-1), .ref u13, .int 0, .int 0, .ref u14, .int 0, .int 0, .ref u15, .ref u16, .ref u17, .ref u18, .ref u19, .int 0, .ref u20, .int 0, .int 0, .int 0, .int 0, .int 0, .int 0, .ref u21, .ref u22, .ref u23, .ref u24, .int 0, .ref u25, .ref u26, .ref u27, .ref u28, .int 0, .ref u29, .ref u30, .int 0, .int 0, .ref u31, .int 0, .int 0, .int 0, .ref u32, .ref u33, .ref u34, .int 0, .int 0, .ref u35, .ref u36, .ref u37, .ref u38, .ref u39, .ref u40, .ref u41, .ref u42, .ref u43, .ref u44, .int 0, .ref u45, .ref u46, .ref u47])), (h1, .inl (k1, 600, .inl f_3354))] := hD
  refine lv_iinc (v := 8) (lv' := [(2, .int 8), (0, .ref h0), (1, .int s0)]) hx hb dX13_lay_30 hl (k := 0) rfl (by decide) (by decide) rfl (fun ls hl => ?_)
  refine lv_goto (tgt := 3) hx hb dX13_lay_33 (by decide) ?_
  refine lv_iload_n hx hb dX13_lay_3 rfl (lv_at hl 0 rfl) ?_
  refine lv_if_lt (tgt := 36) hx hb dX13_lay_4 (by decide) (fun c_3356 => absurd c_3356 (by decide)) (fun c_3356 => ?_)
  refine lv_aload_n hx hb dX13_lay_7 rfl (lv_at hl 1 rfl) ?_
  refine va_get (D := (dC, dI)) (ci := 13) (v := .ref h1) (C := RX13) (T := TX13) (N := 75) hx hb hG zuX13 hown hK hP 0 rfl rfl 0 (by decide) (hG _ zw209) (fun _ h9 => h9) rfl dX13_lay_8 ?_
  refine lv_aload_n hx hb dX13_lay_11 rfl (lv_at hl 1 rfl) ?_
  refine va_get (D := (dC, dI)) (ci := 13) (v := .int 18) (C := RX13) (T := TX13) (N := 75) hx hb hG zuX13 hown hK hP 0 rfl rfl 1 (by decide) (hG _ zw303) (fun _ h9 => h9) rfl dX13_lay_12 ?_
  refine lv_iload_n hx hb dX13_lay_15 rfl (lv_at hl 2 rfl) ?_
  refine lv_iload_n hx hb dX13_lay_16 rfl (lv_at hl 0 rfl) ?_
  refine lv_ishr hx hb dX13_lay_17 ?_
  refine lv_topi (fun z_3357 e_z_3357 => ?_)
  refine lv_i2b hx hb dX13_lay_18 rfl ?_
  refine lv_topi (fun z_3358 e_z_3358 => ?_)
  refine va_bast hx hb hK hP hD hS 1 0 rfl rfl (zin_lit (by decide)) dX13_lay_19 (fun H locs hP hD hS => ?_)
  obtain ⟨f_3359, e_f_3359⟩ : ∃ z : Nat → Int32, z = upd f_3354 18 (vp_nar .byte z_3358) := ⟨_, rfl⟩
  have hP : va_P (dC, dI) vwCl [(h0, .inr (13, [.ref h1, .int 18, .ref u0, .ref u1, .int 0, .ref u2, .ref u3, .ref u4, .ref u5, .ref u6, .ref u7, .ref u8, .ref u9, .int 0, .ref u10, .ref u11, .int 0, .ref u12, .int (-1), .ref u13, .int 0, .int 0, .ref u14, .int 0, .int 0, .ref u15, .ref u16, .ref u17, .ref u18, .ref u19, .int 0, .ref u20, .int 0, .int 0, .int 0, .int 0, .int 0, .int 0, .ref u21, .ref u22, .ref u23, .ref u24, .int 0, .ref u25, .ref u26, .ref u27, .ref u28, .int 0, .ref u29, .ref u30, .int 0, .int 0, .ref u31, .int 0, .int 0, .int 0, .ref u32, .ref u33, .ref u34, .int 0, .int 0, .ref u35, .ref u36, .ref u37, .ref u38, .ref u39, .ref u40, .ref u41, .ref u42, .ref u43, .ref u44, .int 0, .ref u45, .ref u46, .ref u47])), (h1, .inl (k1, 600, .inl f_3359))] H := by rw [e_f_3359]; exact hP
  have hD : va_D A [(h0, .inr (13, [.ref h1, .int 18, .ref u0, .ref u1, .int 0, .ref u2, .ref u3, .ref u4, .ref u5, .ref u6, .ref u7, .ref u8, .ref u9, .int 0, .ref u10, .ref u11, .int 0, .ref u12, .int (-1), .ref u13, .int 0, .int 0, .ref u14, .int 0, .int 0, .ref u15, .ref u16, .ref u17, .ref u18, .ref u19, .int 0, .ref u20, .int 0, .int 0, .int 0, .int 0, .int 0, .int 0, .ref u21, .ref u22, .ref u23, .ref u24, .int 0, .ref u25, .ref u26, .ref u27, .ref u28, .int 0, .ref u29, .ref u30, .int 0, .int 0, .ref u31, .int 0, .int 0, .int 0, .ref u32, .ref u33, .ref u34, .int 0, .int 0, .ref u35, .ref u36, .ref u37, .ref u38, .ref u39, .ref u40, .ref u41, .ref u42, .ref u43, .ref u44, .int 0, .ref u45, .ref u46, .ref u47])), (h1, .inl (k1, 600, .inl f_3359))] := by rw [e_f_3359]; exact hD
  refine lv_aload_n hx hb dX13_lay_20 rfl (lv_at hl 1 rfl) ?_
  refine lv_dup hx hb dX13_lay_21 rfl ?_
  refine va_get (D := (dC, dI)) (ci := 13) (v := .int 18) (C := RX13) (T := TX13) (N := 75) hx hb hG zuX13 hown hK hP 0 rfl rfl 1 (by decide) (hG _ zw303) (fun _ h9 => h9) rfl dX13_lay_22 ?_
  refine lv_iconst (v := 1) hx hb dX13_lay_25 (by decide) ?_
  refine lv_iadd hx hb dX13_lay_26 ?_
  refine lv_topi (fun z_3360 e_z_3360 => ?_)
  obtain rfl : z_3360 = (19 : Int32) := e_z_3360.trans (by decide)
  refine va_put (D := (dC, dI)) (ci := 13) (v := .int 19) (ty := .int) (C := RX13) (T := TX13) (N := 75) hx hb hG zuX13 tyX13 tyX13_ok nmX13 hown hK hP hD hS 0 rfl rfl 1 (by decide) (hG _ zw303) (fun _ h9 => h9) rfl (by decide +kernel) rfl rfl (Nat.le_of_ble_eq_true rfl) dX13_lay_27 (fun H locs hP hD hS => ?_)
  have hP : va_P (dC, dI) vwCl [(h0, .inr (13, [.ref h1, .int 19, .ref u0, .ref u1, .int 0, .ref u2, .ref u3, .ref u4, .ref u5, .ref u6, .ref u7, .ref u8, .ref u9, .int 0, .ref u10, .ref u11, .int 0, .ref u12, .int (-1), .ref u13, .int 0, .int 0, .ref u14, .int 0, .int 0, .ref u15, .ref u16, .ref u17, .ref u18, .ref u19, .int 0, .ref u20, .int 0, .int 0, .int 0, .int 0, .int 0, .int 0, .ref u21, .ref u22, .ref u23, .ref u24, .int 0, .ref u25, .ref u26, .ref u27, .ref u28, .int 0, .ref u29, .ref u30, .int 0, .int 0, .ref u31, .int 0, .int 0, .int 0, .ref u32, .ref u33, .ref u34, .int 0, .int 0, .ref u35, .ref u36, .ref u37, .ref u38, .ref u39, .ref u40, .ref u41, .ref u42, .ref u43, .ref u44, .int 0, .ref u45, .ref u46, .ref u47])), (h1, .inl (k1, 600, .inl f_3359))] H := hP
  have hD : va_D A [(h0, .inr (13, [.ref h1, .int 19, .ref u0, .ref u1, .int 0, .ref u2, .ref u3, .ref u4, .ref u5, .ref u6, .ref u7, .ref u8, .ref u9, .int 0, .ref u10, .ref u11, .int 0, .ref u12, .int (-1), .ref u13, .int 0, .int 0, .ref u14, .int 0, .int 0, .ref u15, .ref u16, .ref u17, .ref u18, .ref u19, .int 0, .ref u20, .int 0, .int 0, .int 0, .int 0, .int 0, .int 0, .ref u21, .ref u22, .ref u23, .ref u24, .int 0, .ref u25, .ref u26, .ref u27, .ref u28, .int 0, .ref u29, .ref u30, .int 0, .int 0, .ref u31, .int 0, .int 0, .int 0, .ref u32, .ref u33, .ref u34, .int 0, .int 0, .ref u35, .ref u36, .ref u37, .ref u38, .ref u39, .ref u40, .ref u41, .ref u42, .ref u43, .ref u44, .int 0, .ref u45, .ref u46, .ref u47])), (h1, .inl (k1, 600, .inl f_3359))] := hD
  refine lv_iinc (v := 0) (lv' := [(2, .int 0), (0, .ref h0), (1, .int s0)]) hx hb dX13_lay_30 hl (k := 0) rfl (by decide) (by decide) rfl (fun ls hl => ?_)
  refine lv_goto (tgt := 3) hx hb dX13_lay_33 (by decide) ?_
  refine lv_iload_n hx hb dX13_lay_3 rfl (lv_at hl 0 rfl) ?_
  refine lv_if_lt (tgt := 36) hx hb dX13_lay_4 (by decide) (fun c_3361 => absurd c_3361 (by decide)) (fun c_3361 => ?_)
  refine lv_aload_n hx hb dX13_lay_7 rfl (lv_at hl 1 rfl) ?_
  refine va_get (D := (dC, dI)) (ci := 13) (v := .ref h1) (C := RX13) (T := TX13) (N := 75) hx hb hG zuX13 hown hK hP 0 rfl rfl 0 (by decide) (hG _ zw209) (fun _ h9 => h9) rfl dX13_lay_8 ?_
  refine lv_aload_n hx hb dX13_lay_11 rfl (lv_at hl 1 rfl) ?_
  refine va_get (D := (dC, dI)) (ci := 13) (v := .int 19) (C := RX13) (T := TX13) (N := 75) hx hb hG zuX13 hown hK hP 0 rfl rfl 1 (by decide) (hG _ zw303) (fun _ h9 => h9) rfl dX13_lay_12 ?_
  refine lv_iload_n hx hb dX13_lay_15 rfl (lv_at hl 2 rfl) ?_
  refine lv_iload_n hx hb dX13_lay_16 rfl (lv_at hl 0 rfl) ?_
  refine lv_ishr hx hb dX13_lay_17 ?_
  refine lv_topi (fun z_3362 e_z_3362 => ?_)
  refine lv_i2b hx hb dX13_lay_18 rfl ?_
  refine lv_topi (fun z_3363 e_z_3363 => ?_)
  refine va_bast hx hb hK hP hD hS 1 0 rfl rfl (zin_lit (by decide)) dX13_lay_19 (fun H locs hP hD hS => ?_)
  obtain ⟨f_3364, e_f_3364⟩ : ∃ z : Nat → Int32, z = upd f_3359 19 (vp_nar .byte z_3363) := ⟨_, rfl⟩
  have hP : va_P (dC, dI) vwCl [(h0, .inr (13, [.ref h1, .int 19, .ref u0, .ref u1, .int 0, .ref u2, .ref u3, .ref u4, .ref u5, .ref u6, .ref u7, .ref u8, .ref u9, .int 0, .ref u10, .ref u11, .int 0, .ref u12, .int (-1), .ref u13, .int 0, .int 0, .ref u14, .int 0, .int 0, .ref u15, .ref u16, .ref u17, .ref u18, .ref u19, .int 0, .ref u20, .int 0, .int 0, .int 0, .int 0, .int 0, .int 0, .ref u21, .ref u22, .ref u23, .ref u24, .int 0, .ref u25, .ref u26, .ref u27, .ref u28, .int 0, .ref u29, .ref u30, .int 0, .int 0, .ref u31, .int 0, .int 0, .int 0, .ref u32, .ref u33, .ref u34, .int 0, .int 0, .ref u35, .ref u36, .ref u37, .ref u38, .ref u39, .ref u40, .ref u41, .ref u42, .ref u43, .ref u44, .int 0, .ref u45, .ref u46, .ref u47])), (h1, .inl (k1, 600, .inl f_3364))] H := by rw [e_f_3364]; exact hP
  have hD : va_D A [(h0, .inr (13, [.ref h1, .int 19, .ref u0, .ref u1, .int 0, .ref u2, .ref u3, .ref u4, .ref u5, .ref u6, .ref u7, .ref u8, .ref u9, .int 0, .ref u10, .ref u11, .int 0, .ref u12, .int (-1), .ref u13, .int 0, .int 0, .ref u14, .int 0, .int 0, .ref u15, .ref u16, .ref u17, .ref u18, .ref u19, .int 0, .ref u20, .int 0, .int 0, .int 0, .int 0, .int 0, .int 0, .ref u21, .ref u22, .ref u23, .ref u24, .int 0, .ref u25, .ref u26, .ref u27, .ref u28, .int 0, .ref u29, .ref u30, .int 0, .int 0, .ref u31, .int 0, .int 0, .int 0, .ref u32, .ref u33, .ref u34, .int 0, .int 0, .ref u35, .ref u36, .ref u37, .ref u38, .ref u39, .ref u40, .ref u41, .ref u42, .ref u43, .ref u44, .int 0, .ref u45, .ref u46, .ref u47])), (h1, .inl (k1, 600, .inl f_3364))] := by rw [e_f_3364]; exact hD
  refine lv_aload_n hx hb dX13_lay_20 rfl (lv_at hl 1 rfl) ?_
  refine lv_dup hx hb dX13_lay_21 rfl ?_
  refine va_get (D := (dC, dI)) (ci := 13) (v := .int 19) (C := RX13) (T := TX13) (N := 75) hx hb hG zuX13 hown hK hP 0 rfl rfl 1 (by decide) (hG _ zw303) (fun _ h9 => h9) rfl dX13_lay_22 ?_
  refine lv_iconst (v := 1) hx hb dX13_lay_25 (by decide) ?_
  refine lv_iadd hx hb dX13_lay_26 ?_
  refine lv_topi (fun z_3365 e_z_3365 => ?_)
  obtain rfl : z_3365 = (20 : Int32) := e_z_3365.trans (by decide)
  refine va_put (D := (dC, dI)) (ci := 13) (v := .int 20) (ty := .int) (C := RX13) (T := TX13) (N := 75) hx hb hG zuX13 tyX13 tyX13_ok nmX13 hown hK hP hD hS 0 rfl rfl 1 (by decide) (hG _ zw303) (fun _ h9 => h9) rfl (by decide +kernel) rfl rfl (Nat.le_of_ble_eq_true rfl) dX13_lay_27 (fun H locs hP hD hS => ?_)
  have hP : va_P (dC, dI) vwCl [(h0, .inr (13, [.ref h1, .int 20, .ref u0, .ref u1, .int 0, .ref u2, .ref u3, .ref u4, .ref u5, .ref u6, .ref u7, .ref u8, .ref u9, .int 0, .ref u10, .ref u11, .int 0, .ref u12, .int (-1), .ref u13, .int 0, .int 0, .ref u14, .int 0, .int 0, .ref u15, .ref u16, .ref u17, .ref u18, .ref u19, .int 0, .ref u20, .int 0, .int 0, .int 0, .int 0, .int 0, .int 0, .ref u21, .ref u22, .ref u23, .ref u24, .int 0, .ref u25, .ref u26, .ref u27, .ref u28, .int 0, .ref u29, .ref u30, .int 0, .int 0, .ref u31, .int 0, .int 0, .int 0, .ref u32, .ref u33, .ref u34, .int 0, .int 0, .ref u35, .ref u36, .ref u37, .ref u38, .ref u39, .ref u40, .ref u41, .ref u42, .ref u43, .ref u44, .int 0, .ref u45, .ref u46, .ref u47])), (h1, .inl (k1, 600, .inl f_3364))] H := hP
  have hD : va_D A [(h0, .inr (13, [.ref h1, .int 20, .ref u0, .ref u1, .int 0, .ref u2, .ref u3, .ref u4, .ref u5, .ref u6, .ref u7, .ref u8, .ref u9, .int 0, .ref u10, .ref u11, .int 0, .ref u12, .int (-1), .ref u13, .int 0, .int 0, .ref u14, .int 0, .int 0, .ref u15, .ref u16, .ref u17, .ref u18, .ref u19, .int 0, .ref u20, .int 0, .int 0, .int 0, .int 0, .int 0, .int 0, .ref u21, .ref u22, .ref u23, .ref u24, .int 0, .ref u25, .ref u26, .ref u27, .ref u28, .int 0, .ref u29, .ref u30, .int 0, .int 0, .ref u31, .int 0, .int 0, .int 0, .ref u32, .ref u33, .ref u34, .int 0, .int 0, .ref u35, .ref u36, .ref u37, .ref u38, .ref u39, .ref u40, .ref u41, .ref u42, .ref u43, .ref u44, .int 0, .ref u45, .ref u46, .ref u47])), (h1, .inl (k1, 600, .inl f_3364))] := hD
  refine lv_iinc (v := (-8)) (lv' := [(2, .int (-8)), (0, .ref h0), (1, .int s0)]) hx hb dX13_lay_30 hl (k := 0) rfl (by decide) (by decide) rfl (fun ls hl => ?_)
  refine lv_goto (tgt := 3) hx hb dX13_lay_33 (by decide) ?_
  refine lv_iload_n hx hb dX13_lay_3 rfl (lv_at hl 0 rfl) ?_
  refine lv_if_lt (tgt := 36) hx hb dX13_lay_4 (by decide) (fun c_3366 => ?_) (fun c_3366 => absurd c_3366 (by decide))
  have hP9 := hP.sub (ws' := [(h0, .inr (13, [.ref h1, .int 20, .ref u0, .ref u1, .int 0, .ref u2, .ref u3, .ref u4, .ref u5, .ref u6, .ref u7, .ref u8, .ref u9, .int 0, .ref u10, .ref u11, .int 0, .ref u12, .int (-1), .ref u13, .int 0, .int 0, .ref u14, .int 0, .int 0, .ref u15, .ref u16, .ref u17, .ref u18, .ref u19, .int 0, .ref u20, .int 0, .int 0, .int 0, .int 0, .int 0, .int 0, .ref u21, .ref u22, .ref u23, .ref u24, .int 0, .ref u25, .ref u26, .ref u27, .ref u28, .int 0, .ref u29, .ref u30, .int 0, .int 0, .ref u31, .int 0, .int 0, .int 0, .ref u32, .ref u33, .ref u34, .int 0, .int 0, .ref u35, .ref u36, .ref u37, .ref u38, .ref u39, .ref u40, .ref u41, .ref u42, .ref u43, .ref u44, .int 0, .ref u45, .ref u46, .ref u47])), (h1, .inl (k1, 600, .inl f_3364))]) [0, 1] rfl
  have hD9 := hD.sub (ws' := [(h0, .inr (13, [.ref h1, .int 20, .ref u0, .ref u1, .int 0, .ref u2, .ref u3, .ref u4, .ref u5, .ref u6, .ref u7, .ref u8, .ref u9, .int 0, .ref u10, .ref u11, .int 0, .ref u12, .int (-1), .ref u13, .int 0, .int 0, .ref u14, .int 0, .int 0, .ref u15, .ref u16, .ref u17, .ref u18, .ref u19, .int 0, .ref u20, .int 0, .int 0, .int 0, .int 0, .int 0, .int 0, .ref u21, .ref u22, .ref u23, .ref u24, .int 0, .ref u25, .ref u26, .ref u27, .ref u28, .int 0, .ref u29, .ref u30, .int 0, .int 0, .ref u31, .int 0, .int 0, .int 0, .ref u32, .ref u33, .ref u34, .int 0, .int 0, .ref u35, .ref u36, .ref u37, .ref u38, .ref u39, .ref u40, .ref u41, .ref u42, .ref u43, .ref u44, .int 0, .ref u45, .ref u46, .ref u47])), (h1, .inl (k1, 600, .inl f_3364))]) [0, 1] (by decide) rfl
  have hK9 := hK.sub (tys' := [(k1, .byte)]) [0] rfl
  refine W.widen (k := 0) (n := 0) (by decide) (by decide) ?_
  exact W.vret hx hb hr (fun t ht hW => ⟨⟨(), rfl, trivial, f_3364, by rw [ht]; exact hP9, va_K.moved hW.alike hK9, hD9⟩, hS.F ht⟩) hS.2.2 dX13_lay_36
set_option maxHeartbeats 4000000 in
set_option maxRecDepth 100000 in
theorem kX13_feed_0 (l : Launch) (dC : Nat → ClassId) (dI : Nat → Nat → Nat) (h0 h1 u0 u1 u2 u3 u4 u5 u6 u7 u8 u9 u10 u11 u12 u13 u14 u15 u16 u17 u18 u19 u20 u21 u22 u23 u24 u25 u26 u27 u28 u29 u30 u31 u32 u33 u34 u35 u36 u37 u38 u39 u40 u41 u42 u43 u44 u45 u46 u47 : Nat) (k1 : ClassId) (sz : Nat) (s0 : Int32) (s1 : Int32) (s2 : Int32) (s3 : Int32) (s4 : Int32) : Met l yX13_feed (zw yX13_feed cX13_feed 6 (some .int)) { frames := 1, cells := 0, slots := 0, locals := 22 } (zPc dC dI [.ref h0, .int s0, .int s1, .int s2, .int s3, .int s4] sz [(h0, .inr (13, [.ref h1, .int 0, .ref u0, .ref u1, .int 0, .ref u2, .ref u3, .ref u4, .ref u5, .ref u6, .ref u7, .ref u8, .ref u9, .int 0, .ref u10, .ref u11, .int 0, .ref u12, .int (-1), .ref u13, .int 0, .int 0, .ref u14, .int 0, .int 0, .ref u15, .ref u16, .ref u17, .ref u18, .ref u19, .int 0, .ref u20, .int 0, .int 0, .int 0, .int 0, .int 0, .int 0, .ref u21, .ref u22, .ref u23, .ref u24, .int 0, .ref u25, .ref u26, .ref u27, .ref u28, .int 0, .ref u29, .ref u30, .int 0, .int 0, .ref u31, .int 0, .int 0, .int 0, .ref u32, .ref u33, .ref u34, .int 0, .int 0, .ref u35, .ref u36, .ref u37, .ref u38, .ref u39, .ref u40, .ref u41, .ref u42, .ref u43, .ref u44, .int 0, .ref u45, .ref u46, .ref u47])), (h1, .inl (k1, 600, .inl (fun _ => 0)))] [(k1, .byte)]) (va_Qi (fun (r : Int32) (_ : Unit) => r = 20) (fun (_ : Unit) (t : State) => ∃ (f0 : Nat → Int32), va_P (dC, dI) vwCl [(h0, .inr (13, [.ref h1, .int 20, .ref u0, .ref u1, .int 0, .ref u2, .ref u3, .ref u4, .ref u5, .ref u6, .ref u7, .ref u8, .ref u9, .int 0, .ref u10, .ref u11, .int 0, .ref u12, .int (-1), .ref u13, .int 0, .int 0, .ref u14, .int 0, .int 0, .ref u15, .ref u16, .ref u17, .ref u18, .ref u19, .int 0, .ref u20, .int 0, .int 0, .int 0, .int 0, .int 0, .int 0, .ref u21, .ref u22, .ref u23, .ref u24, .int 0, .ref u25, .ref u26, .ref u27, .ref u28, .int 0, .ref u29, .ref u30, .int 0, .int 0, .ref u31, .int 0, .int 0, .int 0, .ref u32, .ref u33, .ref u34, .int 0, .int 0, .ref u35, .ref u36, .ref u37, .ref u38, .ref u39, .ref u40, .ref u41, .ref u42, .ref u43, .ref u44, .int 0, .ref u45, .ref u46, .ref u47])), (h1, .inl (k1, 600, .inl f0))] t.heap ∧ va_K (dC, dI) vwCl [(k1, .byte)] t ∧ va_D (va_A [(h0, .inr (13, [.ref h1, .int 0, .ref u0, .ref u1, .int 0, .ref u2, .ref u3, .ref u4, .ref u5, .ref u6, .ref u7, .ref u8, .ref u9, .int 0, .ref u10, .ref u11, .int 0, .ref u12, .int (-1), .ref u13, .int 0, .int 0, .ref u14, .int 0, .int 0, .ref u15, .ref u16, .ref u17, .ref u18, .ref u19, .int 0, .ref u20, .int 0, .int 0, .int 0, .int 0, .int 0, .int 0, .ref u21, .ref u22, .ref u23, .ref u24, .int 0, .ref u25, .ref u26, .ref u27, .ref u28, .int 0, .ref u29, .ref u30, .int 0, .int 0, .ref u31, .int 0, .int 0, .int 0, .ref u32, .ref u33, .ref u34, .int 0, .int 0, .ref u35, .ref u36, .ref u37, .ref u38, .ref u39, .ref u40, .ref u41, .ref u42, .ref u43, .ref u44, .int 0, .ref u45, .ref u46, .ref u47])), (h1, .inl (k1, 600, .inl (fun _ => 0)))] sz) [(h0, .inr (13, [.ref h1, .int 20, .ref u0, .ref u1, .int 0, .ref u2, .ref u3, .ref u4, .ref u5, .ref u6, .ref u7, .ref u8, .ref u9, .int 0, .ref u10, .ref u11, .int 0, .ref u12, .int (-1), .ref u13, .int 0, .int 0, .ref u14, .int 0, .int 0, .ref u15, .ref u16, .ref u17, .ref u18, .ref u19, .int 0, .ref u20, .int 0, .int 0, .int 0, .int 0, .int 0, .int 0, .ref u21, .ref u22, .ref u23, .ref u24, .int 0, .ref u25, .ref u26, .ref u27, .ref u28, .int 0, .ref u29, .ref u30, .int 0, .int 0, .ref u31, .int 0, .int 0, .int 0, .ref u32, .ref u33, .ref u34, .int 0, .int 0, .ref u35, .ref u36, .ref u37, .ref u38, .ref u39, .ref u40, .ref u41, .ref u42, .ref u43, .ref u44, .int 0, .ref u45, .ref u46, .ref u47])), (h1, .inl (k1, 600, .inl f0))]) (va_A [(h0, .inr (13, [.ref h1, .int 0, .ref u0, .ref u1, .int 0, .ref u2, .ref u3, .ref u4, .ref u5, .ref u6, .ref u7, .ref u8, .ref u9, .int 0, .ref u10, .ref u11, .int 0, .ref u12, .int (-1), .ref u13, .int 0, .int 0, .ref u14, .int 0, .int 0, .ref u15, .ref u16, .ref u17, .ref u18, .ref u19, .int 0, .ref u20, .int 0, .int 0, .int 0, .int 0, .int 0, .int 0, .ref u21, .ref u22, .ref u23, .ref u24, .int 0, .ref u25, .ref u26, .ref u27, .ref u28, .int 0, .ref u29, .ref u30, .int 0, .int 0, .ref u31, .int 0, .int 0, .int 0, .ref u32, .ref u33, .ref u34, .int 0, .int 0, .ref u35, .ref u36, .ref u37, .ref u38, .ref u39, .ref u40, .ref u41, .ref u42, .ref u43, .ref u44, .int 0, .ref u45, .ref u46, .ref u47])), (h1, .inl (k1, 600, .inl (fun _ => 0)))] sz)) 0 0 (va_A [(h0, .inr (13, [.ref h1, .int 0, .ref u0, .ref u1, .int 0, .ref u2, .ref u3, .ref u4, .ref u5, .ref u6, .ref u7, .ref u8, .ref u9, .int 0, .ref u10, .ref u11, .int 0, .ref u12, .int (-1), .ref u13, .int 0, .int 0, .ref u14, .int 0, .int 0, .ref u15, .ref u16, .ref u17, .ref u18, .ref u19, .int 0, .ref u20, .int 0, .int 0, .int 0, .int 0, .int 0, .int 0, .ref u21, .ref u22, .ref u23, .ref u24, .int 0, .ref u25, .ref u26, .ref u27, .ref u28, .int 0, .ref u29, .ref u30, .int 0, .int 0, .ref u31, .int 0, .int 0, .int 0, .ref u32, .ref u33, .ref u34, .int 0, .int 0, .ref u35, .ref u36, .ref u37, .ref u38, .ref u39, .ref u40, .ref u41, .ref u42, .ref u43, .ref u44, .int 0, .ref u45, .ref u46, .ref u47])), (h1, .inl (k1, 600, .inl (fun _ => 0)))] sz) := by
  refine Met.ofW (cc := cX13_feed) (maxL := 6) (ret := (some .int)) (by decide) rfl ?_
  intro p e s m args below meth c s₁ B hml hv
  obtain ⟨rfl, hsz, hP, hK, hD0, hE, hZ⟩ := hv
  have hx := B.exec
  have hb := B.bytes
  have hr := B.returns
  have hG : ∀ w ∈ zG, w.before _ s = true := fun w h => atoms_spec (ws := (zw yX13_feed cX13_feed 6 (some .int))) B.pre w (List.mem_cons_of_mem _ h)
  have hown : s.vm.findClass RX13 = some m.cls := findClass_of_methodNamed B.named
  have hlocks := B.notSynchronized
  subst hsz
  have hD := hD0.self (sz := s.heap.size)
  generalize hAe : va_A [(h0, .inr (13, [.ref h1, .int 0, .ref u0, .ref u1, .int 0, .ref u2, .ref u3, .ref u4, .ref u5, .ref u6, .ref u7, .ref u8, .ref u9, .int 0, .ref u10, .ref u11, .int 0, .ref u12, .int (-1), .ref u13, .int 0, .int 0, .ref u14, .int 0, .int 0, .ref u15, .ref u16, .ref u17, .ref u18, .ref u19, .int 0, .ref u20, .int 0, .int 0, .int 0, .int 0, .int 0, .int 0, .ref u21, .ref u22, .ref u23, .ref u24, .int 0, .ref u25, .ref u26, .ref u27, .ref u28, .int 0, .ref u29, .ref u30, .int 0, .int 0, .ref u31, .int 0, .int 0, .int 0, .ref u32, .ref u33, .ref u34, .int 0, .int 0, .ref u35, .ref u36, .ref u37, .ref u38, .ref u39, .ref u40, .ref u41, .ref u42, .ref u43, .ref u44, .int 0, .ref u45, .ref u46, .ref u47])), (h1, .inl (k1, 600, .inl (fun _ => 0)))] s.heap.size = A at hD hZ ⊢
  have hA : ∀ q : Nat, s.heap.size ≤ q → A q := fun q h => by rw [← hAe]; exact Or.inr h
  have hS : va_S A s.heap s.heap [] := va_S.rf
  have hl := lv_entry ([.ref h0, .int s0, .int s1, .int s2, .int s3, .int s4]) (n := 6) (Nat.le_of_ble_eq_true rfl)
  rw [lg_entry_eq]
  generalize (lg_sl ([.ref h0, .int s0, .int s1, .int s2, .int s3, .int s4]) ++ List.replicate (6 - (lg_sl ([.ref h0, .int s0, .int s1, .int s2, .int s3, .int s4])).length) Slot.unset).toArray = ls at hl ⊢
  have hl : lv_has ls 6 [(0, .ref h0), (1, .int s0), (2, .int s1), (3, .int s2), (4, .int s3), (5, .int s4)] := hl
  refine lv_aload_n hx hb dX13_feed_0 rfl (lv_at hl 0 rfl) ?_
  refine lv_iconst (v := 0) hx hb dX13_feed_1 (by decide) ?_
  refine va_put (D := (dC, dI)) (ci := 13) (v := .int 0) (ty := .int) (C := RX13) (T := TX13) (N := 75) hx hb hG zuX13 tyX13 tyX13_ok nmX13 hown hK hP hD hS 0 rfl rfl 21 (by decide) (hG _ zw302) (fun _ h9 => h9) rfl (by decide +kernel) rfl rfl (Nat.le_of_ble_eq_true rfl) dX13_feed_2 (fun H locs hP hD hS => ?_)
  have hP : va_P (dC, dI) vwCl [(h0, .inr (13, [.ref h1, .int 0, .ref u0, .ref u1, .int 0, .ref u2, .ref u3, .ref u4, .ref u5, .ref u6, .ref u7, .ref u8, .ref u9, .int 0, .ref u10, .ref u11, .int 0, .ref u12, .int (-1), .ref u13, .int 0, .int 0, .ref u14, .int 0, .int 0, .ref u15, .ref u16, .ref u17, .ref u18, .ref u19, .int 0, .ref u20, .int 0, .int 0, .int 0, .int 0, .int 0, .int 0, .ref u21, .ref u22, .ref u23, .ref u24, .int 0, .ref u25, .ref u26, .ref u27, .ref u28, .int 0, .ref u29, .ref u30, .int 0, .int 0, .ref u31, .int 0, .int 0, .int 0, .ref u32, .ref u33, .ref u34, .int 0, .int 0, .ref u35, .ref u36, .ref u37, .ref u38, .ref u39, .ref u40, .ref u41, .ref u42, .ref u43, .ref u44, .int 0, .ref u45, .ref u46, .ref u47])), (h1, .inl (k1, 600, .inl (fun _ => 0)))] H := hP
  have hD : va_D A [(h0, .inr (13, [.ref h1, .int 0, .ref u0, .ref u1, .int 0, .ref u2, .ref u3, .ref u4, .ref u5, .ref u6, .ref u7, .ref u8, .ref u9, .int 0, .ref u10, .ref u11, .int 0, .ref u12, .int (-1), .ref u13, .int 0, .int 0, .ref u14, .int 0, .int 0, .ref u15, .ref u16, .ref u17, .ref u18, .ref u19, .int 0, .ref u20, .int 0, .int 0, .int 0, .int 0, .int 0, .int 0, .ref u21, .ref u22, .ref u23, .ref u24, .int 0, .ref u25, .ref u26, .ref u27, .ref u28, .int 0, .ref u29, .ref u30, .int 0, .int 0, .ref u31, .int 0, .int 0, .int 0, .ref u32, .ref u33, .ref u34, .int 0, .int 0, .ref u35, .ref u36, .ref u37, .ref u38, .ref u39, .ref u40, .ref u41, .ref u42, .ref u43, .ref u44, .int 0, .ref u45, .ref u46, .ref u47])), (h1, .inl (k1, 600, .inl (fun _ => 0)))] := hD
  refine lv_aload_n hx hb dX13_feed_5 rfl (lv_at hl 0 rfl) ?_
  refine va_get (D := (dC, dI)) (ci := 13) (v := .int 0) (C := RX13) (T := TX13) (N := 75) hx hb hG zuX13 hown hK hP 0 rfl rfl 1 (by decide) (hG _ zw303) (fun _ h9 => h9) rfl dX13_feed_6 ?_
  refine lv_bipush (v := 20) hx hb dX13_feed_9 (by decide) ?_
  refine lv_iadd hx hb dX13_feed_11 ?_
  refine lv_topi (fun z_3492 e_z_3492 => ?_)
  obtain rfl : z_3492 = (20 : Int32) := e_z_3492.trans (by decide)
  refine lv_sipush (v := 600) hx hb dX13_feed_12 (by decide) ?_
  refine lv_icmp_le (tgt := 21) hx hb dX13_feed_15 (by decide) (fun c_3493 => ?_) (fun c_3493 => absurd c_3493 (by decide))
  refine lv_aload_n hx hb dX13_feed_21 rfl (lv_at hl 0 rfl) ?_
  refine lv_iload_n hx hb dX13_feed_22 rfl (lv_at hl 1 rfl) ?_
  have hPc := hP.sub (ws' := [(h0, .inr (13, [.ref h1, .int 0, .ref u0, .ref u1, .int 0, .ref u2, .ref u3, .ref u4, .ref u5, .ref u6, .ref u7, .ref u8, .ref u9, .int 0, .ref u10, .ref u11, .int 0, .ref u12, .int (-1), .ref u13, .int 0, .int 0, .ref u14, .int 0, .int 0, .ref u15, .ref u16, .ref u17, .ref u18, .ref u19, .int 0, .ref u20, .int 0, .int 0, .int 0, .int 0, .int 0, .int 0, .ref u21, .ref u22, .ref u23, .ref u24, .int 0, .ref u25, .ref u26, .ref u27, .ref u28, .int 0, .ref u29, .ref u30, .int 0, .int 0, .ref u31, .int 0, .int 0, .int 0, .ref u32, .ref u33, .ref u34, .int 0, .int 0, .ref u35, .ref u36, .ref u37, .ref u38, .ref u39, .ref u40, .ref u41, .ref u42, .ref u43, .ref u44, .int 0, .ref u45, .ref u46, .ref u47])), (h1, .inl (k1, 600, .inl (fun _ => 0)))]) [0, 1] rfl
  have hDc := hD.sub (ws' := [(h0, .inr (13, [.ref h1, .int 0, .ref u0, .ref u1, .int 0, .ref u2, .ref u3, .ref u4, .ref u5, .ref u6, .ref u7, .ref u8, .ref u9, .int 0, .ref u10, .ref u11, .int 0, .ref u12, .int (-1), .ref u13, .int 0, .int 0, .ref u14, .int 0, .int 0, .ref u15, .ref u16, .ref u17, .ref u18, .ref u19, .int 0, .ref u20, .int 0, .int 0, .int 0, .int 0, .int 0, .int 0, .ref u21, .ref u22, .ref u23, .ref u24, .int 0, .ref u25, .ref u26, .ref u27, .ref u28, .int 0, .ref u29, .ref u30, .int 0, .int 0, .ref u31, .int 0, .int 0, .int 0, .ref u32, .ref u33, .ref u34, .int 0, .int 0, .ref u35, .ref u36, .ref u37, .ref u38, .ref u39, .ref u40, .ref u41, .ref u42, .ref u43, .ref u44, .int 0, .ref u45, .ref u46, .ref u47])), (h1, .inl (k1, 600, .inl (fun _ => 0)))]) [0, 1] (by decide) rfl
  have hKc := hK.sub (tys' := [(k1, .byte)]) [0] rfl
  have hFc := va_free (wc := [(h0, .inr (13, [.ref h1, .int 0, .ref u0, .ref u1, .int 0, .ref u2, .ref u3, .ref u4, .ref u5, .ref u6, .ref u7, .ref u8, .ref u9, .int 0, .ref u10, .ref u11, .int 0, .ref u12, .int (-1), .ref u13, .int 0, .int 0, .ref u14, .int 0, .int 0, .ref u15, .ref u16, .ref u17, .ref u18, .ref u19, .int 0, .ref u20, .int 0, .int 0, .int 0, .int 0, .int 0, .int 0, .ref u21, .ref u22, .ref u23, .ref u24, .int 0, .ref u25, .ref u26, .ref u27, .ref u28, .int 0, .ref u29, .ref u30, .int 0, .int 0, .ref u31, .int 0, .int 0, .int 0, .ref u32, .ref u33, .ref u34, .int 0, .int 0, .ref u35, .ref u36, .ref u37, .ref u38, .ref u39, .ref u40, .ref u41, .ref u42, .ref u43, .ref u44, .int 0, .ref u45, .ref u46, .ref u47])), (h1, .inl (k1, 600, .inl (fun _ => 0)))]) hD hS hA [0, 1] rfl
  refine va_callv (va_runV (As := [.int s0]) (rest := []) ⟨hx, hb, hml, hown, hG⟩ (kX13_lay_0 l dC dI h0 h1 u0 u1 u2 u3 u4 u5 u6 u7 u8 u9 u10 u11 u12 u13 u14 u15 u16 u17 u18 u19 u20 u21 u22 u23 u24 u25 u26 u27 u28 u29 u30 u31 u32 u33 u34 u35 u36 u37 u38 u39 u40 u41 u42 u43 u44 u45 u46 u47 k1 H.size s0) (cwV 1 hG (zgV zw304 zw305 zw306 zw207 zw307) rfl rfl rfl (by decide +kernel) ⟨Nat.le_of_ble_eq_true rfl, Nat.le_of_ble_eq_true rfl⟩) ⟨zPc_blind, va_recv hKc hPc (ci := 13) (q0 := 0) rfl rfl, zPc_pre hPc hKc hDc hE hS hFc hZ⟩ rfl rfl hl.1 rfl (lv_room (Nat.le_of_ble_eq_true rfl)) dX13_feed_23 ⟨Nat.le_of_ble_eq_true rfl, Nat.le_of_ble_eq_true rfl⟩) hS (fun q _ h => hFc q h) hFc (fun u t H1 locs ht hvm hw hB hz1 hk1 hS => ?_)
  obtain ⟨f_3517, hP1, hK1, hD1⟩ := hB
  rw [ht] at hP1
  obtain ⟨hP, hD⟩ := va_join (wr := []) (w1 := [(h0, .inr (13, [.ref h1, .int 4, .ref u0, .ref u1, .int 0, .ref u2, .ref u3, .ref u4, .ref u5, .ref u6, .ref u7, .ref u8, .ref u9, .int 0, .ref u10, .ref u11, .int 0, .ref u12, .int (-1), .ref u13, .int 0, .int 0, .ref u14, .int 0, .int 0, .ref u15, .ref u16, .ref u17, .ref u18, .ref u19, .int 0, .ref u20, .int 0, .int 0, .int 0, .int 0, .int 0, .int 0, .ref u21, .ref u22, .ref u23, .ref u24, .int 0, .ref u25, .ref u26, .ref u27, .ref u28, .int 0, .ref u29, .ref u30, .int 0, .int 0, .ref u31, .int 0, .int 0, .int 0, .ref u32, .ref u33, .ref u34, .int 0, .int 0, .ref u35, .ref u36, .ref u37, .ref u38, .ref u39, .ref u40, .ref u41, .ref u42, .ref u43, .ref u44, .int 0, .ref u45, .ref u46, .ref u47])), (h1, .inl (k1, 600, .inl f_3517))]) hP hD [0, 1] [] rfl rfl (by decide) (by decide) hk1 hFc hP1 hD1
  generalize H1 = H at hP hS ⊢
  have hP : va_P (dC, dI) vwCl [(h0, .inr (13, [.ref h1, .int 4, .ref u0, .ref u1, .int 0, .ref u2, .ref u3, .ref u4, .ref u5, .ref u6, .ref u7, .ref u8, .ref u9, .int 0, .ref u10, .ref u11, .int 0, .ref u12, .int (-1), .ref u13, .int 0, .int 0, .ref u14, .int 0, .int 0, .ref u15, .ref u16, .ref u17, .ref u18, .ref u19, .int 0, .ref u20, .int 0, .int 0, .int 0, .int 0, .int 0, .int 0, .ref u21, .ref u22, .ref u23, .ref u24, .int 0, .ref u25, .ref u26, .ref u27, .ref u28, .int 0, .ref u29, .ref u30, .int 0, .int 0, .ref u31, .int 0, .int 0, .int 0, .ref u32, .ref u33, .ref u34, .int 0, .int 0, .ref u35, .ref u36, .ref u37, .ref u38, .ref u39, .ref u40, .ref u41, .ref u42, .ref u43, .ref u44, .int 0, .ref u45, .ref u46, .ref u47])), (h1, .inl (k1, 600, .inl f_3517))] H := hP
  have hD : va_D A [(h0, .inr (13, [.ref h1, .int 4, .ref u0, .ref u1, .int 0, .ref u2, .ref u3, .ref u4, .ref u5, .ref u6, .ref u7, .ref u8, .ref u9, .int 0, .ref u10, .ref u11, .int 0, .ref u12, .int (-1), .ref u13, .int 0, .int 0, .ref u14, .int 0, .int 0, .ref u15, .ref u16, .ref u17, .ref u18, .ref u19, .int 0, .ref u20, .int 0, .int 0, .int 0, .int 0, .int 0, .int 0, .ref u21, .ref u22, .ref u23, .ref u24, .int 0, .ref u25, .ref u26, .ref u27, .ref u28, .int 0, .ref u29, .ref u30, .int 0, .int 0, .ref u31, .int 0, .int 0, .int 0, .ref u32, .ref u33, .ref u34, .int 0, .int 0, .ref u35, .ref u36, .ref u37, .ref u38, .ref u39, .ref u40, .ref u41, .ref u42, .ref u43, .ref u44, .int 0, .ref u45, .ref u46, .ref u47])), (h1, .inl (k1, 600, .inl f_3517))] := hD
  refine lv_aload_n hx hb dX13_feed_26 rfl (lv_at hl 0 rfl) ?_
  refine lv_iload_n hx hb dX13_feed_27 rfl (lv_at hl 2 rfl) ?_
  have hPc := hP.sub (ws' := [(h0, .inr (13, [.ref h1, .int 4, .ref u0, .ref u1, .int 0, .ref u2, .ref u3, .ref u4, .ref u5, .ref u6, .ref u7, .ref u8, .ref u9, .int 0, .ref u10, .ref u11, .int 0, .ref u12, .int (-1), .ref u13, .int 0, .int 0, .ref u14, .int 0, .int 0, .ref u15, .ref u16, .ref u17, .ref u18, .ref u19, .int 0, .ref u20, .int 0, .int 0, .int 0, .int 0, .int 0, .int 0, .ref u21, .ref u22, .ref u23, .ref u24, .int 0, .ref u25, .ref u26, .ref u27, .ref u28, .int 0, .ref u29, .ref u30, .int 0, .int 0, .ref u31, .int 0, .int 0, .int 0, .ref u32, .ref u33, .ref u34, .int 0, .int 0, .ref u35, .ref u36, .ref u37, .ref u38, .ref u39, .ref u40, .ref u41, .ref u42, .ref u43, .ref u44, .int 0, .ref u45, .ref u46, .ref u47])), (h1, .inl (k1, 600, .inl f_3517))]) [0, 1] rfl
  have hDc := hD.sub (ws' := [(h0, .inr (13, [.ref h1, .int 4, .ref u0, .ref u1, .int 0, .ref u2, .ref u3, .ref u4, .ref u5, .ref u6, .ref u7, .ref u8, .ref u9, .int 0, .ref u10, .ref u11, .int 0, .ref u12, .int (-1), .ref u13, .int 0, .int 0, .ref u14, .int 0, .int 0, .ref u15, .ref u16, .ref u17, .ref u18, .ref u19, .int 0, .ref u20, .int 0, .int 0, .int 0, .int 0, .int 0, .int 0, .ref u21, .ref u22, .ref u23, .ref u24, .int 0, .ref u25, .ref u26, .ref u27, .ref u28, .int 0, .ref u29, .ref u30, .int 0, .int 0, .ref u31, .int 0, .int 0, .int 0, .ref u32, .ref u33, .ref u34, .int 0, .int 0, .ref u35, .ref u36, .ref u37, .ref u38, .ref u39, .ref u40, .ref u41, .ref u42, .ref u43, .ref u44, .int 0, .ref u45, .ref u46, .ref u47])), (h1, .inl (k1, 600, .inl f_3517))]) [0, 1] (by decide) rfl
  have hKc := hK.sub (tys' := [(k1, .byte)]) [0] rfl
  have hFc := va_free (wc := [(h0, .inr (13, [.ref h1, .int 4, .ref u0, .ref u1, .int 0, .ref u2, .ref u3, .ref u4, .ref u5, .ref u6, .ref u7, .ref u8, .ref u9, .int 0, .ref u10, .ref u11, .int 0, .ref u12, .int (-1), .ref u13, .int 0, .int 0, .ref u14, .int 0, .int 0, .ref u15, .ref u16, .ref u17, .ref u18, .ref u19, .int 0, .ref u20, .int 0, .int 0, .int 0, .int 0, .int 0, .int 0, .ref u21, .ref u22, .ref u23, .ref u24, .int 0, .ref u25, .ref u26, .ref u27, .ref u28, .int 0, .ref u29, .ref u30, .int 0, .int 0, .ref u31, .int 0, .int 0, .int 0, .ref u32, .ref u33, .ref u34, .int 0, .int 0, .ref u35, .ref u36, .ref u37, .ref u38, .ref u39, .ref u40, .ref u41, .ref u42, .ref u43, .ref u44, .int 0, .ref u45, .ref u46, .ref u47])), (h1, .inl (k1, 600, .inl f_3517))]) hD hS hA [0, 1] rfl
  refine va_callv (va_runV (As := [.int s1]) (rest := []) ⟨hx, hb, hml, hown, hG⟩ (kX13_lay_1 l dC dI h0 h1 u0 u1 u2 u3 u4 u5 u6 u7 u8 u9 u10 u11 u12 u13 u14 u15 u16 u17 u18 u19 u20 u21 u22 u23 u24 u25 u26 u27 u28 u29 u30 u31 u32 u33 u34 u35 u36 u37 u38 u39 u40 u41 u42 u43 u44 u45 u46 u47 k1 H.size s1 f_3517) (cwV 1 hG (zgV zw304 zw305 zw306 zw207 zw307) rfl rfl rfl (by decide +kernel) ⟨Nat.le_of_ble_eq_true rfl, Nat.le_of_ble_eq_true rfl⟩) ⟨zPc_blind, va_recv hKc hPc (ci := 13) (q0 := 0) rfl rfl, zPc_pre hPc hKc hDc hE hS hFc hZ⟩ rfl rfl hl.1 rfl (lv_room (Nat.le_of_ble_eq_true rfl)) dX13_feed_28 ⟨Nat.le_of_ble_eq_true rfl, Nat.le_of_ble_eq_true rfl⟩) hS (fun q _ h => hFc q h) hFc (fun u t H1 locs ht hvm hw hB hz1 hk1 hS => ?_)
  obtain ⟨f_3541, hP1, hK1, hD1⟩ := hB
  rw [ht] at hP1
  obtain ⟨hP, hD⟩ := va_join (wr := []) (w1 := [(h0, .inr (13, [.ref h1, .int 8, .ref u0, .ref u1, .int 0, .ref u2, .ref u3, .ref u4, .ref u5, .ref u6, .ref u7, .ref u8, .ref u9, .int 0, .ref u10, .ref u11, .int 0, .ref u12, .int (-1), .ref u13, .int 0, .int 0, .ref u14, .int 0, .int 0, .ref u15, .ref u16, .ref u17, .ref u18, .ref u19, .int 0, .ref u20, .int 0, .int 0, .int 0, .int 0, .int 0, .int 0, .ref u21, .ref u22, .ref u23, .ref u24, .int 0, .ref u25, .ref u26, .ref u27, .ref u28, .int 0, .ref u29, .ref u30, .int 0, .int 0, .ref u31, .int 0, .int 0, .int 0, .ref u32, .ref u33, .ref u34, .int 0, .int 0, .ref u35, .ref u36, .ref u37, .ref u38, .ref u39, .ref u40, .ref u41, .ref u42, .ref u43, .ref u44, .int 0, .ref u45, .ref u46, .ref u47])), (h1, .inl (k1, 600, .inl f_3541))]) hP hD [0, 1] [] rfl rfl (by decide) (by decide) hk1 hFc hP1 hD1
  generalize H1 = H at hP hS ⊢
  have hP : va_P (dC, dI) vwCl [(h0, .inr (13, [.ref h1, .int 8, .ref u0, .ref u1, .int 0, .ref u2, .ref u3, .ref u4, .ref u5, .ref u6, .ref u7, .ref u8, .ref u9, .int 0, .ref u10, .ref u11, .int 0, .ref u12, .int (-1), .ref u13, .int 0, .int 0, .ref u14, .int 0, .int 0, .ref u15, .ref u16, .ref u17, .ref u18, .ref u19, .int 0, .ref u20, .int 0, .int 0, .int 0, .int 0, .int 0, .int 0, .ref u21, .ref u22, .ref u23, .ref u24, .int 0, .ref u25, .ref u26, .ref u27, .ref u28, .int 0, .ref u29, .ref u30, .int 0, .int 0, .ref u31, .int 0, .int 0, .int 0, .ref u32, .ref u33, .ref u34, .int 0, .int 0, .ref u35, .ref u36, .ref u37, .ref u38, .ref u39, .ref u40, .ref u41, .ref u42, .ref u43, .ref u44, .int 0, .ref u45, .ref u46, .ref u47])), (h1, .inl (k1, 600, .inl f_3541))] H := hP
  have hD : va_D A [(h0, .inr (13, [.ref h1, .int 8, .ref u0, .ref u1, .int 0, .ref u2, .ref u3, .ref u4, .ref u5, .ref u6, .ref u7, .ref u8, .ref u9, .int 0, .ref u10, .ref u11, .int 0, .ref u12, .int (-1), .ref u13, .int 0, .int 0, .ref u14, .int 0, .int 0, .ref u15, .ref u16, .ref u17, .ref u18, .ref u19, .int 0, .ref u20, .int 0, .int 0, .int 0, .int 0, .int 0, .int 0, .ref u21, .ref u22, .ref u23, .ref u24, .int 0, .ref u25, .ref u26, .ref u27, .ref u28, .int 0, .ref u29, .ref u30, .int 0, .int 0, .ref u31, .int 0, .int 0, .int 0, .ref u32, .ref u33, .ref u34, .int 0, .int 0, .ref u35, .ref u36, .ref u37, .ref u38, .ref u39, .ref u40, .ref u41, .ref u42, .ref u43, .ref u44, .int 0, .ref u45, .ref u46, .ref u47])), (h1, .inl (k1, 600, .inl f_3541))] := hD
  refine lv_aload_n hx hb dX13_feed_31 rfl (lv_at hl 0 rfl) ?_
  refine lv_iload_n hx hb dX13_feed_32 rfl (lv_at hl 3 rfl) ?_
  have hPc := hP.sub (ws' := [(h0, .inr (13, [.ref h1, .int 8, .ref u0, .ref u1, .int 0, .ref u2, .ref u3, .ref u4, .ref u5, .ref u6, .ref u7, .ref u8, .ref u9, .int 0, .ref u10, .ref u11, .int 0, .ref u12, .int (-1), .ref u13, .int 0, .int 0, .ref u14, .int 0, .int 0, .ref u15, .ref u16, .ref u17, .ref u18, .ref u19, .int 0, .ref u20, .int 0, .int 0, .int 0, .int 0, .int 0, .int 0, .ref u21, .ref u22, .ref u23, .ref u24, .int 0, .ref u25, .ref u26, .ref u27, .ref u28, .int 0, .ref u29, .ref u30, .int 0, .int 0, .ref u31, .int 0, .int 0, .int 0, .ref u32, .ref u33, .ref u34, .int 0, .int 0, .ref u35, .ref u36, .ref u37, .ref u38, .ref u39, .ref u40, .ref u41, .ref u42, .ref u43, .ref u44, .int 0, .ref u45, .ref u46, .ref u47])), (h1, .inl (k1, 600, .inl f_3541))]) [0, 1] rfl
  have hDc := hD.sub (ws' := [(h0, .inr (13, [.ref h1, .int 8, .ref u0, .ref u1, .int 0, .ref u2, .ref u3, .ref u4, .ref u5, .ref u6, .ref u7, .ref u8, .ref u9, .int 0, .ref u10, .ref u11, .int 0, .ref u12, .int (-1), .ref u13, .int 0, .int 0, .ref u14, .int 0, .int 0, .ref u15, .ref u16, .ref u17, .ref u18, .ref u19, .int 0, .ref u20, .int 0, .int 0, .int 0, .int 0, .int 0, .int 0, .ref u21, .ref u22, .ref u23, .ref u24, .int 0, .ref u25, .ref u26, .ref u27, .ref u28, .int 0, .ref u29, .ref u30, .int 0, .int 0, .ref u31, .int 0, .int 0, .int 0, .ref u32, .ref u33, .ref u34, .int 0, .int 0, .ref u35, .ref u36, .ref u37, .ref u38, .ref u39, .ref u40, .ref u41, .ref u42, .ref u43, .ref u44, .int 0, .ref u45, .ref u46, .ref u47])), (h1, .inl (k1, 600, .inl f_3541))]) [0, 1] (by decide) rfl
  have hKc := hK.sub (tys' := [(k1, .byte)]) [0] rfl
  have hFc := va_free (wc := [(h0, .inr (13, [.ref h1, .int 8, .ref u0, .ref u1, .int 0, .ref u2, .ref u3, .ref u4, .ref u5, .ref u6, .ref u7, .ref u8, .ref u9, .int 0, .ref u10, .ref u11, .int 0, .ref u12, .int (-1), .ref u13, .int 0, .int 0, .ref u14, .int 0, .int 0, .ref u15, .ref u16, .ref u17, .ref u18, .ref u19, .int 0, .ref u20, .int 0, .int 0, .int 0, .int 0, .int 0, .int 0, .ref u21, .ref u22, .ref u23, .ref u24, .int 0, .ref u25, .ref u26, .ref u27, .ref u28, .int 0, .ref u29, .ref u30, .int 0, .int 0, .ref u31, .int 0, .int 0, .int 0, .ref u32, .ref u33, .ref u34, .int 0, .int 0, .ref u35, .ref u36, .ref u37, .ref u38, .ref u39, .ref u40, .ref u41, .ref u42, .ref u43, .ref u44, .int 0, .ref u45, .ref u46, .ref u47])), (h1, .inl (k1, 600, .inl f_3541))]) hD hS hA [0, 1] rfl
  refine va_callv (va_runV (As := [.int s2]) (rest := []) ⟨hx, hb, hml, hown, hG⟩ (kX13_lay_2 l dC dI h0 h1 u0 u1 u2 u3 u4 u5 u6 u7 u8 u9 u10 u11 u12 u13 u14 u15 u16 u17 u18 u19 u20 u21 u22 u23 u24 u25 u26 u27 u28 u29 u30 u31 u32 u33 u34 u35 u36 u37 u38 u39 u40 u41 u42 u43 u44 u45 u46 u47 k1 H.size s2 f_3541) (cwV 1 hG (zgV zw304 zw305 zw306 zw207 zw307) rfl rfl rfl (by decide +kernel) ⟨Nat.le_of_ble_eq_true rfl, Nat.le_of_ble_eq_true rfl⟩) ⟨zPc_blind, va_recv hKc hPc (ci := 13) (q0 := 0) rfl rfl, zPc_pre hPc hKc hDc hE hS hFc hZ⟩ rfl rfl hl.1 rfl (lv_room (Nat.le_of_ble_eq_true rfl)) dX13_feed_33 ⟨Nat.le_of_ble_eq_true rfl, Nat.le_of_ble_eq_true rfl⟩) hS (fun q _ h => hFc q h) hFc (fun u t H1 locs ht hvm hw hB hz1 hk1 hS => ?_)
  obtain ⟨f_3565, hP1, hK1, hD1⟩ := hB
  rw [ht] at hP1
  obtain ⟨hP, hD⟩ := va_join (wr := []) (w1 := [(h0, .inr (13, [.ref h1, .int 12, .ref u0, .ref u1, .int 0, .ref u2, .ref u3, .ref u4, .ref u5, .ref u6, .ref u7, .ref u8, .ref u9, .int 0, .ref u10, .ref u11, .int 0, .ref u12, .int (-1), .ref u13, .int 0, .int 0, .ref u14, .int 0, .int 0, .ref u15, .ref u16, .ref u17, .ref u18, .ref u19, .int 0, .ref u20, .int 0, .int 0, .int 0, .int 0, .int 0, .int 0, .ref u21, .ref u22, .ref u23, .ref u24, .int 0, .ref u25, .ref u26, .ref u27, .ref u28, .int 0, .ref u29, .ref u30, .int 0, .int 0, .ref u31, .int 0, .int 0, .int 0, .ref u32, .ref u33, .ref u34, .int 0, .int 0, .ref u35, .ref u36, .ref u37, .ref u38, .ref u39, .ref u40, .ref u41, .ref u42, .ref u43, .ref u44, .int 0, .ref u45, .ref u46, .ref u47])), (h1, .inl (k1, 600, .inl f_3565))]) hP hD [0, 1] [] rfl rfl (by decide) (by decide) hk1 hFc hP1 hD1
  generalize H1 = H at hP hS ⊢
  have hP : va_P (dC, dI) vwCl [(h0, .inr (13, [.ref h1, .int 12, .ref u0, .ref u1, .int 0, .ref u2, .ref u3, .ref u4, .ref u5, .ref u6, .ref u7, .ref u8, .ref u9, .int 0, .ref u10, .ref u11, .int 0, .ref u12, .int (-1), .ref u13, .int 0, .int 0, .ref u14, .int 0, .int 0, .ref u15, .ref u16, .ref u17, .ref u18, .ref u19, .int 0, .ref u20, .int 0, .int 0, .int 0, .int 0, .int 0, .int 0, .ref u21, .ref u22, .ref u23, .ref u24, .int 0, .ref u25, .ref u26, .ref u27, .ref u28, .int 0, .ref u29, .ref u30, .int 0, .int 0, .ref u31, .int 0, .int 0, .int 0, .ref u32, .ref u33, .ref u34, .int 0, .int 0, .ref u35, .ref u36, .ref u37, .ref u38, .ref u39, .ref u40, .ref u41, .ref u42, .ref u43, .ref u44, .int 0, .ref u45, .ref u46, .ref u47])), (h1, .inl (k1, 600, .inl f_3565))] H := hP
  have hD : va_D A [(h0, .inr (13, [.ref h1, .int 12, .ref u0, .ref u1, .int 0, .ref u2, .ref u3, .ref u4, .ref u5, .ref u6, .ref u7, .ref u8, .ref u9, .int 0, .ref u10, .ref u11, .int 0, .ref u12, .int (-1), .ref u13, .int 0, .int 0, .ref u14, .int 0, .int 0, .ref u15, .ref u16, .ref u17, .ref u18, .ref u19, .int 0, .ref u20, .int 0, .int 0, .int 0, .int 0, .int 0, .int 0, .ref u21, .ref u22, .ref u23, .ref u24, .int 0, .ref u25, .ref u26, .ref u27, .ref u28, .int 0, .ref u29, .ref u30, .int 0, .int 0, .ref u31, .int 0, .int 0, .int 0, .ref u32, .ref u33, .ref u34, .int 0, .int 0, .ref u35, .ref u36, .ref u37, .ref u38, .ref u39, .ref u40, .ref u41, .ref u42, .ref u43, .ref u44, .int 0, .ref u45, .ref u46, .ref u47])), (h1, .inl (k1, 600, .inl f_3565))] := hD
  refine lv_aload_n hx hb dX13_feed_36 rfl (lv_at hl 0 rfl) ?_
  refine lv_iload hx hb dX13_feed_37 (lv_at hl 4 rfl) ?_
  have hPc := hP.sub (ws' := [(h0, .inr (13, [.ref h1, .int 12, .ref u0, .ref u1, .int 0, .ref u2, .ref u3, .ref u4, .ref u5, .ref u6, .ref u7, .ref u8, .ref u9, .int 0, .ref u10, .ref u11, .int 0, .ref u12, .int (-1), .ref u13, .int 0, .int 0, .ref u14, .int 0, .int 0, .ref u15, .ref u16, .ref u17, .ref u18, .ref u19, .int 0, .ref u20, .int 0, .int 0, .int 0, .int 0, .int 0, .int 0, .ref u21, .ref u22, .ref u23, .ref u24, .int 0, .ref u25, .ref u26, .ref u27, .ref u28, .int 0, .ref u29, .ref u30, .int 0, .int 0, .ref u31, .int 0, .int 0, .int 0, .ref u32, .ref u33, .ref u34, .int 0, .int 0, .ref u35, .ref u36, .ref u37, .ref u38, .ref u39, .ref u40, .ref u41, .ref u42, .ref u43, .ref u44, .int 0, .ref u45, .ref u46, .ref u47])), (h1, .inl (k1, 600, .inl f_3565))]) [0, 1] rfl
  have hDc := hD.sub (ws' := [(h0, .inr (13, [.ref h1, .int 12, .ref u0, .ref u1, .int 0, .ref u2, .ref u3, .ref u4, .ref u5, .ref u6, .ref u7, .ref u8, .ref u9, .int 0, .ref u10, .ref u11, .int 0, .ref u12, .int (-1), .ref u13, .int 0, .int 0, .ref u14, .int 0, .int 0, .ref u15, .ref u16, .ref u17, .ref u18, .ref u19, .int 0, .ref u20, .int 0, .int 0, .int 0, .int 0, .int 0, .int 0, .ref u21, .ref u22, .ref u23, .ref u24, .int 0, .ref u25, .ref u26, .ref u27, .ref u28, .int 0, .ref u29, .ref u30, .int 0, .int 0, .ref u31, .int 0, .int 0, .int 0, .ref u32, .ref u33, .ref u34, .int 0, .int 0, .ref u35, .ref u36, .ref u37, .ref u38, .ref u39, .ref u40, .ref u41, .ref u42, .ref u43, .ref u44, .int 0, .ref u45, .ref u46, .ref u47])), (h1, .inl (k1, 600, .inl f_3565))]) [0, 1] (by decide) rfl
  have hKc := hK.sub (tys' := [(k1, .byte)]) [0] rfl
  have hFc := va_free (wc := [(h0, .inr (13, [.ref h1, .int 12, .ref u0, .ref u1, .int 0, .ref u2, .ref u3, .ref u4, .ref u5, .ref u6, .ref u7, .ref u8, .ref u9, .int 0, .ref u10, .ref u11, .int 0, .ref u12, .int (-1), .ref u13, .int 0, .int 0, .ref u14, .int 0, .int 0, .ref u15, .ref u16, .ref u17, .ref u18, .ref u19, .int 0, .ref u20, .int 0, .int 0, .int 0, .int 0, .int 0, .int 0, .ref u21, .ref u22, .ref u23, .ref u24, .int 0, .ref u25, .ref u26, .ref u27, .ref u28, .int 0, .ref u29, .ref u30, .int 0, .int 0, .ref u31, .int 0, .int 0, .int 0, .ref u32, .ref u33, .ref u34, .int 0, .int 0, .ref u35, .ref u36, .ref u37, .ref u38, .ref u39, .ref u40, .ref u41, .ref u42, .ref u43, .ref u44, .int 0, .ref u45, .ref u46, .ref u47])), (h1, .inl (k1, 600, .inl f_3565))]) hD hS hA [0, 1] rfl
  refine va_callv (va_runV (As := [.int s3]) (rest := []) ⟨hx, hb, hml, hown, hG⟩ (kX13_lay_3 l dC dI h0 h1 u0 u1 u2 u3 u4 u5 u6 u7 u8 u9 u10 u11 u12 u13 u14 u15 u16 u17 u18 u19 u20 u21 u22 u23 u24 u25 u26 u27 u28 u29 u30 u31 u32 u33 u34 u35 u36 u37 u38 u39 u40 u41 u42 u43 u44 u45 u46 u47 k1 H.size s3 f_3565) (cwV 1 hG (zgV zw304 zw305 zw306 zw207 zw307) rfl rfl rfl (by decide +kernel) ⟨Nat.le_of_ble_eq_true rfl, Nat.le_of_ble_eq_true rfl⟩) ⟨zPc_blind, va_recv hKc hPc (ci := 13) (q0 := 0) rfl rfl, zPc_pre hPc hKc hDc hE hS hFc hZ⟩ rfl rfl hl.1 rfl (lv_room (Nat.le_of_ble_eq_true rfl)) dX13_feed_39 ⟨Nat.le_of_ble_eq_true rfl, Nat.le_of_ble_eq_true rfl⟩) hS (fun q _ h => hFc q h) hFc (fun u t H1 locs ht hvm hw hB hz1 hk1 hS => ?_)
  obtain ⟨f_3589, hP1, hK1, hD1⟩ := hB
  rw [ht] at hP1
  obtain ⟨hP, hD⟩ := va_join (wr := []) (w1 := [(h0, .inr (13, [.ref h1, .int 16, .ref u0, .ref u1, .int 0, .ref u2, .ref u3, .ref u4, .ref u5, .ref u6, .ref u7, .ref u8, .ref u9, .int 0, .ref u10, .ref u11, .int 0, .ref u12, .int (-1), .ref u13, .int 0, .int 0, .ref u14, .int 0, .int 0, .ref u15, .ref u16, .ref u17, .ref u18, .ref u19, .int 0, .ref u20, .int 0, .int 0, .int 0, .int 0, .int 0, .int 0, .ref u21, .ref u22, .ref u23, .ref u24, .int 0, .ref u25, .ref u26, .ref u27, .ref u28, .int 0, .ref u29, .ref u30, .int 0, .int 0, .ref u31, .int 0, .int 0, .int 0, .ref u32, .ref u33, .ref u34, .int 0, .int 0, .ref u35, .ref u36, .ref u37, .ref u38, .ref u39, .ref u40, .ref u41, .ref u42, .ref u43, .ref u44, .int 0, .ref u45, .ref u46, .ref u47])), (h1, .inl (k1, 600, .inl f_3589))]) hP hD [0, 1] [] rfl rfl (by decide) (by decide) hk1 hFc hP1 hD1
  generalize H1 = H at hP hS ⊢
  have hP : va_P (dC, dI) vwCl [(h0, .inr (13, [.ref h1, .int 16, .ref u0, .ref u1, .int 0, .ref u2, .ref u3, .ref u4, .ref u5, .ref u6, .ref u7, .ref u8, .ref u9, .int 0, .ref u10, .ref u11, .int 0, .ref u12, .int (-1), .ref u13, .int 0, .int 0, .ref u14, .int 0, .int 0, .ref u15, .ref u16, .ref u17, .ref u18, .ref u19, .int 0, .ref u20, .int 0, .int 0, .int 0, .int 0, .int 0, .int 0, .ref u21, .ref u22, .ref u23, .ref u24, .int 0, .ref u25, .ref u26, .ref u27, .ref u28, .int 0, .ref u29, .ref u30, .int 0, .int 0, .ref u31, .int 0, .int 0, .int 0, .ref u32, .ref u33, .ref u34, .int 0, .int 0, .ref u35, .ref u36, .ref u37, .ref u38, .ref u39, .ref u40, .ref u41, .ref u42, .ref u43, .ref u44, .int 0, .ref u45, .ref u46, .ref u47])), (h1, .inl (k1, 600, .inl f_3589))] H := hP
  have hD : va_D A [(h0, .inr (13, [.ref h1, .int 16, .ref u0, .ref u1, .int 0, .ref u2, .ref u3, .ref u4, .ref u5, .ref u6, .ref u7, .ref u8, .ref u9, .int 0, .ref u10, .ref u11, .int 0, .ref u12, .int (-1), .ref u13, .int 0, .int 0, .ref u14, .int 0, .int 0, .ref u15, .ref u16, .ref u17, .ref u18, .ref u19, .int 0, .ref u20, .int 0, .int 0, .int 0, .int 0, .int 0, .int 0, .ref u21, .ref u22, .ref u23, .ref u24, .int 0, .ref u25, .ref u26, .ref u27, .ref u28, .int 0, .ref u29, .ref u30, .int 0, .int 0, .ref u31, .int 0, .int 0, .int 0, .ref u32, .ref u33, .ref u34, .int 0, .int 0, .ref u35, .ref u36, .ref u37, .ref u38, .ref u39, .ref u40, .ref u41, .ref u42, .ref u43, .ref u44, .int 0, .ref u45, .ref u46, .ref u47])), (h1, .inl (k1, 600, .inl f_3589))] := hD
  refine lv_aload_n hx hb dX13_feed_42 rfl (lv_at hl 0 rfl) ?_
  refine lv_iload hx hb dX13_feed_43 (lv_at hl 5 rfl) ?_
  have hPc := hP.sub (ws' := [(h0, .inr (13, [.ref h1, .int 16, .ref u0, .ref u1, .int 0, .ref u2, .ref u3, .ref u4, .ref u5, .ref u6, .ref u7, .ref u8, .ref u9, .int 0, .ref u10, .ref u11, .int 0, .ref u12, .int (-1), .ref u13, .int 0, .int 0, .ref u14, .int 0, .int 0, .ref u15, .ref u16, .ref u17, .ref u18, .ref u19, .int 0, .ref u20, .int 0, .int 0, .int 0, .int 0, .int 0, .int 0, .ref u21, .ref u22, .ref u23, .ref u24, .int 0, .ref u25, .ref u26, .ref u27, .ref u28, .int 0, .ref u29, .ref u30, .int 0, .int 0, .ref u31, .int 0, .int 0, .int 0, .ref u32, .ref u33, .ref u34, .int 0, .int 0, .ref u35, .ref u36, .ref u37, .ref u38, .ref u39, .ref u40, .ref u41, .ref u42, .ref u43, .ref u44, .int 0, .ref u45, .ref u46, .ref u47])), (h1, .inl (k1, 600, .inl f_3589))]) [0, 1] rfl
  have hDc := hD.sub (ws' := [(h0, .inr (13, [.ref h1, .int 16, .ref u0, .ref u1, .int 0, .ref u2, .ref u3, .ref u4, .ref u5, .ref u6, .ref u7, .ref u8, .ref u9, .int 0, .ref u10, .ref u11, .int 0, .ref u12, .int (-1), .ref u13, .int 0, .int 0, .ref u14, .int 0, .int 0, .ref u15, .ref u16, .ref u17, .ref u18, .ref u19, .int 0, .ref u20, .int 0, .int 0, .int 0, .int 0, .int 0, .int 0, .ref u21, .ref u22, .ref u23, .ref u24, .int 0, .ref u25, .ref u26, .ref u27, .ref u28, .int 0, .ref u29, .ref u30, .int 0, .int 0, .ref u31, .int 0, .int 0, .int 0, .ref u32, .ref u33, .ref u34, .int 0, .int 0, .ref u35, .ref u36, .ref u37, .ref u38, .ref u39, .ref u40, .ref u41, .ref u42, .ref u43, .ref u44, .int 0, .ref u45, .ref u46, .ref u47])), (h1, .inl (k1, 600, .inl f_3589))]) [0, 1] (by decide) rfl
  have hKc := hK.sub (tys' := [(k1, .byte)]) [0] rfl
  have hFc := va_free (wc := [(h0, .inr (13, [.ref h1, .int 16, .ref u0, .ref u1, .int 0, .ref u2, .ref u3, .ref u4, .ref u5, .ref u6, .ref u7, .ref u8, .ref u9, .int 0, .ref u10, .ref u11, .int 0, .ref u12, .int (-1), .ref u13, .int 0, .int 0, .ref u14, .int 0, .int 0, .ref u15, .ref u16, .ref u17, .ref u18, .ref u19, .int 0, .ref u20, .int 0, .int 0, .int 0, .int 0, .int 0, .int 0, .ref u21, .ref u22, .ref u23, .ref u24, .int 0, .ref u25, .ref u26, .ref u27, .ref u28, .int 0, .ref u29, .ref u30, .int 0, .int 0, .ref u31, .int 0, .int 0, .int 0, .ref u32, .ref u33, .ref u34, .int 0, .int 0, .ref u35, .ref u36, .ref u37, .ref u38, .ref u39, .ref u40, .ref u41, .ref u42, .ref u43, .ref u44, .int 0, .ref u45, .ref u46, .ref u47])), (h1, .inl (k1, 600, .inl f_3589))]) hD hS hA [0, 1] rfl
  refine va_callv (va_runV (As := [.int s4]) (rest := []) ⟨hx, hb, hml, hown, hG⟩ (kX13_lay_4 l dC dI h0 h1 u0 u1 u2 u3 u4 u5 u6 u7 u8 u9 u10 u11 u12 u13 u14 u15 u16 u17 u18 u19 u20 u21 u22 u23 u24 u25 u26 u27 u28 u29 u30 u31 u32 u33 u34 u35 u36 u37 u38 u39 u40 u41 u42 u43 u44 u45 u46 u47 k1 H.size s4 f_3589) (cwV 1 hG (zgV zw304 zw305 zw306 zw207 zw307) rfl rfl rfl (by decide +kernel) ⟨Nat.le_of_ble_eq_true rfl, Nat.le_of_ble_eq_true rfl⟩) ⟨zPc_blind, va_recv hKc hPc (ci := 13) (q0 := 0) rfl rfl, zPc_pre hPc hKc hDc hE hS hFc hZ⟩ rfl rfl hl.1 rfl (lv_room (Nat.le_of_ble_eq_true rfl)) dX13_feed_45 ⟨Nat.le_of_ble_eq_true rfl, Nat.le_of_ble_eq_true rfl⟩) hS (fun q _ h => hFc q h) hFc (fun u t H1 locs ht hvm hw hB hz1 hk1 hS => ?_)
  obtain ⟨f_3613, hP1, hK1, hD1⟩ := hB
  rw [ht] at hP1
  obtain ⟨hP, hD⟩ := va_join (wr := []) (w1 := [(h0, .inr (13, [.ref h1, .int 20, .ref u0, .ref u1, .int 0, .ref u2, .ref u3, .ref u4, .ref u5, .ref u6, .ref u7, .ref u8, .ref u9, .int 0, .ref u10, .ref u11, .int 0, .ref u12, .int (-1), .ref u13, .int 0, .int 0, .ref u14, .int 0, .int 0, .ref u15, .ref u16, .ref u17, .ref u18, .ref u19, .int 0, .ref u20, .int 0, .int 0, .int 0, .int 0, .int 0, .int 0, .ref u21, .ref u22, .ref u23, .ref u24, .int 0, .ref u25, .ref u26, .ref u27, .ref u28, .int 0, .ref u29, .ref u30, .int 0, .int 0, .ref u31, .int 0, .int 0, .int 0, .ref u32, .ref u33, .ref u34, .int 0, .int 0, .ref u35, .ref u36, .ref u37, .ref u38, .ref u39, .ref u40, .ref u41, .ref u42, .ref u43, .ref u44, .int 0, .ref u45, .ref u46, .ref u47])), (h1, .inl (k1, 600, .inl f_3613))]) hP hD [0, 1] [] rfl rfl (by decide) (by decide) hk1 hFc hP1 hD1
  generalize H1 = H at hP hS ⊢
  have hP : va_P (dC, dI) vwCl [(h0, .inr (13, [.ref h1, .int 20, .ref u0, .ref u1, .int 0, .ref u2, .ref u3, .ref u4, .ref u5, .ref u6, .ref u7, .ref u8, .ref u9, .int 0, .ref u10, .ref u11, .int 0, .ref u12, .int (-1), .ref u13, .int 0, .int 0, .ref u14, .int 0, .int 0, .ref u15, .ref u16, .ref u17, .ref u18, .ref u19, .int 0, .ref u20, .int 0, .int 0, .int 0, .int 0, .int 0, .int 0, .ref u21, .ref u22, .ref u23, .ref u24, .int 0, .ref u25, .ref u26, .ref u27, .ref u28, .int 0, .ref u29, .ref u30, .int 0, .int 0, .ref u31, .int 0, .int 0, .int 0, .ref u32, .ref u33, .ref u34, .int 0, .int 0, .ref u35, .ref u36, .ref u37, .ref u38, .ref u39, .ref u40, .ref u41, .ref u42, .ref u43, .ref u44, .int 0, .ref u45, .ref u46, .ref u47])), (h1, .inl (k1, 600, .inl f_3613))] H := hP
  have hD : va_D A [(h0, .inr (13, [.ref h1, .int 20, .ref u0, .ref u1, .int 0, .ref u2, .ref u3, .ref u4, .ref u5, .ref u6, .ref u7, .ref u8, .ref u9, .int 0, .ref u10, .ref u11, .int 0, .ref u12, .int (-1), .ref u13, .int 0, .int 0, .ref u14, .int 0, .int 0, .ref u15, .ref u16, .ref u17, .ref u18, .ref u19, .int 0, .ref u20, .int 0, .int 0, .int 0, .int 0, .int 0, .int 0, .ref u21, .ref u22, .ref u23, .ref u24, .int 0, .ref u25, .ref u26, .ref u27, .ref u28, .int 0, .ref u29, .ref u30, .int 0, .int 0, .ref u31, .int 0, .int 0, .int 0, .ref u32, .ref u33, .ref u34, .int 0, .int 0, .ref u35, .ref u36, .ref u37, .ref u38, .ref u39, .ref u40, .ref u41, .ref u42, .ref u43, .ref u44, .int 0, .ref u45, .ref u46, .ref u47])), (h1, .inl (k1, 600, .inl f_3613))] := hD
  refine lv_aload_n hx hb dX13_feed_48 rfl (lv_at hl 0 rfl) ?_
  refine va_get (D := (dC, dI)) (ci := 13) (v := .int 20) (C := RX13) (T := TX13) (N := 75) hx hb hG zuX13 hown hK hP 0 rfl rfl 1 (by decide) (hG _ zw303) (fun _ h9 => h9) rfl dX13_feed_49 ?_
  have hP9 := hP.sub (ws' := [(h0, .inr (13, [.ref h1, .int 20, .ref u0, .ref u1, .int 0, .ref u2, .ref u3, .ref u4, .ref u5, .ref u6, .ref u7, .ref u8, .ref u9, .int 0, .ref u10, .ref u11, .int 0, .ref u12, .int (-1), .ref u13, .int 0, .int 0, .ref u14, .int 0, .int 0, .ref u15, .ref u16, .ref u17, .ref u18, .ref u19, .int 0, .ref u20, .int 0, .int 0, .int 0, .int 0, .int 0, .int 0, .ref u21, .ref u22, .ref u23, .ref u24, .int 0, .ref u25, .ref u26, .ref u27, .ref u28, .int 0, .ref u29, .ref u30, .int 0, .int 0, .ref u31, .int 0, .int 0, .int 0, .ref u32, .ref u33, .ref u34, .int 0, .int 0, .ref u35, .ref u36, .ref u37, .ref u38, .ref u39, .ref u40, .ref u41, .ref u42, .ref u43, .ref u44, .int 0, .ref u45, .ref u46, .ref u47])), (h1, .inl (k1, 600, .inl f_3613))]) [0, 1] rfl
  have hD9 := hD.sub (ws' := [(h0, .inr (13, [.ref h1, .int 20, .ref u0, .ref u1, .int 0, .ref u2, .ref u3, .ref u4, .ref u5, .ref u6, .ref u7, .ref u8, .ref u9, .int 0, .ref u10, .ref u11, .int 0, .ref u12, .int (-1), .ref u13, .int 0, .int 0, .ref u14, .int 0, .int 0, .ref u15, .ref u16, .ref u17, .ref u18, .ref u19, .int 0, .ref u20, .int 0, .int 0, .int 0, .int 0, .int 0, .int 0, .ref u21, .ref u22, .ref u23, .ref u24, .int 0, .ref u25, .ref u26, .ref u27, .ref u28, .int 0, .ref u29, .ref u30, .int 0, .int 0, .ref u31, .int 0, .int 0, .int 0, .ref u32, .ref u33, .ref u34, .int 0, .int 0, .ref u35, .ref u36, .ref u37, .ref u38, .ref u39, .ref u40, .ref u41, .ref u42, .ref u43, .ref u44, .int 0, .ref u45, .ref u46, .ref u47])), (h1, .inl (k1, 600, .inl f_3613))]) [0, 1] (by decide) rfl
  have hK9 := hK.sub (tys' := [(k1, .byte)]) [0] rfl
  refine W.widen (k := 0) (n := 0) (by decide) (by decide) ?_
  exact W.iret (v := 20) hx hb hr (fun t ht hW => ⟨⟨20, (), rfl, rfl, f_3613, by rw [ht]; exact hP9, va_K.moved hW.alike hK9, hD9⟩, hS.F ht⟩) hS.2.2 dX13_feed_52
