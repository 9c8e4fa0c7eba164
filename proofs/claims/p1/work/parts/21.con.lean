set_option maxHeartbeats 4000000 in
set_option maxRecDepth 100000 in
theorem kX4_fail_1 (l : Launch) (dC : Nat → ClassId) (dI : Nat → Nat → Nat) (h0 u0 u1 u2 u3 : Nat) (sz : Nat) : Met l yX4_fail (zw yX4_fail cX4_fail 3 none) { frames := 0, cells := 0, slots := 0, locals := 0 } (zPc dC dI [.ref h0, .int 1, .int 0] sz [(h0, .inr (4, [.ref u0, .ref u1, .ref u2, .ref u3, .int 265, .int 0, .int 1, .int 1001, .int (-1), .int 0, .int 0, .int 0]))] []) (va_Qv (fun _ : Unit => True) (fun (_ : Unit) (t : State) => va_P (dC, dI) vwCl [(h0, .inr (4, [.ref u0, .ref u1, .ref u2, .ref u3, .int 265, .int 0, .int 1, .int 1001, .int (-1), .int 0, .int 0, .int 0]))] t.heap ∧ va_K (dC, dI) vwCl [] t ∧ va_D (va_A [(h0, .inr (4, [.ref u0, .ref u1, .ref u2, .ref u3, .int 265, .int 0, .int 1, .int 1001, .int (-1), .int 0, .int 0, .int 0]))] sz) [(h0, .inr (4, [.ref u0, .ref u1, .ref u2, .ref u3, .int 265, .int 0, .int 1, .int 1001, .int (-1), .int 0, .int 0, .int 0]))]) (va_A [(h0, .inr (4, [.ref u0, .ref u1, .ref u2, .ref u3, .int 265, .int 0, .int 1, .int 1001, .int (-1), .int 0, .int 0, .int 0]))] sz)) 0 0 (va_A [(h0, .inr (4, [.ref u0, .ref u1, .ref u2, .ref u3, .int 265, .int 0, .int 1, .int 1001, .int (-1), .int 0, .int 0, .int 0]))] sz) := by
  refine Met.ofW (cc := cX4_fail) (maxL := 3) (ret := none) (by decide) rfl ?_
  intro p e s m args below meth c s₁ B hml hv
  obtain ⟨rfl, hsz, hP, hK, hD0, hE, hZ⟩ := hv
  have hx := B.exec
  have hb := B.bytes
  have hr := B.returns
  have hG : ∀ w ∈ zG, w.before _ s = true := fun w h => atoms_spec (ws := (zw yX4_fail cX4_fail 3 none)) B.pre w (List.mem_cons_of_mem _ h)
  have hown : s.vm.findClass RX4 = some m.cls := findClass_of_methodNamed B.named
  have hlocks := B.notSynchronized
  subst hsz
  have hD := hD0.self (sz := s.heap.size)
  generalize hAe : va_A [(h0, .inr (4, [.ref u0, .ref u1, .ref u2, .ref u3, .int 265, .int 0, .int 1, .int 1001, .int (-1), .int 0, .int 0, .int 0]))] s.heap.size = A at hD hZ ⊢
  have hA : ∀ q : Nat, s.heap.size ≤ q → A q := fun q h => by rw [← hAe]; exact Or.inr h
  have hS : va_S A s.heap s.heap [] := va_S.rf
  have hl := lv_entry ([.ref h0, .int 1, .int 0]) (n := 3) (Nat.le_of_ble_eq_true rfl)
  rw [lg_entry_eq]
  generalize (lg_sl ([.ref h0, .int 1, .int 0]) ++ List.replicate (3 - (lg_sl ([.ref h0, .int 1, .int 0])).length) Slot.unset).toArray = ls at hl ⊢
  have hl : lv_has ls 3 [(0, .ref h0), (1, .int 1), (2, .int 0)] := hl
  refine lv_aload_n hx hb dX4_fail_0 rfl (lv_at hl 0 rfl) ?_
  refine va_get (D := (dC, dI)) (ci := 4) (v := .int 1001) (C := RX4) (T := TX4) (N := 12) hx hb hG zuX4 hown hK hP 0 rfl rfl 7 (by decide) (hG _ zw132) (fun _ h9 => h9) rfl dX4_fail_1 ?_
  refine lv_if_ne (tgt := 20) hx hb dX4_fail_4 (by decide) (fun c_5826 => ?_) (fun c_5826 => absurd c_5826 (by decide))
  refine lv_aload_n hx hb dX4_fail_20 rfl (lv_at hl 0 rfl) ?_
  refine lv_sipush (v := 265) hx hb dX4_fail_21 (by decide) ?_
  refine va_put (D := (dC, dI)) (ci := 4) (v := .int 265) (ty := .int) (C := RX4) (T := TX4) (N := 12) hx hb hG zuX4 tyX4 tyX4_ok nmX4 hown hK hP hD hS 0 rfl rfl 4 (by decide) (hG _ zw129) (fun _ h9 => h9) rfl (by decide +kernel) rfl rfl (Nat.le_of_ble_eq_true rfl) dX4_fail_24 (fun H locs hP hD hS => ?_)
  have hP : va_P (dC, dI) vwCl [(h0, .inr (4, [.ref u0, .ref u1, .ref u2, .ref u3, .int 265, .int 0, .int 1, .int 1001, .int (-1), .int 0, .int 0, .int 0]))] H := hP
  have hD : va_D A [(h0, .inr (4, [.ref u0, .ref u1, .ref u2, .ref u3, .int 265, .int 0, .int 1, .int 1001, .int (-1), .int 0, .int 0, .int 0]))] := hD
  have hP9 := hP.sub (ws' := [(h0, .inr (4, [.ref u0, .ref u1, .ref u2, .ref u3, .int 265, .int 0, .int 1, .int 1001, .int (-1), .int 0, .int 0, .int 0]))]) [0] rfl
  have hD9 := hD.sub (ws' := [(h0, .inr (4, [.ref u0, .ref u1, .ref u2, .ref u3, .int 265, .int 0, .int 1, .int 1001, .int (-1), .int 0, .int 0, .int 0]))]) [0] (by decide) rfl
  have hK9 := hK.sub (tys' := []) [] rfl
  refine W.widen (k := 0) (n := 0) (by decide) (by decide) ?_
  exact W.vret hx hb hr (fun t ht hW => ⟨⟨(), rfl, trivial, by rw [ht]; exact hP9, va_K.moved hW.alike hK9, hD9⟩, hS.F ht⟩) hS.2.2 dX4_fail_27
set_option maxHeartbeats 4000000 in
set_option maxRecDepth 100000 in
theorem kX4_read_0 (l : Launch) (dC : Nat → ClassId) (dI : Nat → Nat → Nat) (h0 h1 h2 u0 u1 u2 u3 u4 u5 u6 u7 u8 u9 u10 : Nat) (sz : Nat) : Met l yX4_read (zw yX4_read cX4_read 1 (some .int)) { frames := 7, cells := 0, slots := 0, locals := 156 } (zPc dC dI [.ref h0] sz [(h0, .inr (4, [.ref h2, .ref u0, .ref u1, .ref h1, .int 256, .int 0, .int 0, .int 0, .int (-1), .int 0, .int 0, .int 0])), (h1, .inr (7, [.ref u2, .ref u3, .ref u4, .ref u5, .ref u6, .ref u7, .ref u8, .int 0, .int 0, .int 0, .int 0, .int 0])), (h2, .inr (9, [.ref u9, .ref u10, .int 0, .int 0]))] []) (va_Qi (fun (r : Int32) (_ : Unit) => r = 1001) (fun (_ : Unit) (t : State) => va_P (dC, dI) vwCl [(h0, .inr (4, [.ref h2, .ref u0, .ref u1, .ref h1, .int 265, .int 0, .int 1, .int 1001, .int (-1), .int 0, .int 0, .int 0])), (h1, .inr (7, [.ref u2, .ref u3, .ref u4, .ref u5, .ref u6, .ref u7, .ref u8, .int 0, .int 0, .int 0, .int 0, .int 0])), (h2, .inr (9, [.ref u9, .ref u10, .int 0, .int 0]))] t.heap ∧ va_K (dC, dI) vwCl [] t ∧ va_D (va_A [(h0, .inr (4, [.ref h2, .ref u0, .ref u1, .ref h1, .int 256, .int 0, .int 0, .int 0, .int (-1), .int 0, .int 0, .int 0])), (h1, .inr (7, [.ref u2, .ref u3, .ref u4, .ref u5, .ref u6, .ref u7, .ref u8, .int 0, .int 0, .int 0, .int 0, .int 0])), (h2, .inr (9, [.ref u9, .ref u10, .int 0, .int 0]))] sz) [(h0, .inr (4, [.ref h2, .ref u0, .ref u1, .ref h1, .int 265, .int 0, .int 1, .int 1001, .int (-1), .int 0, .int 0, .int 0])), (h1, .inr (7, [.ref u2, .ref u3, .ref u4, .ref u5, .ref u6, .ref u7, .ref u8, .int 0, .int 0, .int 0, .int 0, .int 0])), (h2, .inr (9, [.ref u9, .ref u10, .int 0, .int 0]))]) (va_A [(h0, .inr (4, [.ref h2, .ref u0, .ref u1, .ref h1, .int 256, .int 0, .int 0, .int 0, .int (-1), .int 0, .int 0, .int 0])), (h1, .inr (7, [.ref u2, .ref u3, .ref u4, .ref u5, .ref u6, .ref u7, .ref u8, .int 0, .int 0, .int 0, .int 0, .int 0])), (h2, .inr (9, [.ref u9, .ref u10, .int 0, .int 0]))] sz)) 0 0 (va_A [(h0, .inr (4, [.ref h2, .ref u0, .ref u1, .ref h1, .int 256, .int 0, .int 0, .int 0, .int (-1), .int 0, .int 0, .int 0])), (h1, .inr (7, [.ref u2, .ref u3, .ref u4, .ref u5, .ref u6, .ref u7, .ref u8, .int 0, .int 0, .int 0, .int 0, .int 0])), (h2, .inr (9, [.ref u9, .ref u10, .int 0, .int 0]))] sz) := by
  refine Met.ofW (cc := cX4_read) (maxL := 1) (ret := (some .int)) (by decide) rfl ?_
  intro p e s m args below meth c s₁ B hml hv
  obtain ⟨rfl, hsz, hP, hK, hD0, hE, hZ⟩ := hv
  have hx := B.exec
  have hb := B.bytes
  have hr := B.returns
  have hG : ∀ w ∈ zG, w.before _ s = true := fun w h => atoms_spec (ws := (zw yX4_read cX4_read 1 (some .int))) B.pre w (List.mem_cons_of_mem _ h)
  have hown : s.vm.findClass RX4 = some m.cls := findClass_of_methodNamed B.named
  have hlocks := B.notSynchronized
  subst hsz
  have hD := hD0.self (sz := s.heap.size)
  generalize hAe : va_A [(h0, .inr (4, [.ref h2, .ref u0, .ref u1, .ref h1, .int 256, .int 0, .int 0, .int 0, .int (-1), .int 0, .int 0, .int 0])), (h1, .inr (7, [.ref u2, .ref u3, .ref u4, .ref u5, .ref u6, .ref u7, .ref u8, .int 0, .int 0, .int 0, .int 0, .int 0])), (h2, .inr (9, [.ref u9, .ref u10, .int 0, .int 0]))] s.heap.size = A at hD hZ ⊢
  have hA : ∀ q : Nat, s.heap.size ≤ q → A q := fun q h => by rw [← hAe]; exact Or.inr h
  have hS : va_S A s.heap s.heap [] := va_S.rf
  have hl := lv_entry ([.ref h0]) (n := 1) (Nat.le_of_ble_eq_true rfl)
  rw [lg_entry_eq]
  generalize (lg_sl ([.ref h0]) ++ List.replicate (1 - (lg_sl ([.ref h0])).length) Slot.unset).toArray = ls at hl ⊢
  have hl : lv_has ls 1 [(0, .ref h0)] := hl
  refine lv_aload_n hx hb dX4_read_0 rfl (lv_at hl 0 rfl) ?_
  refine va_get (D := (dC, dI)) (ci := 4) (v := .ref h1) (C := RX4) (T := TX4) (N := 12) hx hb hG zuX4 hown hK hP 0 rfl rfl 3 (by decide) (hG _ zw140) (fun _ h9 => h9) rfl dX4_read_1 ?_
  have hPc := hP.sub (ws' := [(h1, .inr (7, [.ref u2, .ref u3, .ref u4, .ref u5, .ref u6, .ref u7, .ref u8, .int 0, .int 0, .int 0, .int 0, .int 0]))]) [1] rfl
  have hDc := hD.sub (ws' := [(h1, .inr (7, [.ref u2, .ref u3, .ref u4, .ref u5, .ref u6, .ref u7, .ref u8, .int 0, .int 0, .int 0, .int 0, .int 0]))]) [1] (by decide) rfl
  have hKc := hK.sub (tys' := []) [] rfl
  have hFc := va_free (wc := [(h1, .inr (7, [.ref u2, .ref u3, .ref u4, .ref u5, .ref u6, .ref u7, .ref u8, .int 0, .int 0, .int 0, .int 0, .int 0]))]) hD hS hA [1] rfl
  refine va_callv (va_runV (As := []) (rest := []) ⟨hx, hb, hml, hown, hG⟩ (kX7_clear_0 l dC dI h1 u2 u3 u4 u5 u6 u7 u8 s.heap.size) (cwV 0 hG (zgV zw606 zw607 zw608 zw108 zw609) rfl rfl rfl (by decide +kernel) ⟨Nat.le_of_ble_eq_true rfl, Nat.le_of_ble_eq_true rfl⟩) ⟨zPc_blind, va_recv hKc hPc (ci := 7) (q0 := 0) rfl rfl, zPc_pre hPc hKc hDc hE hS hFc hZ⟩ rfl rfl hl.1 rfl (lv_room (Nat.le_of_ble_eq_true rfl)) dX4_read_4 ⟨Nat.le_of_ble_eq_true rfl, Nat.le_of_ble_eq_true rfl⟩) hS (fun q _ h => hFc q h) hFc (fun u t H1 locs ht hvm hw hB hz1 hk1 hS => ?_)
  obtain ⟨hP1, hK1, hD1⟩ := hB
  rw [ht] at hP1
  obtain ⟨hP, hD⟩ := va_join (wr := [(h0, .inr (4, [.ref h2, .ref u0, .ref u1, .ref h1, .int 256, .int 0, .int 0, .int 0, .int (-1), .int 0, .int 0, .int 0])), (h2, .inr (9, [.ref u9, .ref u10, .int 0, .int 0]))]) (w1 := [(h1, .inr (7, [.ref u2, .ref u3, .ref u4, .ref u5, .ref u6, .ref u7, .ref u8, .int 0, .int 0, .int 0, .int 0, .int 0]))]) hP hD [1] [0, 2] rfl rfl (by decide) (by decide) hk1 hFc hP1 hD1
  generalize H1 = H at hP hS ⊢
  have hP : va_P (dC, dI) vwCl [(h0, .inr (4, [.ref h2, .ref u0, .ref u1, .ref h1, .int 256, .int 0, .int 0, .int 0, .int (-1), .int 0, .int 0, .int 0])), (h2, .inr (9, [.ref u9, .ref u10, .int 0, .int 0])), (h1, .inr (7, [.ref u2, .ref u3, .ref u4, .ref u5, .ref u6, .ref u7, .ref u8, .int 0, .int 0, .int 0, .int 0, .int 0]))] H := hP
  have hD : va_D A [(h0, .inr (4, [.ref h2, .ref u0, .ref u1, .ref h1, .int 256, .int 0, .int 0, .int 0, .int (-1), .int 0, .int 0, .int 0])), (h2, .inr (9, [.ref u9, .ref u10, .int 0, .int 0])), (h1, .inr (7, [.ref u2, .ref u3, .ref u4, .ref u5, .ref u6, .ref u7, .ref u8, .int 0, .int 0, .int 0, .int 0, .int 0]))] := hD
  refine lv_aload_n hx hb dX4_read_7 rfl (lv_at hl 0 rfl) ?_
  refine lv_sipush (v := 256) hx hb dX4_read_8 (by decide) ?_
  refine va_put (D := (dC, dI)) (ci := 4) (v := .int 256) (ty := .int) (C := RX4) (T := TX4) (N := 12) hx hb hG zuX4 tyX4 tyX4_ok nmX4 hown hK hP hD hS 0 rfl rfl 4 (by decide) (hG _ zw129) (fun _ h9 => h9) rfl (by decide +kernel) rfl rfl (Nat.le_of_ble_eq_true rfl) dX4_read_11 (fun H locs hP hD hS => ?_)
  have hP : va_P (dC, dI) vwCl [(h0, .inr (4, [.ref h2, .ref u0, .ref u1, .ref h1, .int 256, .int 0, .int 0, .int 0, .int (-1), .int 0, .int 0, .int 0])), (h2, .inr (9, [.ref u9, .ref u10, .int 0, .int 0])), (h1, .inr (7, [.ref u2, .ref u3, .ref u4, .ref u5, .ref u6, .ref u7, .ref u8, .int 0, .int 0, .int 0, .int 0, .int 0]))] H := hP
  have hD : va_D A [(h0, .inr (4, [.ref h2, .ref u0, .ref u1, .ref h1, .int 256, .int 0, .int 0, .int 0, .int (-1), .int 0, .int 0, .int 0])), (h2, .inr (9, [.ref u9, .ref u10, .int 0, .int 0])), (h1, .inr (7, [.ref u2, .ref u3, .ref u4, .ref u5, .ref u6, .ref u7, .ref u8, .int 0, .int 0, .int 0, .int 0, .int 0]))] := hD
  refine lv_aload_n hx hb dX4_read_14 rfl (lv_at hl 0 rfl) ?_
  refine lv_iconst (v := 0) hx hb dX4_read_15 (by decide) ?_
  refine va_put (D := (dC, dI)) (ci := 4) (v := .int 0) (ty := .int) (C := RX4) (T := TX4) (N := 12) hx hb hG zuX4 tyX4 tyX4_ok nmX4 hown hK hP hD hS 0 rfl rfl 6 (by decide) (hG _ zw131) (fun _ h9 => h9) rfl (by decide +kernel) rfl rfl (Nat.le_of_ble_eq_true rfl) dX4_read_16 (fun H locs hP hD hS => ?_)
  have hP : va_P (dC, dI) vwCl [(h0, .inr (4, [.ref h2, .ref u0, .ref u1, .ref h1, .int 256, .int 0, .int 0, .int 0, .int (-1), .int 0, .int 0, .int 0])), (h2, .inr (9, [.ref u9, .ref u10, .int 0, .int 0])), (h1, .inr (7, [.ref u2, .ref u3, .ref u4, .ref u5, .ref u6, .ref u7, .ref u8, .int 0, .int 0, .int 0, .int 0, .int 0]))] H := hP
  have hD : va_D A [(h0, .inr (4, [.ref h2, .ref u0, .ref u1, .ref h1, .int 256, .int 0, .int 0, .int 0, .int (-1), .int 0, .int 0, .int 0])), (h2, .inr (9, [.ref u9, .ref u10, .int 0, .int 0])), (h1, .inr (7, [.ref u2, .ref u3, .ref u4, .ref u5, .ref u6, .ref u7, .ref u8, .int 0, .int 0, .int 0, .int 0, .int 0]))] := hD
  refine lv_aload_n hx hb dX4_read_19 rfl (lv_at hl 0 rfl) ?_
  refine lv_iconst (v := 0) hx hb dX4_read_20 (by decide) ?_
  refine va_put (D := (dC, dI)) (ci := 4) (v := .int 0) (ty := .int) (C := RX4) (T := TX4) (N := 12) hx hb hG zuX4 tyX4 tyX4_ok nmX4 hown hK hP hD hS 0 rfl rfl 7 (by decide) (hG _ zw132) (fun _ h9 => h9) rfl (by decide +kernel) rfl rfl (Nat.le_of_ble_eq_true rfl) dX4_read_21 (fun H locs hP hD hS => ?_)
  have hP : va_P (dC, dI) vwCl [(h0, .inr (4, [.ref h2, .ref u0, .ref u1, .ref h1, .int 256, .int 0, .int 0, .int 0, .int (-1), .int 0, .int 0, .int 0])), (h2, .inr (9, [.ref u9, .ref u10, .int 0, .int 0])), (h1, .inr (7, [.ref u2, .ref u3, .ref u4, .ref u5, .ref u6, .ref u7, .ref u8, .int 0, .int 0, .int 0, .int 0, .int 0]))] H := hP
  have hD : va_D A [(h0, .inr (4, [.ref h2, .ref u0, .ref u1, .ref h1, .int 256, .int 0, .int 0, .int 0, .int (-1), .int 0, .int 0, .int 0])), (h2, .inr (9, [.ref u9, .ref u10, .int 0, .int 0])), (h1, .inr (7, [.ref u2, .ref u3, .ref u4, .ref u5, .ref u6, .ref u7, .ref u8, .int 0, .int 0, .int 0, .int 0, .int 0]))] := hD
  refine lv_aload_n hx hb dX4_read_24 rfl (lv_at hl 0 rfl) ?_
  refine lv_iconst (v := (-1)) hx hb dX4_read_25 (by decide) ?_
  refine va_put (D := (dC, dI)) (ci := 4) (v := .int (-1)) (ty := .int) (C := RX4) (T := TX4) (N := 12) hx hb hG zuX4 tyX4 tyX4_ok nmX4 hown hK hP hD hS 0 rfl rfl 8 (by decide) (hG _ zw133) (fun _ h9 => h9) rfl (by decide +kernel) rfl rfl (Nat.le_of_ble_eq_true rfl) dX4_read_26 (fun H locs hP hD hS => ?_)
  have hP : va_P (dC, dI) vwCl [(h0, .inr (4, [.ref h2, .ref u0, .ref u1, .ref h1, .int 256, .int 0, .int 0, .int 0, .int (-1), .int 0, .int 0, .int 0])), (h2, .inr (9, [.ref u9, .ref u10, .int 0, .int 0])), (h1, .inr (7, [.ref u2, .ref u3, .ref u4, .ref u5, .ref u6, .ref u7, .ref u8, .int 0, .int 0, .int 0, .int 0, .int 0]))] H := hP
  have hD : va_D A [(h0, .inr (4, [.ref h2, .ref u0, .ref u1, .ref h1, .int 256, .int 0, .int 0, .int 0, .int (-1), .int 0, .int 0, .int 0])), (h2, .inr (9, [.ref u9, .ref u10, .int 0, .int 0])), (h1, .inr (7, [.ref u2, .ref u3, .ref u4, .ref u5, .ref u6, .ref u7, .ref u8, .int 0, .int 0, .int 0, .int 0, .int 0]))] := hD
  refine lv_aload_n hx hb dX4_read_29 rfl (lv_at hl 0 rfl) ?_
  refine lv_iconst (v := 0) hx hb dX4_read_30 (by decide) ?_
  refine va_put (D := (dC, dI)) (ci := 4) (v := .int 0) (ty := .int) (C := RX4) (T := TX4) (N := 12) hx hb hG zuX4 tyX4 tyX4_ok nmX4 hown hK hP hD hS 0 rfl rfl 10 (by decide) (hG _ zw135) (fun _ h9 => h9) rfl (by decide +kernel) rfl rfl (Nat.le_of_ble_eq_true rfl) dX4_read_31 (fun H locs hP hD hS => ?_)
  have hP : va_P (dC, dI) vwCl [(h0, .inr (4, [.ref h2, .ref u0, .ref u1, .ref h1, .int 256, .int 0, .int 0, .int 0, .int (-1), .int 0, .int 0, .int 0])), (h2, .inr (9, [.ref u9, .ref u10, .int 0, .int 0])), (h1, .inr (7, [.ref u2, .ref u3, .ref u4, .ref u5, .ref u6, .ref u7, .ref u8, .int 0, .int 0, .int 0, .int 0, .int 0]))] H := hP
  have hD : va_D A [(h0, .inr (4, [.ref h2, .ref u0, .ref u1, .ref h1, .int 256, .int 0, .int 0, .int 0, .int (-1), .int 0, .int 0, .int 0])), (h2, .inr (9, [.ref u9, .ref u10, .int 0, .int 0])), (h1, .inr (7, [.ref u2, .ref u3, .ref u4, .ref u5, .ref u6, .ref u7, .ref u8, .int 0, .int 0, .int 0, .int 0, .int 0]))] := hD
  refine lv_aload_n hx hb dX4_read_34 rfl (lv_at hl 0 rfl) ?_
  refine lv_iconst (v := 0) hx hb dX4_read_35 (by decide) ?_
  refine va_put (D := (dC, dI)) (ci := 4) (v := .int 0) (ty := .int) (C := RX4) (T := TX4) (N := 12) hx hb hG zuX4 tyX4 tyX4_ok nmX4 hown hK hP hD hS 0 rfl rfl 11 (by decide) (hG _ zw136) (fun _ h9 => h9) rfl (by decide +kernel) rfl rfl (Nat.le_of_ble_eq_true rfl) dX4_read_36 (fun H locs hP hD hS => ?_)
  have hP : va_P (dC, dI) vwCl [(h0, .inr (4, [.ref h2, .ref u0, .ref u1, .ref h1, .int 256, .int 0, .int 0, .int 0, .int (-1), .int 0, .int 0, .int 0])), (h2, .inr (9, [.ref u9, .ref u10, .int 0, .int 0])), (h1, .inr (7, [.ref u2, .ref u3, .ref u4, .ref u5, .ref u6, .ref u7, .ref u8, .int 0, .int 0, .int 0, .int 0, .int 0]))] H := hP
  have hD : va_D A [(h0, .inr (4, [.ref h2, .ref u0, .ref u1, .ref h1, .int 256, .int 0, .int 0, .int 0, .int (-1), .int 0, .int 0, .int 0])), (h2, .inr (9, [.ref u9, .ref u10, .int 0, .int 0])), (h1, .inr (7, [.ref u2, .ref u3, .ref u4, .ref u5, .ref u6, .ref u7, .ref u8, .int 0, .int 0, .int 0, .int 0, .int 0]))] := hD
  refine lv_aload_n hx hb dX4_read_39 rfl (lv_at hl 0 rfl) ?_
  have hPc := hP.sub (ws' := [(h0, .inr (4, [.ref h2, .ref u0, .ref u1, .ref h1, .int 256, .int 0, .int 0, .int 0, .int (-1), .int 0, .int 0, .int 0])), (h2, .inr (9, [.ref u9, .ref u10, .int 0, .int 0]))]) [0, 1] rfl
  have hDc := hD.sub (ws' := [(h0, .inr (4, [.ref h2, .ref u0, .ref u1, .ref h1, .int 256, .int 0, .int 0, .int 0, .int (-1), .int 0, .int 0, .int 0])), (h2, .inr (9, [.ref u9, .ref u10, .int 0, .int 0]))]) [0, 1] (by decide) rfl
  have hKc := hK.sub (tys' := []) [] rfl
  have hFc := va_free (wc := [(h0, .inr (4, [.ref h2, .ref u0, .ref u1, .ref h1, .int 256, .int 0, .int 0, .int 0, .int (-1), .int 0, .int 0, .int 0])), (h2, .inr (9, [.ref u9, .ref u10, .int 0, .int 0]))]) hD hS hA [0, 1] rfl
  refine va_callv (va_runV (As := []) (rest := []) ⟨hx, hb, hml, hown, hG⟩ (kX4_next_0 l dC dI h0 h2 u0 u1 h1 u9 u10 H.size) (cwV 0 hG (zgV zw625 zw626 zw627 zw127 zw628) rfl rfl rfl (by decide +kernel) ⟨Nat.le_of_ble_eq_true rfl, Nat.le_of_ble_eq_true rfl⟩) ⟨zPc_blind, va_recv hKc hPc (ci := 4) (q0 := 0) rfl rfl, zPc_pre hPc hKc hDc hE hS hFc hZ⟩ rfl rfl hl.1 rfl (lv_room (Nat.le_of_ble_eq_true rfl)) dX4_read_40 ⟨Nat.le_of_ble_eq_true rfl, Nat.le_of_ble_eq_true rfl⟩) hS (fun q _ h => hFc q h) hFc (fun u t H1 locs ht hvm hw hB hz1 hk1 hS => ?_)
  obtain ⟨hP1, hK1, hD1⟩ := hB
  rw [ht] at hP1
  obtain ⟨hP, hD⟩ := va_join (wr := [(h1, .inr (7, [.ref u2, .ref u3, .ref u4, .ref u5, .ref u6, .ref u7, .ref u8, .int 0, .int 0, .int 0, .int 0, .int 0]))]) (w1 := [(h0, .inr (4, [.ref h2, .ref u0, .ref u1, .ref h1, .int 256, .int 0, .int 1, .int 0, .int (-1), .int 0, .int 0, .int 0])), (h2, .inr (9, [.ref u9, .ref u10, .int 0, .int 0]))]) hP hD [0, 1] [2] rfl rfl (by decide) (by decide) hk1 hFc hP1 hD1
  generalize H1 = H at hP hS ⊢
  have hP : va_P (dC, dI) vwCl [(h1, .inr (7, [.ref u2, .ref u3, .ref u4, .ref u5, .ref u6, .ref u7, .ref u8, .int 0, .int 0, .int 0, .int 0, .int 0])), (h0, .inr (4, [.ref h2, .ref u0, .ref u1, .ref h1, .int 256, .int 0, .int 1, .int 0, .int (-1), .int 0, .int 0, .int 0])), (h2, .inr (9, [.ref u9, .ref u10, .int 0, .int 0]))] H := hP
  have hD : va_D A [(h1, .inr (7, [.ref u2, .ref u3, .ref u4, .ref u5, .ref u6, .ref u7, .ref u8, .int 0, .int 0, .int 0, .int 0, .int 0])), (h0, .inr (4, [.ref h2, .ref u0, .ref u1, .ref h1, .int 256, .int 0, .int 1, .int 0, .int (-1), .int 0, .int 0, .int 0])), (h2, .inr (9, [.ref u9, .ref u10, .int 0, .int 0]))] := hD
  refine lv_aload_n hx hb dX4_read_43 rfl (lv_at hl 0 rfl) ?_
  have hPc := hP.sub (ws' := [(h0, .inr (4, [.ref h2, .ref u0, .ref u1, .ref h1, .int 256, .int 0, .int 1, .int 0, .int (-1), .int 0, .int 0, .int 0]))]) [1] rfl
  have hDc := hD.sub (ws' := [(h0, .inr (4, [.ref h2, .ref u0, .ref u1, .ref h1, .int 256, .int 0, .int 1, .int 0, .int (-1), .int 0, .int 0, .int 0]))]) [1] (by decide) rfl
  have hKc := hK.sub (tys' := []) [] rfl
  have hFc := va_free (wc := [(h0, .inr (4, [.ref h2, .ref u0, .ref u1, .ref h1, .int 256, .int 0, .int 1, .int 0, .int (-1), .int 0, .int 0, .int 0]))]) hD hS hA [1] rfl
  refine va_callv (va_runV (As := []) (rest := []) ⟨hx, hb, hml, hown, hG⟩ (kX4_readQuery_0 l dC dI h0 h2 u0 u1 h1 H.size) (cwV 0 hG (zgV zw657 zw658 zw659 zw127 zw660) rfl rfl rfl (by decide +kernel) ⟨Nat.le_of_ble_eq_true rfl, Nat.le_of_ble_eq_true rfl⟩) ⟨zPc_blind, va_recv hKc hPc (ci := 4) (q0 := 0) rfl rfl, zPc_pre hPc hKc hDc hE hS hFc hZ⟩ rfl rfl hl.1 rfl (lv_room (Nat.le_of_ble_eq_true rfl)) dX4_read_44 ⟨Nat.le_of_ble_eq_true rfl, Nat.le_of_ble_eq_true rfl⟩) hS (fun q _ h => hFc q h) hFc (fun u t H1 locs ht hvm hw hB hz1 hk1 hS => ?_)
  obtain ⟨hP1, hK1, hD1⟩ := hB
  rw [ht] at hP1
  obtain ⟨hP, hD⟩ := va_join (wr := [(h1, .inr (7, [.ref u2, .ref u3, .ref u4, .ref u5, .ref u6, .ref u7, .ref u8, .int 0, .int 0, .int 0, .int 0, .int 0])), (h2, .inr (9, [.ref u9, .ref u10, .int 0, .int 0]))]) (w1 := [(h0, .inr (4, [.ref h2, .ref u0, .ref u1, .ref h1, .int 265, .int 0, .int 1, .int 1001, .int (-1), .int 0, .int 0, .int 0]))]) hP hD [1] [0, 2] rfl rfl (by decide) (by decide) hk1 hFc hP1 hD1
  generalize H1 = H at hP hS ⊢
  have hP : va_P (dC, dI) vwCl [(h1, .inr (7, [.ref u2, .ref u3, .ref u4, .ref u5, .ref u6, .ref u7, .ref u8, .int 0, .int 0, .int 0, .int 0, .int 0])), (h2, .inr (9, [.ref u9, .ref u10, .int 0, .int 0])), (h0, .inr (4, [.ref h2, .ref u0, .ref u1, .ref h1, .int 265, .int 0, .int 1, .int 1001, .int (-1), .int 0, .int 0, .int 0]))] H := hP
  have hD : va_D A [(h1, .inr (7, [.ref u2, .ref u3, .ref u4, .ref u5, .ref u6, .ref u7, .ref u8, .int 0, .int 0, .int 0, .int 0, .int 0])), (h2, .inr (9, [.ref u9, .ref u10, .int 0, .int 0])), (h0, .inr (4, [.ref h2, .ref u0, .ref u1, .ref h1, .int 265, .int 0, .int 1, .int 1001, .int (-1), .int 0, .int 0, .int 0]))] := hD
  refine lv_aload_n hx hb dX4_read_47 rfl (lv_at hl 0 rfl) ?_
  refine va_get (D := (dC, dI)) (ci := 4) (v := .int 265) (C := RX4) (T := TX4) (N := 12) hx hb hG zuX4 hown hK hP 2 rfl rfl 4 (by decide) (hG _ zw129) (fun _ h9 => h9) rfl dX4_read_48 ?_
  refine lv_sipush (v := 256) hx hb dX4_read_51 (by decide) ?_
  refine lv_icmp_ne (tgt := 64) hx hb dX4_read_54 (by decide) (fun c_5943 => ?_) (fun c_5943 => absurd c_5943 (by decide))
  refine lv_aload_n hx hb dX4_read_64 rfl (lv_at hl 0 rfl) ?_
  refine lv_iconst (v := 1) hx hb dX4_read_65 (by decide) ?_
  refine lv_aload_n hx hb dX4_read_66 rfl (lv_at hl 0 rfl) ?_
  refine va_get (D := (dC, dI)) (ci := 4) (v := .int 0) (C := RX4) (T := TX4) (N := 12) hx hb hG zuX4 hown hK hP 2 rfl rfl 5 (by decide) (hG _ zw130) (fun _ h9 => h9) rfl dX4_read_67 ?_
  have hPc := hP.sub (ws' := [(h0, .inr (4, [.ref h2, .ref u0, .ref u1, .ref h1, .int 265, .int 0, .int 1, .int 1001, .int (-1), .int 0, .int 0, .int 0]))]) [2] rfl
  have hDc := hD.sub (ws' := [(h0, .inr (4, [.ref h2, .ref u0, .ref u1, .ref h1, .int 265, .int 0, .int 1, .int 1001, .int (-1), .int 0, .int 0, .int 0]))]) [2] (by decide) rfl
  have hKc := hK.sub (tys' := []) [] rfl
  have hFc := va_free (wc := [(h0, .inr (4, [.ref h2, .ref u0, .ref u1, .ref h1, .int 265, .int 0, .int 1, .int 1001, .int (-1), .int 0, .int 0, .int 0]))]) hD hS hA [2] rfl
  refine va_callv (va_runV (As := [.int 1, .int 0]) (rest := []) ⟨hx, hb, hml, hown, hG⟩ (kX4_fail_1 l dC dI h0 h2 u0 u1 h1 H.size) (cwV 2 hG (zgV zw629 zw630 zw631 zw127 zw632) rfl rfl rfl (by decide +kernel) ⟨Nat.le_of_ble_eq_true rfl, Nat.le_of_ble_eq_true rfl⟩) ⟨zPc_blind, va_recv hKc hPc (ci := 4) (q0 := 0) rfl rfl, zPc_pre hPc hKc hDc hE hS hFc hZ⟩ rfl rfl hl.1 rfl (lv_room (Nat.le_of_ble_eq_true rfl)) dX4_read_70 ⟨Nat.le_of_ble_eq_true rfl, Nat.le_of_ble_eq_true rfl⟩) hS (fun q _ h => hFc q h) hFc (fun u t H1 locs ht hvm hw hB hz1 hk1 hS => ?_)
  obtain ⟨hP1, hK1, hD1⟩ := hB
  rw [ht] at hP1
  obtain ⟨hP, hD⟩ := va_join (wr := [(h1, .inr (7, [.ref u2, .ref u3, .ref u4, .ref u5, .ref u6, .ref u7, .ref u8, .int 0, .int 0, .int 0, .int 0, .int 0])), (h2, .inr (9, [.ref u9, .ref u10, .int 0, .int 0]))]) (w1 := [(h0, .inr (4, [.ref h2, .ref u0, .ref u1, .ref h1, .int 265, .int 0, .int 1, .int 1001, .int (-1), .int 0, .int 0, .int 0]))]) hP hD [2] [0, 1] rfl rfl (by decide) (by decide) hk1 hFc hP1 hD1
  generalize H1 = H at hP hS ⊢
  have hP : va_P (dC, dI) vwCl [(h1, .inr (7, [.ref u2, .ref u3, .ref u4, .ref u5, .ref u6, .ref u7, .ref u8, .int 0, .int 0, .int 0, .int 0, .int 0])), (h2, .inr (9, [.ref u9, .ref u10, .int 0, .int 0])), (h0, .inr (4, [.ref h2, .ref u0, .ref u1, .ref h1, .int 265, .int 0, .int 1, .int 1001, .int (-1), .int 0, .int 0, .int 0]))] H := hP
  have hD : va_D A [(h1, .inr (7, [.ref u2, .ref u3, .ref u4, .ref u5, .ref u6, .ref u7, .ref u8, .int 0, .int 0, .int 0, .int 0, .int 0])), (h2, .inr (9, [.ref u9, .ref u10, .int 0, .int 0])), (h0, .inr (4, [.ref h2, .ref u0, .ref u1, .ref h1, .int 265, .int 0, .int 1, .int 1001, .int (-1), .int 0, .int 0, .int 0]))] := hD
  refine lv_aload_n hx hb dX4_read_73 rfl (lv_at hl 0 rfl) ?_
  refine va_get (D := (dC, dI)) (ci := 4) (v := .int 1001) (C := RX4) (T := TX4) (N := 12) hx hb hG zuX4 hown hK hP 2 rfl rfl 7 (by decide) (hG _ zw132) (fun _ h9 => h9) rfl dX4_read_74 ?_
  have hP9 := hP.sub (ws' := [(h0, .inr (4, [.ref h2, .ref u0, .ref u1, .ref h1, .int 265, .int 0, .int 1, .int 1001, .int (-1), .int 0, .int 0, .int 0])), (h1, .inr (7, [.ref u2, .ref u3, .ref u4, .ref u5, .ref u6, .ref u7, .ref u8, .int 0, .int 0, .int 0, .int 0, .int 0])), (h2, .inr (9, [.ref u9, .ref u10, .int 0, .int 0]))]) [2, 0, 1] rfl
  have hD9 := hD.sub (ws' := [(h0, .inr (4, [.ref h2, .ref u0, .ref u1, .ref h1, .int 265, .int 0, .int 1, .int 1001, .int (-1), .int 0, .int 0, .int 0])), (h1, .inr (7, [.ref u2, .ref u3, .ref u4, .ref u5, .ref u6, .ref u7, .ref u8, .int 0, .int 0, .int 0, .int 0, .int 0])), (h2, .inr (9, [.ref u9, .ref u10, .int 0, .int 0]))]) [2, 0, 1] (by decide) rfl
  have hK9 := hK.sub (tys' := []) [] rfl
  refine W.widen (k := 0) (n := 0) (by decide) (by decide) ?_
  exact W.iret (v := 1001) hx hb hr (fun t ht hW => ⟨⟨1001, (), rfl, rfl, by rw [ht]; exact hP9, va_K.moved hW.alike hK9, hD9⟩, hS.F ht⟩) hS.2.2 dX4_read_77
