set_option maxHeartbeats 4000000 in
set_option maxRecDepth 100000 in
theorem kX4_readNear_0 (l : Launch) (dC : Nat → ClassId) (dI : Nat → Nat → Nat) (h0 u0 u1 u2 u3 : Nat) (sz : Nat) : Met l yX4_readNear (zw yX4_readNear cX4_readNear 4 none) { frames := 3, cells := 0, slots := 0, locals := 69 } (zPc dC dI [.ref h0] sz [(h0, .inr (4, [.ref u0, .ref u1, .ref u2, .ref u3, .int 256, .int 0, .int 1, .int 0, .int (-1), .int 0, .int 0, .int 0]))] []) (va_Qv (fun _ : Unit => True) (fun (_ : Unit) (t : State) => va_P (dC, dI) vwCl [(h0, .inr (4, [.ref u0, .ref u1, .ref u2, .ref u3, .int 265, .int 0, .int 1, .int 1001, .int (-1), .int 0, .int 0, .int 0]))] t.heap ∧ va_K (dC, dI) vwCl [] t ∧ va_D (va_A [(h0, .inr (4, [.ref u0, .ref u1, .ref u2, .ref u3, .int 256, .int 0, .int 1, .int 0, .int (-1), .int 0, .int 0, .int 0]))] sz) [(h0, .inr (4, [.ref u0, .ref u1, .ref u2, .ref u3, .int 265, .int 0, .int 1, .int 1001, .int (-1), .int 0, .int 0, .int 0]))]) (va_A [(h0, .inr (4, [.ref u0, .ref u1, .ref u2, .ref u3, .int 256, .int 0, .int 1, .int 0, .int (-1), .int 0, .int 0, .int 0]))] sz)) 0 0 (va_A [(h0, .inr (4, [.ref u0, .ref u1, .ref u2, .ref u3, .int 256, .int 0, .int 1, .int 0, .int (-1), .int 0, .int 0, .int 0]))] sz) := by
  refine Met.ofW (cc := cX4_readNear) (maxL := 4) (ret := none) (by decide) rfl ?_
  intro p e s m args below meth c s₁ B hml hv
  obtain ⟨rfl, hsz, hP, hK, hD0, hE, hZ⟩ := hv
  have hx := B.exec
  have hb := B.bytes
  have hr := B.returns
  have hG : ∀ w ∈ zG, w.before _ s = true := fun w h => atoms_spec (ws := (zw yX4_readNear cX4_readNear 4 none)) B.pre w (List.mem_cons_of_mem _ h)
  have hown : s.vm.findClass RX4 = some m.cls := findClass_of_methodNamed B.named
  have hlocks := B.notSynchronized
  subst hsz
  have hD := hD0.self (sz := s.heap.size)
  generalize hAe : va_A [(h0, .inr (4, [.ref u0, .ref u1, .ref u2, .ref u3, .int 256, .int 0, .int 1, .int 0, .int (-1), .int 0, .int 0, .int 0]))] s.heap.size = A at hD hZ ⊢
  have hA : ∀ q : Nat, s.heap.size ≤ q → A q := fun q h => by rw [← hAe]; exact Or.inr h
  have hS : va_S A s.heap s.heap [] := va_S.rf
  have hl := lv_entry ([.ref h0]) (n := 4) (Nat.le_of_ble_eq_true rfl)
  rw [lg_entry_eq]
  generalize (lg_sl ([.ref h0]) ++ List.replicate (4 - (lg_sl ([.ref h0])).length) Slot.unset).toArray = ls at hl ⊢
  have hl : lv_has ls 4 [(0, .ref h0)] := hl
  refine lv_aload_n hx hb dX4_readNear_0 rfl (lv_at hl 0 rfl) ?_
  have hPc := hP.sub (ws' := [(h0, .inr (4, [.ref u0, .ref u1, .ref u2, .ref u3, .int 256, .int 0, .int 1, .int 0, .int (-1), .int 0, .int 0, .int 0]))]) [0] rfl
  have hDc := hD.sub (ws' := [(h0, .inr (4, [.ref u0, .ref u1, .ref u2, .ref u3, .int 256, .int 0, .int 1, .int 0, .int (-1), .int 0, .int 0, .int 0]))]) [0] (by decide) rfl
  have hKc := hK.sub (tys' := []) [] rfl
  have hFc := va_free (wc := [(h0, .inr (4, [.ref u0, .ref u1, .ref u2, .ref u3, .int 256, .int 0, .int 1, .int 0, .int (-1), .int 0, .int 0, .int 0]))]) hD hS hA [0] rfl
  refine va_calli (va_runV (As := []) (rest := []) ⟨hx, hb, hml, hown, hG⟩ (kX4_readUnit_0 l dC dI h0 u0 u1 u2 u3 s.heap.size) (cwV 0 hG (zgV zw637 zw638 zw639 zw127 zw640) rfl rfl rfl (by decide +kernel) ⟨Nat.le_of_ble_eq_true rfl, Nat.le_of_ble_eq_true rfl⟩) ⟨zPc_blind, va_recv hKc hPc (ci := 4) (q0 := 0) rfl rfl, zPc_pre hPc hKc hDc hE hS hFc hZ⟩ rfl rfl hl.1 rfl (lv_room (Nat.le_of_ble_eq_true rfl)) dX4_readNear_1 ⟨Nat.le_of_ble_eq_true rfl, Nat.le_of_ble_eq_true rfl⟩) hS (fun q _ h => hFc q h) hFc (fun r_5623 u t H1 locs ht hvm hw hB hz1 hk1 hS => ?_)
  have hw : r_5623 = 0 := hw
  subst hw
  obtain ⟨hP1, hK1, hD1⟩ := hB
  rw [ht] at hP1
  obtain ⟨hP, hD⟩ := va_join (wr := []) (w1 := [(h0, .inr (4, [.ref u0, .ref u1, .ref u2, .ref u3, .int 265, .int 0, .int 1, .int 1001, .int (-1), .int 0, .int 0, .int 0]))]) hP hD [0] [] rfl rfl (by decide) (by decide) hk1 hFc hP1 hD1
  generalize H1 = H at hP hS ⊢
  have hP : va_P (dC, dI) vwCl [(h0, .inr (4, [.ref u0, .ref u1, .ref u2, .ref u3, .int 265, .int 0, .int 1, .int 1001, .int (-1), .int 0, .int 0, .int 0]))] H := hP
  have hD : va_D A [(h0, .inr (4, [.ref u0, .ref u1, .ref u2, .ref u3, .int 265, .int 0, .int 1, .int 1001, .int (-1), .int 0, .int 0, .int 0]))] := hD
  refine lv_istore_n (lv' := [(1, .int 0), (0, .ref h0)]) hx hb dX4_readNear_4 rfl hl (by decide) rfl (fun ls hl => ?_)
  refine lv_aload_n hx hb dX4_readNear_5 rfl (lv_at hl 1 rfl) ?_
  refine va_get (D := (dC, dI)) (ci := 4) (v := .int 265) (C := RX4) (T := TX4) (N := 12) hx hb hG zuX4 hown hK hP 0 rfl rfl 4 (by decide) (hG _ zw129) (fun _ h9 => h9) rfl dX4_readNear_6 ?_
  refine lv_sipush (v := 261) hx hb dX4_readNear_9 (by decide) ?_
  refine lv_icmp_eq (tgt := 16) hx hb dX4_readNear_12 (by decide) (fun c_5625 => absurd c_5625 (by decide)) (fun c_5625 => ?_)
  have hP9 := hP.sub (ws' := [(h0, .inr (4, [.ref u0, .ref u1, .ref u2, .ref u3, .int 265, .int 0, .int 1, .int 1001, .int (-1), .int 0, .int 0, .int 0]))]) [0] rfl
  have hD9 := hD.sub (ws' := [(h0, .inr (4, [.ref u0, .ref u1, .ref u2, .ref u3, .int 265, .int 0, .int 1, .int 1001, .int (-1), .int 0, .int 0, .int 0]))]) [0] (by decide) rfl
  have hK9 := hK.sub (tys' := []) [] rfl
  refine W.widen (k := 0) (n := 0) (by decide) (by decide) ?_
  exact W.vret hx hb hr (fun t ht hW => ⟨⟨(), rfl, trivial, by rw [ht]; exact hP9, va_K.moved hW.alike hK9, hD9⟩, hS.F ht⟩) hS.2.2 dX4_readNear_15
set_option maxHeartbeats 4000000 in
set_option maxRecDepth 100000 in
theorem kX4_readNots_0 (l : Launch) (dC : Nat → ClassId) (dI : Nat → Nat → Nat) (h0 u0 u1 u2 u3 : Nat) (sz : Nat) : Met l yX4_readNots (zw yX4_readNots cX4_readNots 3 (some .boolean)) { frames := 4, cells := 0, slots := 0, locals := 92 } (zPc dC dI [.ref h0] sz [(h0, .inr (4, [.ref u0, .ref u1, .ref u2, .ref u3, .int 256, .int 0, .int 1, .int 0, .int (-1), .int 0, .int 0, .int 0]))] []) (va_Qi (fun (r : Int32) (_ : Unit) => r = 0) (fun (_ : Unit) (t : State) => va_P (dC, dI) vwCl [(h0, .inr (4, [.ref u0, .ref u1, .ref u2, .ref u3, .int 265, .int 0, .int 1, .int 1001, .int (-1), .int 0, .int 0, .int 0]))] t.heap ∧ va_K (dC, dI) vwCl [] t ∧ va_D (va_A [(h0, .inr (4, [.ref u0, .ref u1, .ref u2, .ref u3, .int 256, .int 0, .int 1, .int 0, .int (-1), .int 0, .int 0, .int 0]))] sz) [(h0, .inr (4, [.ref u0, .ref u1, .ref u2, .ref u3, .int 265, .int 0, .int 1, .int 1001, .int (-1), .int 0, .int 0, .int 0]))]) (va_A [(h0, .inr (4, [.ref u0, .ref u1, .ref u2, .ref u3, .int 256, .int 0, .int 1, .int 0, .int (-1), .int 0, .int 0, .int 0]))] sz)) 0 0 (va_A [(h0, .inr (4, [.ref u0, .ref u1, .ref u2, .ref u3, .int 256, .int 0, .int 1, .int 0, .int (-1), .int 0, .int 0, .int 0]))] sz) := by
  refine Met.ofW (cc := cX4_readNots) (maxL := 3) (ret := (some .boolean)) (by decide) rfl ?_
  intro p e s m args below meth c s₁ B hml hv
  obtain ⟨rfl, hsz, hP, hK, hD0, hE, hZ⟩ := hv
  have hx := B.exec
  have hb := B.bytes
  have hr := B.returns
  have hG : ∀ w ∈ zG, w.before _ s = true := fun w h => atoms_spec (ws := (zw yX4_readNots cX4_readNots 3 (some .boolean))) B.pre w (List.mem_cons_of_mem _ h)
  have hown : s.vm.findClass RX4 = some m.cls := findClass_of_methodNamed B.named
  have hlocks := B.notSynchronized
  subst hsz
  have hD := hD0.self (sz := s.heap.size)
  generalize hAe : va_A [(h0, .inr (4, [.ref u0, .ref u1, .ref u2, .ref u3, .int 256, .int 0, .int 1, .int 0, .int (-1), .int 0, .int 0, .int 0]))] s.heap.size = A at hD hZ ⊢
  have hA : ∀ q : Nat, s.heap.size ≤ q → A q := fun q h => by rw [← hAe]; exact Or.inr h
  have hS : va_S A s.heap s.heap [] := va_S.rf
  have hl := lv_entry ([.ref h0]) (n := 3) (Nat.le_of_ble_eq_true rfl)
  rw [lg_entry_eq]
  generalize (lg_sl ([.ref h0]) ++ List.replicate (3 - (lg_sl ([.ref h0])).length) Slot.unset).toArray = ls at hl ⊢
  have hl : lv_has ls 3 [(0, .ref h0)] := hl
  refine lv_iconst (v := 0) hx hb dX4_readNots_0 (by decide) ?_
  refine lv_istore_n (lv' := [(1, .int 0), (0, .ref h0)]) hx hb dX4_readNots_1 rfl hl (by decide) rfl (fun ls hl => ?_)
  refine lv_iconst (v := 0) hx hb dX4_readNots_2 (by decide) ?_
  refine lv_istore_n (lv' := [(2, .int 0), (1, .int 0), (0, .ref h0)]) hx hb dX4_readNots_3 rfl hl (by decide) rfl (fun ls hl => ?_)
  refine lv_iload_n hx hb dX4_readNots_4 rfl (lv_at hl 0 rfl) ?_
  refine lv_bipush (v := 40) hx hb dX4_readNots_5 (by decide) ?_
  refine lv_icmp_gt (tgt := 55) hx hb dX4_readNots_7 (by decide) (fun c_5654 => absurd c_5654 (by decide)) (fun c_5654 => ?_)
  refine lv_aload_n hx hb dX4_readNots_10 rfl (lv_at hl 2 rfl) ?_
  refine va_get (D := (dC, dI)) (ci := 4) (v := .int 256) (C := RX4) (T := TX4) (N := 12) hx hb hG zuX4 hown hK hP 0 rfl rfl 4 (by decide) (hG _ zw129) (fun _ h9 => h9) rfl dX4_readNots_11 ?_
  refine lv_sipush (v := 260) hx hb dX4_readNots_14 (by decide) ?_
  refine lv_icmp_ne (tgt := 55) hx hb dX4_readNots_17 (by decide) (fun c_5655 => ?_) (fun c_5655 => absurd c_5655 (by decide))
  refine lv_aload_n hx hb dX4_readNots_55 rfl (lv_at hl 2 rfl) ?_
  refine lv_dup hx hb dX4_readNots_56 rfl ?_
  refine va_get (D := (dC, dI)) (ci := 4) (v := .int 0) (C := RX4) (T := TX4) (N := 12) hx hb hG zuX4 hown hK hP 0 rfl rfl 10 (by decide) (hG _ zw135) (fun _ h9 => h9) rfl dX4_readNots_57 ?_
  refine lv_iload_n hx hb dX4_readNots_60 rfl (lv_at hl 1 rfl) ?_
  refine lv_if_eq (tgt := 68) hx hb dX4_readNots_61 (by decide) (fun c_5656 => ?_) (fun c_5656 => absurd c_5656 (by decide))
  refine lv_iconst (v := 0) hx hb dX4_readNots_68 (by decide) ?_
  refine lv_iadd hx hb dX4_readNots_69 ?_
  refine lv_topi (fun z_5657 e_z_5657 => ?_)
  obtain rfl : z_5657 = (0 : Int32) := e_z_5657.trans (by decide)
  refine va_put (D := (dC, dI)) (ci := 4) (v := .int 0) (ty := .int) (C := RX4) (T := TX4) (N := 12) hx hb hG zuX4 tyX4 tyX4_ok nmX4 hown hK hP hD hS 0 rfl rfl 10 (by decide) (hG _ zw135) (fun _ h9 => h9) rfl (by decide +kernel) rfl rfl (Nat.le_of_ble_eq_true rfl) dX4_readNots_70 (fun H locs hP hD hS => ?_)
  have hP : va_P (dC, dI) vwCl [(h0, .inr (4, [.ref u0, .ref u1, .ref u2, .ref u3, .int 256, .int 0, .int 1, .int 0, .int (-1), .int 0, .int 0, .int 0]))] H := hP
  have hD : va_D A [(h0, .inr (4, [.ref u0, .ref u1, .ref u2, .ref u3, .int 256, .int 0, .int 1, .int 0, .int (-1), .int 0, .int 0, .int 0]))] := hD
  refine lv_aload_n hx hb dX4_readNots_73 rfl (lv_at hl 2 rfl) ?_
  have hPc := hP.sub (ws' := [(h0, .inr (4, [.ref u0, .ref u1, .ref u2, .ref u3, .int 256, .int 0, .int 1, .int 0, .int (-1), .int 0, .int 0, .int 0]))]) [0] rfl
  have hDc := hD.sub (ws' := [(h0, .inr (4, [.ref u0, .ref u1, .ref u2, .ref u3, .int 256, .int 0, .int 1, .int 0, .int (-1), .int 0, .int 0, .int 0]))]) [0] (by decide) rfl
  have hKc := hK.sub (tys' := []) [] rfl
  have hFc := va_free (wc := [(h0, .inr (4, [.ref u0, .ref u1, .ref u2, .ref u3, .int 256, .int 0, .int 1, .int 0, .int (-1), .int 0, .int 0, .int 0]))]) hD hS hA [0] rfl
  refine va_callv (va_runV (As := []) (rest := []) ⟨hx, hb, hml, hown, hG⟩ (kX4_readNear_0 l dC dI h0 u0 u1 u2 u3 H.size) (cwV 0 hG (zgV zw641 zw642 zw643 zw127 zw644) rfl rfl rfl (by decide +kernel) ⟨Nat.le_of_ble_eq_true rfl, Nat.le_of_ble_eq_true rfl⟩) ⟨zPc_blind, va_recv hKc hPc (ci := 4) (q0 := 0) rfl rfl, zPc_pre hPc hKc hDc hE hS hFc hZ⟩ rfl rfl hl.1 rfl (lv_room (Nat.le_of_ble_eq_true rfl)) dX4_readNots_74 ⟨Nat.le_of_ble_eq_true rfl, Nat.le_of_ble_eq_true rfl⟩) hS (fun q _ h => hFc q h) hFc (fun u t H1 locs ht hvm hw hB hz1 hk1 hS => ?_)
  obtain ⟨hP1, hK1, hD1⟩ := hB
  rw [ht] at hP1
  obtain ⟨hP, hD⟩ := va_join (wr := []) (w1 := [(h0, .inr (4, [.ref u0, .ref u1, .ref u2, .ref u3, .int 265, .int 0, .int 1, .int 1001, .int (-1), .int 0, .int 0, .int 0]))]) hP hD [0] [] rfl rfl (by decide) (by decide) hk1 hFc hP1 hD1
  generalize H1 = H at hP hS ⊢
  have hP : va_P (dC, dI) vwCl [(h0, .inr (4, [.ref u0, .ref u1, .ref u2, .ref u3, .int 265, .int 0, .int 1, .int 1001, .int (-1), .int 0, .int 0, .int 0]))] H := hP
  have hD : va_D A [(h0, .inr (4, [.ref u0, .ref u1, .ref u2, .ref u3, .int 265, .int 0, .int 1, .int 1001, .int (-1), .int 0, .int 0, .int 0]))] := hD
  refine lv_aload_n hx hb dX4_readNots_77 rfl (lv_at hl 2 rfl) ?_
  refine lv_dup hx hb dX4_readNots_78 rfl ?_
  refine va_get (D := (dC, dI)) (ci := 4) (v := .int 0) (C := RX4) (T := TX4) (N := 12) hx hb hG zuX4 hown hK hP 0 rfl rfl 10 (by decide) (hG _ zw135) (fun _ h9 => h9) rfl dX4_readNots_79 ?_
  refine lv_iload_n hx hb dX4_readNots_82 rfl (lv_at hl 1 rfl) ?_
  refine lv_if_eq (tgt := 90) hx hb dX4_readNots_83 (by decide) (fun c_5676 => ?_) (fun c_5676 => absurd c_5676 (by decide))
  refine lv_iconst (v := 0) hx hb dX4_readNots_90 (by decide) ?_
  refine lv_isub hx hb dX4_readNots_91 ?_
  refine lv_topi (fun z_5677 e_z_5677 => ?_)
  obtain rfl : z_5677 = (0 : Int32) := e_z_5677.trans (by decide)
  refine va_put (D := (dC, dI)) (ci := 4) (v := .int 0) (ty := .int) (C := RX4) (T := TX4) (N := 12) hx hb hG zuX4 tyX4 tyX4_ok nmX4 hown hK hP hD hS 0 rfl rfl 10 (by decide) (hG _ zw135) (fun _ h9 => h9) rfl (by decide +kernel) rfl rfl (Nat.le_of_ble_eq_true rfl) dX4_readNots_92 (fun H locs hP hD hS => ?_)
  have hP : va_P (dC, dI) vwCl [(h0, .inr (4, [.ref u0, .ref u1, .ref u2, .ref u3, .int 265, .int 0, .int 1, .int 1001, .int (-1), .int 0, .int 0, .int 0]))] H := hP
  have hD : va_D A [(h0, .inr (4, [.ref u0, .ref u1, .ref u2, .ref u3, .int 265, .int 0, .int 1, .int 1001, .int (-1), .int 0, .int 0, .int 0]))] := hD
  refine lv_iload_n hx hb dX4_readNots_95 rfl (lv_at hl 1 rfl) ?_
  have hP9 := hP.sub (ws' := [(h0, .inr (4, [.ref u0, .ref u1, .ref u2, .ref u3, .int 265, .int 0, .int 1, .int 1001, .int (-1), .int 0, .int 0, .int 0]))]) [0] rfl
  have hD9 := hD.sub (ws' := [(h0, .inr (4, [.ref u0, .ref u1, .ref u2, .ref u3, .int 265, .int 0, .int 1, .int 1001, .int (-1), .int 0, .int 0, .int 0]))]) [0] (by decide) rfl
  have hK9 := hK.sub (tys' := []) [] rfl
  refine W.widen (k := 0) (n := 0) (by decide) (by decide) ?_
  exact W.zret (v := 0) hx hb hr rfl (fun t ht hW => ⟨⟨0, (), rfl, rfl, by rw [ht]; exact hP9, va_K.moved hW.alike hK9, hD9⟩, hS.F ht⟩) hS.2.2 dX4_readNots_96
