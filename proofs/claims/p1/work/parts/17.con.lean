set_option maxHeartbeats 4000000 in
set_option maxRecDepth 100000 in
theorem kX4_readUnit_0 (l : Launch) (dC : Nat → ClassId) (dI : Nat → Nat → Nat) (h0 u0 u1 u2 u3 : Nat) (sz : Nat) : Met l yX4_readUnit (zw yX4_readUnit cX4_readUnit 7 (some .boolean)) { frames := 2, cells := 0, slots := 0, locals := 43 } (zPc dC dI [.ref h0] sz [(h0, .inr (4, [.ref u0, .ref u1, .ref u2, .ref u3, .int 256, .int 0, .int 1, .int 0, .int (-1), .int 0, .int 0, .int 0]))] []) (va_Qi (fun (r : Int32) (_ : Unit) => r = 0) (fun (_ : Unit) (t : State) => va_P (dC, dI) vwCl [(h0, .inr (4, [.ref u0, .ref u1, .ref u2, .ref u3, .int 265, .int 0, .int 1, .int 1001, .int (-1), .int 0, .int 0, .int 0]))] t.heap ∧ va_K (dC, dI) vwCl [] t ∧ va_D (va_A [(h0, .inr (4, [.ref u0, .ref u1, .ref u2, .ref u3, .int 256, .int 0, .int 1, .int 0, .int (-1), .int 0, .int 0, .int 0]))] sz) [(h0, .inr (4, [.ref u0, .ref u1, .ref u2, .ref u3, .int 265, .int 0, .int 1, .int 1001, .int (-1), .int 0, .int 0, .int 0]))]) (va_A [(h0, .inr (4, [.ref u0, .ref u1, .ref u2, .ref u3, .int 256, .int 0, .int 1, .int 0, .int (-1), .int 0, .int 0, .int 0]))] sz)) 0 0 (va_A [(h0, .inr (4, [.ref u0, .ref u1, .ref u2, .ref u3, .int 256, .int 0, .int 1, .int 0, .int (-1), .int 0, .int 0, .int 0]))] sz) := by
  refine Met.ofW (cc := cX4_readUnit) (maxL := 7) (ret := (some .boolean)) (by decide) rfl ?_
  intro p e s m args below meth c s₁ B hml hv
  obtain ⟨rfl, hsz, hP, hK, hD0, hE, hZ⟩ := hv
  have hx := B.exec
  have hb := B.bytes
  have hr := B.returns
  have hG : ∀ w ∈ zG, w.before _ s = true := fun w h => atoms_spec (ws := (zw yX4_readUnit cX4_readUnit 7 (some .boolean))) B.pre w (List.mem_cons_of_mem _ h)
  have hown : s.vm.findClass RX4 = some m.cls := findClass_of_methodNamed B.named
  have hlocks := B.notSynchronized
  subst hsz
  have hD := hD0.self (sz := s.heap.size)
  generalize hAe : va_A [(h0, .inr (4, [.ref u0, .ref u1, .ref u2, .ref u3, .int 256, .int 0, .int 1, .int 0, .int (-1), .int 0, .int 0, .int 0]))] s.heap.size = A at hD hZ ⊢
  have hA : ∀ q : Nat, s.heap.size ≤ q → A q := fun q h => by rw [← hAe]; exact Or.inr h
  have hS : va_S A s.heap s.heap [] := va_S.rf
  have hl := lv_entry ([.ref h0]) (n := 7) (Nat.le_of_ble_eq_true rfl)
  rw [lg_entry_eq]
  generalize (lg_sl ([.ref h0]) ++ List.replicate (7 - (lg_sl ([.ref h0])).length) Slot.unset).toArray = ls at hl ⊢
  have hl : lv_has ls 7 [(0, .ref h0)] := hl
  refine lv_iconst (v := 3) hx hb dX4_readUnit_0 (by decide) ?_
  refine lv_istore_n (lv' := [(1, .int 3), (0, .ref h0)]) hx hb dX4_readUnit_1 rfl hl (by decide) rfl (fun ls hl => ?_)
  refine lv_iconst (v := (-1)) hx hb dX4_readUnit_2 (by decide) ?_
  refine lv_istore_n (lv' := [(2, .int (-1)), (1, .int 3), (0, .ref h0)]) hx hb dX4_readUnit_3 rfl hl (by decide) rfl (fun ls hl => ?_)
  refine lv_iconst (v := 0) hx hb dX4_readUnit_4 (by decide) ?_
  refine lv_istore_n (lv' := [(3, .int 0), (2, .int (-1)), (1, .int 3), (0, .ref h0)]) hx hb dX4_readUnit_5 rfl hl (by decide) rfl (fun ls hl => ?_)
  refine lv_iconst (v := 0) hx hb dX4_readUnit_6 (by decide) ?_
  refine lv_istore (lv' := [(4, .int 0), (3, .int 0), (2, .int (-1)), (1, .int 3), (0, .ref h0)]) hx hb dX4_readUnit_7 hl (by decide) rfl (fun ls hl => ?_)
  refine lv_iconst (v := 0) hx hb dX4_readUnit_9 (by decide) ?_
  refine lv_istore (lv' := [(5, .int 0), (4, .int 0), (3, .int 0), (2, .int (-1)), (1, .int 3), (0, .ref h0)]) hx hb dX4_readUnit_10 hl (by decide) rfl (fun ls hl => ?_)
  refine lv_iload hx hb dX4_readUnit_12 (lv_at hl 0 rfl) ?_
  refine lv_bipush (v := 12) hx hb dX4_readUnit_14 (by decide) ?_
  refine lv_icmp_gt (tgt := 111) hx hb dX4_readUnit_16 (by decide) (fun c_5578 => absurd c_5578 (by decide)) (fun c_5578 => ?_)
  refine lv_aload_n hx hb dX4_readUnit_19 rfl (lv_at hl 5 rfl) ?_
  refine va_get (D := (dC, dI)) (ci := 4) (v := .int 256) (C := RX4) (T := TX4) (N := 12) hx hb hG zuX4 hown hK hP 0 rfl rfl 4 (by decide) (hG _ zw129) (fun _ h9 => h9) rfl dX4_readUnit_20 ?_
  refine lv_sipush (v := 262) hx hb dX4_readUnit_23 (by decide) ?_
  refine lv_icmp_eq (tgt := 39) hx hb dX4_readUnit_26 (by decide) (fun c_5579 => absurd c_5579 (by decide)) (fun c_5579 => ?_)
  refine lv_aload_n hx hb dX4_readUnit_29 rfl (lv_at hl 5 rfl) ?_
  refine va_get (D := (dC, dI)) (ci := 4) (v := .int 256) (C := RX4) (T := TX4) (N := 12) hx hb hG zuX4 hown hK hP 0 rfl rfl 4 (by decide) (hG _ zw129) (fun _ h9 => h9) rfl dX4_readUnit_30 ?_
  refine lv_sipush (v := 263) hx hb dX4_readUnit_33 (by decide) ?_
  refine lv_icmp_ne (tgt := 111) hx hb dX4_readUnit_36 (by decide) (fun c_5580 => ?_) (fun c_5580 => absurd c_5580 (by decide))
  refine lv_aload_n hx hb dX4_readUnit_111 rfl (lv_at hl 5 rfl) ?_
  refine lv_iload_n hx hb dX4_readUnit_112 rfl (lv_at hl 4 rfl) ?_
  have hPc := hP.sub (ws' := [(h0, .inr (4, [.ref u0, .ref u1, .ref u2, .ref u3, .int 256, .int 0, .int 1, .int 0, .int (-1), .int 0, .int 0, .int 0]))]) [0] rfl
  have hDc := hD.sub (ws' := [(h0, .inr (4, [.ref u0, .ref u1, .ref u2, .ref u3, .int 256, .int 0, .int 1, .int 0, .int (-1), .int 0, .int 0, .int 0]))]) [0] (by decide) rfl
  have hKc := hK.sub (tys' := []) [] rfl
  have hFc := va_free (wc := [(h0, .inr (4, [.ref u0, .ref u1, .ref u2, .ref u3, .int 256, .int 0, .int 1, .int 0, .int (-1), .int 0, .int 0, .int 0]))]) hD hS hA [0] rfl
  refine va_calli (va_runV (As := [.int 3]) (rest := []) ⟨hx, hb, hml, hown, hG⟩ (kX4_readBare_0 l dC dI h0 u0 u1 u2 u3 s.heap.size) (cwV 1 hG (zgV zw633 zw634 zw635 zw127 zw636) rfl rfl rfl (by decide +kernel) ⟨Nat.le_of_ble_eq_true rfl, Nat.le_of_ble_eq_true rfl⟩) ⟨zPc_blind, va_recv hKc hPc (ci := 4) (q0 := 0) rfl rfl, zPc_pre hPc hKc hDc hE hS hFc hZ⟩ rfl rfl hl.1 rfl (lv_room (Nat.le_of_ble_eq_true rfl)) dX4_readUnit_113 ⟨Nat.le_of_ble_eq_true rfl, Nat.le_of_ble_eq_true rfl⟩) hS (fun q _ h => hFc q h) hFc (fun r_5587 u t H1 locs ht hvm hw hB hz1 hk1 hS => ?_)
  have hw : r_5587 = 0 := hw
  subst hw
  obtain ⟨hP1, hK1, hD1⟩ := hB
  rw [ht] at hP1
  obtain ⟨hP, hD⟩ := va_join (wr := []) (w1 := [(h0, .inr (4, [.ref u0, .ref u1, .ref u2, .ref u3, .int 265, .int 0, .int 1, .int 1001, .int (-1), .int 0, .int 0, .int 0]))]) hP hD [0] [] rfl rfl (by decide) (by decide) hk1 hFc hP1 hD1
  generalize H1 = H at hP hS ⊢
  have hP : va_P (dC, dI) vwCl [(h0, .inr (4, [.ref u0, .ref u1, .ref u2, .ref u3, .int 265, .int 0, .int 1, .int 1001, .int (-1), .int 0, .int 0, .int 0]))] H := hP
  have hD : va_D A [(h0, .inr (4, [.ref u0, .ref u1, .ref u2, .ref u3, .int 265, .int 0, .int 1, .int 1001, .int (-1), .int 0, .int 0, .int 0]))] := hD
  refine lv_istore (lv' := [(5, .int 0), (4, .int 0), (3, .int 0), (2, .int (-1)), (1, .int 3), (0, .ref h0)]) hx hb dX4_readUnit_116 hl (by decide) rfl (fun ls hl => ?_)
  refine lv_iload hx hb dX4_readUnit_118 (lv_at hl 1 rfl) ?_
  refine lv_if_le (tgt := 134) hx hb dX4_readUnit_120 (by decide) (fun c_5589 => ?_) (fun c_5589 => absurd c_5589 (by decide))
  refine lv_iconst (v := 0) hx hb dX4_readUnit_134 (by decide) ?_
  refine lv_istore (lv' := [(6, .int 0), (5, .int 0), (4, .int 0), (3, .int 0), (2, .int (-1)), (1, .int 3), (0, .ref h0)]) hx hb dX4_readUnit_135 hl (by decide) rfl (fun ls hl => ?_)
  refine lv_iload hx hb dX4_readUnit_137 (lv_at hl 0 rfl) ?_
  refine lv_iload hx hb dX4_readUnit_139 (lv_at hl 2 rfl) ?_
  refine lv_icmp_ge (tgt := 174) hx hb dX4_readUnit_141 (by decide) (fun c_5590 => ?_) (fun c_5590 => absurd c_5590 (by decide))
  refine lv_iload hx hb dX4_readUnit_174 (lv_at hl 1 rfl) ?_
  have hP9 := hP.sub (ws' := [(h0, .inr (4, [.ref u0, .ref u1, .ref u2, .ref u3, .int 265, .int 0, .int 1, .int 1001, .int (-1), .int 0, .int 0, .int 0]))]) [0] rfl
  have hD9 := hD.sub (ws' := [(h0, .inr (4, [.ref u0, .ref u1, .ref u2, .ref u3, .int 265, .int 0, .int 1, .int 1001, .int (-1), .int 0, .int 0, .int 0]))]) [0] (by decide) rfl
  have hK9 := hK.sub (tys' := []) [] rfl
  refine W.widen (k := 0) (n := 0) (by decide) (by decide) ?_
  exact W.zret (v := 0) hx hb hr rfl (fun t ht hW => ⟨⟨0, (), rfl, rfl, by rw [ht]; exact hP9, va_K.moved hW.alike hK9, hD9⟩, hS.F ht⟩) hS.2.2 dX4_readUnit_176
