set_option maxHeartbeats 8000000 in
set_option maxRecDepth 100000 in
theorem sX13_lay_0 (l : Launch) (dC : Nat → ClassId) (dI : Nat → Nat → Nat) (adK adV : Nat → Nat) (h0 : Nat) (q0 : Nat → Nat) (k1 : ClassId) (sz : Nat) (v0 : Nat → Int32) (f1 : Nat → Int32) (x1 : Int32) (hv0 : zR rg_Model v0) (hp0_ : (v0 1).toInt ≤ 596) : Met l yX13_lay (zw yX13_lay cX13_lay 3 none) { frames := 0, cells := 0, slots := 0, locals := 0 } (zPc dC dI adK adV [.ref h0, .int x1] sz [(h0, .inr (13, mX13 q0 v0)), ((q0 0), zi k1 600 f1)] [(k1, .byte)]) (va_Qv (fun (u : Nat → Int32) => (0 ≤ (u 0).toInt ∧ (u 0).toInt ≤ 600) ∧ ((u 0).toInt = (v0 1).toInt + 4)) (fun (u : Nat → Int32) (t : State) => ∃ (ww : Nat → Int64) (aa : Nat → Nat → Int32) (bb : Nat → Nat → Int64), (zPut f1 (aa 0) (v0 1).toInt (x1 : Int32) (u 0).toInt) ∧ va_P (dC, dI) vwCl [(h0, .inr (13, mX13 q0 (upd v0 1 (u 0)))), ((q0 0), zi k1 600 (aa 0))] t.heap ∧ va_K (dC, dI) vwCl [(k1, .byte)] t ∧ va_D (va_A [(h0, .inr (13, mX13 q0 v0)), ((q0 0), zi k1 600 f1)] sz) [(h0, .inr (13, mX13 q0 (upd v0 1 (u 0)))), ((q0 0), zi k1 600 (aa 0))]) (va_A [(h0, .inr (13, mX13 q0 v0)), ((q0 0), zi k1 600 f1)] sz)) 0 0 (va_A [(h0, .inr (13, mX13 q0 v0)), ((q0 0), zi k1 600 f1)] sz) := by
  refine Met.ofW (cc := cX13_lay) (maxL := 3) (ret := none) (by decide) rfl ?_
  intro p e s m args below meth c s₁ B hml hv
  obtain ⟨rfl, hsz, hP, hK, hD0, hE, hZ⟩ := hv
  have hx := B.exec
  have hb := B.bytes
  have hr := B.returns
  have hG : ∀ w ∈ zG, w.before _ s = true := fun w h => atoms_spec (ws := (zw yX13_lay cX13_lay 3 none)) B.pre w (List.mem_cons_of_mem _ h)
  have hown : s.vm.findClass RX13 = some m.cls := findClass_of_methodNamed B.named
  have hlocks := B.notSynchronized

  subst hsz
  have hD := hD0.self (sz := s.heap.size)
  generalize hAe : va_A [(h0, .inr (13, mX13 q0 v0)), ((q0 0), zi k1 600 f1)] s.heap.size = A at hD hZ ⊢
  have hA : ∀ q : Nat, s.heap.size ≤ q → A q := fun q h => by rw [← hAe]; exact Or.inr h
  have hS : va_S A s.heap s.heap [] := va_S.rf
  have hl := lv_entry ([.ref h0, .int x1]) (n := 3) (Nat.le_of_ble_eq_true rfl)
  rw [lg_entry_eq]
  generalize (lg_sl ([.ref h0, .int x1]) ++ List.replicate (3 - (lg_sl ([.ref h0, .int x1])).length) Slot.unset).toArray = ls at hl ⊢
  have hl : lv_has ls 3 [(0, .ref h0), (1, .int x1)] := hl
  have b_ := zk_24
  have b_ : 0 ≤ (v0 1).toInt ∧ (v0 1).toInt ≤ 600 := hv0 1
  refine lv_bipush (v := 24) hx hb dX13_lay_0 (by decide) ?_
  refine lv_istore_n (lv' := [(2, .int 24), (0, .ref h0), (1, .int x1)]) hx hb dX13_lay_2 rfl hl (by decide) rfl (fun ls hl => ?_)
  refine zcutL (fun u3_ => (600 - (u3_ 1).toInt).toNat) (fun H locs ls u3_ w3_ a3_ b3_ => va_P (dC, dI) vwCl [(h0, .inr (13, mX13 q0 (upd v0 1 (u3_ 1)))), ((q0 0), zi k1 600 (a3_ 0))] H ∧ va_D A [(h0, .inr (13, mX13 q0 (upd v0 1 (u3_ 1)))), ((q0 0), zi k1 600 (a3_ 0))] ∧ va_S A s.heap H locs ∧ lv_has ls 3 [(0, .ref h0), (1, .int x1), (2, .int (u3_ 0))] ∧ ((-8) ≤ (u3_ 0).toInt ∧ (u3_ 0).toInt ≤ 24) ∧ (0 ≤ (u3_ 1).toInt ∧ (u3_ 1).toInt ≤ 600) ∧ (8 * ((u3_ 1).toInt - (v0 1).toInt) = 24 - (u3_ 0).toInt) ∧ (zPut f1 (a3_ 0) (v0 1).toInt (x1 : Int32) (u3_ 1).toInt)) (fun ls u3_ w3_ => F0 m 3 ls []) 0 0 ?_ (fun hJ3 => ?_)
  · skip
    intro H locs ls u3_ w3_ a3_ b3_ hc hJ3
    obtain ⟨hP, hD, hS, hl, b_, b_, b_, hI3_1⟩ := hc
    refine lv_iload_n hx hb dX13_lay_3 rfl (lv_at hl 2 rfl) ?_
    refine lv_if_lt (tgt := 36) hx hb dX13_lay_4 (by decide) (fun c_ => ?_) (fun c_ => ?_)
    · skip
      have b_ := zT_lt rfl zk_0 c_
      refine W.widen (k := 0) (n := 0) (by decide) (by decide) ?_
      have hpost : (0 ≤ (u3_ 1).toInt ∧ (u3_ 1).toInt ≤ 600) ∧ ((u3_ 1).toInt = (v0 1).toInt + 4) := ⟨(by first | with_reducible assumption | exact ⟨by omega, by omega⟩), by omega⟩
      have hP9 : va_P (dC, dI) vwCl [(h0, .inr (13, mX13 q0 (upd v0 1 (u3_ 1)))), ((q0 0), zi k1 600 (a3_ 0))] H := hP
      have hD9 : va_D A [(h0, .inr (13, mX13 q0 (upd v0 1 (u3_ 1)))), ((q0 0), zi k1 600 (a3_ 0))] := hD
      have hB0 : zPut f1 (a3_ 0) (v0 1).toInt (x1 : Int32) (u3_ 1).toInt := by exact hI3_1
      exact W.vret hx hb hr (fun t ht hW => ⟨⟨(fun i => ([(u3_ 1)] : List (Int32)).getD i 0), rfl, hpost, (fun _ => 0), (fun i => ([(a3_ 0)] : List (Nat → Int32)).getD i (fun _ => 0)), (fun _ => (fun _ => 0)), hB0, by rw [ht]; exact hP9, va_K.moved hW.alike hK, hD9⟩, hS.F ht⟩) hS.2.2 dX13_lay_36
    · skip
      have b_ := zF_lt rfl zk_0 c_
      refine lv_aload_n hx hb dX13_lay_7 rfl (lv_at hl 0 rfl) ?_
      refine va_get (D := (dC, dI)) (ci := 13) (v := .ref (q0 0)) (C := RX13) (T := TX13) (N := 75) hx hb hG zuX13 hown hK hP 0 rfl rfl 0 (by decide) (hG _ zv1604) (fun _ h9 => h9) rfl dX13_lay_8 ?_
      refine lv_aload_n hx hb dX13_lay_11 rfl (lv_at hl 0 rfl) ?_
      refine va_get (D := (dC, dI)) (ci := 13) (v := .int (u3_ 1)) (C := RX13) (T := TX13) (N := 75) hx hb hG zuX13 hown hK hP 0 rfl rfl 1 (by decide) (hG _ zv1605) (fun _ h9 => h9) rfl dX13_lay_12 ?_
      refine lv_iload_n hx hb dX13_lay_15 rfl (lv_at hl 1 rfl) ?_
      refine lv_iload_n hx hb dX13_lay_16 rfl (lv_at hl 2 rfl) ?_
      have b_ : -2147483648 ≤ x1.toInt ∧ x1.toInt ≤ 2147483647 := ⟨zlo _, zhi _⟩
      refine lv_ishr hx hb dX13_lay_17 ?_
      refine lv_topi (fun z17 e_z17 => ?_)
      have b_ : -2147483648 ≤ z17.toInt ∧ z17.toInt ≤ 2147483647 := ⟨zlo _, zhi _⟩
      refine lv_i2b hx hb dX13_lay_18 rfl ?_
      refine lv_topi (fun z18 e_z18 => ?_)
      have b_ := zi2bB (x := z17) e_z18
      refine va_bast hx hb hK hP hD hS 1 0 rfl rfl (zin_lit ⟨by omega, by omega⟩) dX13_lay_19 (fun H locs hP hD hS => ?_)
      obtain ⟨f_19, e_f_19⟩ : ∃ z : Nat → Int32, z = upd (a3_ 0) ((u3_ 1) : Int32).toNatClampNeg (vp_nar .byte z18) := ⟨_, rfl⟩
      have hP : va_P (dC, dI) vwCl [(h0, .inr (13, mX13 q0 (upd v0 1 (u3_ 1)))), ((q0 0), zi k1 600 f_19)] H := by rw [e_f_19]; exact hP
      have hD : va_D A [(h0, .inr (13, mX13 q0 (upd v0 1 (u3_ 1)))), ((q0 0), zi k1 600 f_19)] := by rw [e_f_19]; exact hD
      refine lv_aload_n hx hb dX13_lay_20 rfl (lv_at hl 0 rfl) ?_
      refine lv_dup hx hb dX13_lay_21 rfl ?_
      refine va_get (D := (dC, dI)) (ci := 13) (v := .int (u3_ 1)) (C := RX13) (T := TX13) (N := 75) hx hb hG zuX13 hown hK hP 0 rfl rfl 1 (by decide) (hG _ zv1605) (fun _ h9 => h9) rfl dX13_lay_22 ?_
      refine lv_iconst (v := 1) hx hb dX13_lay_25 (by decide) ?_
      refine lv_iadd hx hb dX13_lay_26 ?_
      refine lv_topi (fun z26 e_z26 => ?_)
      have b_ := zadd rfl zk_1 e_z26 (by omega) (by omega)
      have b_ : 0 ≤ z26.toInt ∧ z26.toInt ≤ 600 := ⟨by omega, by omega⟩
      refine va_put (D := (dC, dI)) (ci := 13) (v := .int z26) (ty := .int) (C := RX13) (T := TX13) (N := 75) hx hb hG zuX13 tyX13 tyX13_ok nmX13 hown hK hP hD hS 0 rfl rfl 1 (by decide) (hG _ zv1605) (fun _ h9 => h9) rfl (by decide +kernel) rfl rfl (Nat.le_of_ble_eq_true rfl) dX13_lay_27 (fun H locs hP hD hS => ?_)
      have hP : va_P (dC, dI) vwCl [(h0, .inr (13, mX13 q0 (upd v0 1 z26))), ((q0 0), zi k1 600 f_19)] H := hP
      have hD : va_D A [(h0, .inr (13, mX13 q0 (upd v0 1 z26))), ((q0 0), zi k1 600 f_19)] := hD
      obtain ⟨z30, e_z30⟩ : ∃ z : Int32, z = (u3_ 0) + Int32.ofInt (-8) := ⟨_, rfl⟩
      have b_ := zadd (x := (u3_ 0)) (y := Int32.ofInt (-8)) rfl (show (Int32.ofInt (-8)).toInt = (-8) from by decide) e_z30 (by omega) (by omega)
      refine lv_iinc (v := z30) (lv' := [(2, .int z30), (0, .ref h0), (1, .int x1)]) hx hb dX13_lay_30 hl (k := 2) rfl e_z30.symm (by decide) rfl (fun ls hl => ?_)
      refine lv_goto (tgt := 3) hx hb dX13_lay_33 (by decide) ?_
      have hc : va_P (dC, dI) vwCl [(h0, .inr (13, mX13 q0 (upd v0 1 z26))), ((q0 0), zi k1 600 f_19)] H ∧ va_D A [(h0, .inr (13, mX13 q0 (upd v0 1 z26))), ((q0 0), zi k1 600 f_19)] ∧ va_S A s.heap H locs ∧ lv_has ls 3 [(0, .ref h0), (1, .int x1), (2, .int z30)] ∧ ((-8) ≤ z30.toInt ∧ z30.toInt ≤ 24) ∧ (0 ≤ z26.toInt ∧ z26.toInt ≤ 600) ∧ (8 * (z26.toInt - (v0 1).toInt) = 24 - z30.toInt) ∧ (zPut f1 f_19 (v0 1).toInt (x1 : Int32) z26.toInt) := ⟨hP, hD, hS, lv_sub hl [1, 2, 0] rfl, (by first | with_reducible assumption | exact ⟨by omega, by omega⟩), (by first | with_reducible assumption | exact ⟨by omega, by omega⟩), by omega, by first | exact zPut_0 (by omega) | (rw [e_f_19]; exact zPut_s (t := (u3_ 0).toInt) (by assumption) (zclamp (by omega)) (zbyS e_z17 e_z18 rfl (by omega)) (by omega) (by omega) (by omega))⟩
      exact hJ3 H locs ls (fun i => ([z30, z26] : List (Int32)).getD i 0) (fun _ => 0) (fun i => ([f_19] : List (Nat → Int32)).getD i (fun _ => 0)) (fun _ => (fun _ => 0)) hc (show (600 - z26.toInt).toNat < (600 - (u3_ 1).toInt).toNat from by omega)
  · skip
    have b_ : -2147483648 ≤ x1.toInt ∧ x1.toInt ≤ 2147483647 := ⟨zlo _, zhi _⟩
    have hc : va_P (dC, dI) vwCl [(h0, .inr (13, mX13 q0 (upd v0 1 (v0 1)))), ((q0 0), zi k1 600 f1)] s.heap ∧ va_D A [(h0, .inr (13, mX13 q0 (upd v0 1 (v0 1)))), ((q0 0), zi k1 600 f1)] ∧ va_S A s.heap s.heap [] ∧ lv_has ls 3 [(0, .ref h0), (1, .int x1), (2, .int 24)] ∧ ((-8) ≤ (24 : Int32).toInt ∧ (24 : Int32).toInt ≤ 24) ∧ (0 ≤ (v0 1).toInt ∧ (v0 1).toInt ≤ 600) ∧ (8 * ((v0 1).toInt - (v0 1).toInt) = 24 - (24 : Int32).toInt) ∧ (zPut f1 f1 (v0 1).toInt (x1 : Int32) (v0 1).toInt) := ⟨hP, hD, hS, lv_sub hl [1, 2, 0] rfl, (by first | with_reducible assumption | exact ⟨by omega, by omega⟩), (by first | with_reducible assumption | exact ⟨by omega, by omega⟩), by omega, by first | exact zPut_0 (by omega) | (rw [e_f_19]; exact zPut_s (t := (u3_ 0).toInt) (by assumption) (zclamp (by omega)) (zbyS e_z17 e_z18 rfl (by omega)) (by omega) (by omega) (by omega))⟩
    exact hJ3 s.heap [] ls (fun i => ([24, (v0 1)] : List (Int32)).getD i 0) (fun _ => 0) (fun i => ([f1] : List (Nat → Int32)).getD i (fun _ => 0)) (fun _ => (fun _ => 0)) hc
set_option maxHeartbeats 8000000 in
set_option maxRecDepth 100000 in
theorem sX13_feed_0 (l : Launch) (dC : Nat → ClassId) (dI : Nat → Nat → Nat) (adK adV : Nat → Nat) (h0 : Nat) (q0 : Nat → Nat) (k1 : ClassId) (sz : Nat) (v0 : Nat → Int32) (f1 : Nat → Int32) (x1 : Int32) (x2 : Int32) (x3 : Int32) (x4 : Int32) (x5 : Int32) (hv0 : zR rg_Model v0) : Met l yX13_feed (zw yX13_feed cX13_feed 6 (some .int)) { frames := 1, cells := 0, slots := 0, locals := 22 } (zPc dC dI adK adV [.ref h0, .int x1, .int x2, .int x3, .int x4, .int x5] sz [(h0, .inr (13, mX13 q0 v0)), ((q0 0), zi k1 600 f1)] [(k1, .byte)]) (va_Qi (fun (r : Int32) (u : Nat → Int32) => ((-2) ≤ r.toInt ∧ r.toInt ≤ 600) ∧ (0 ≤ (u 0).toInt ∧ (u 0).toInt ≤ 600) ∧ (0 ≤ (u 1).toInt ∧ (u 1).toInt ≤ 0) ∧ ((v0 1).toInt ≤ 580 → r.toInt = (v0 1).toInt + 20 ∧ (u 0).toInt = (v0 1).toInt + 20) ∧ (580 < (v0 1).toInt → r.toInt = -2 ∧ (u 0).toInt = (v0 1).toInt)) (fun (u : Nat → Int32) (t : State) => ∃ (ww : Nat → Int64) (aa : Nat → Nat → Int32) (bb : Nat → Nat → Int64), ((v0 1).toInt ≤ 580 → zFed f1 (aa 0) (v0 1).toInt (x1 : Int32) (x2 : Int32) (x3 : Int32) (x4 : Int32) (x5 : Int32)) ∧ (580 < (v0 1).toInt → ∀ j : Nat, (aa 0) j = f1 j) ∧ va_P (dC, dI) vwCl [(h0, .inr (13, mX13 q0 (upd (upd v0 1 (u 0)) 21 (u 1)))), ((q0 0), zi k1 600 (aa 0))] t.heap ∧ va_K (dC, dI) vwCl [(k1, .byte)] t ∧ va_D (va_A [(h0, .inr (13, mX13 q0 v0)), ((q0 0), zi k1 600 f1)] sz) [(h0, .inr (13, mX13 q0 (upd (upd v0 1 (u 0)) 21 (u 1)))), ((q0 0), zi k1 600 (aa 0))]) (va_A [(h0, .inr (13, mX13 q0 v0)), ((q0 0), zi k1 600 f1)] sz)) 0 0 (va_A [(h0, .inr (13, mX13 q0 v0)), ((q0 0), zi k1 600 f1)] sz) := by
  refine Met.ofW (cc := cX13_feed) (maxL := 6) (ret := (some .int)) (by decide) rfl ?_
  intro p e s m args below meth c s₁ B hml hv
  obtain ⟨rfl, hsz, hP, hK, hD0, hE, hZ⟩ := hv
  have hx := B.exec
  have hb := B.bytes
  have hr := B.returns
  have hG : ∀ w ∈ zG, w.before _ s = true := fun w h => atoms_spec (ws := (zw yX13_feed cX13_feed 6 (some .int))) B.pre w (List.mem_cons_of_mem _ h)
  have hown : s.vm.findClass RX13 = some m.cls := findClass_of_methodNamed B.named
  have hlocks := B.notSynchronized

  subst hsz
  have hD := hD0.self (sz := s.heap.size)
  generalize hAe : va_A [(h0, .inr (13, mX13 q0 v0)), ((q0 0), zi k1 600 f1)] s.heap.size = A at hD hZ ⊢
  have hA : ∀ q : Nat, s.heap.size ≤ q → A q := fun q h => by rw [← hAe]; exact Or.inr h
  have hS : va_S A s.heap s.heap [] := va_S.rf
  have hl := lv_entry ([.ref h0, .int x1, .int x2, .int x3, .int x4, .int x5]) (n := 6) (Nat.le_of_ble_eq_true rfl)
  rw [lg_entry_eq]
  generalize (lg_sl ([.ref h0, .int x1, .int x2, .int x3, .int x4, .int x5]) ++ List.replicate (6 - (lg_sl ([.ref h0, .int x1, .int x2, .int x3, .int x4, .int x5])).length) Slot.unset).toArray = ls at hl ⊢
  have hl : lv_has ls 6 [(0, .ref h0), (1, .int x1), (2, .int x2), (3, .int x3), (4, .int x4), (5, .int x5)] := hl
  have b_ := zk_m2
  have b_ := zk_0
  have b_ : 0 ≤ (v0 1).toInt ∧ (v0 1).toInt ≤ 600 := hv0 1
  refine lv_aload_n hx hb dX13_feed_0 rfl (lv_at hl 0 rfl) ?_
  refine lv_iconst (v := 0) hx hb dX13_feed_1 (by decide) ?_
  refine va_put (D := (dC, dI)) (ci := 13) (v := .int 0) (ty := .int) (C := RX13) (T := TX13) (N := 75) hx hb hG zuX13 tyX13 tyX13_ok nmX13 hown hK hP hD hS 0 rfl rfl 21 (by decide) (hG _ zv1625) (fun _ h9 => h9) rfl (by decide +kernel) rfl rfl (Nat.le_of_ble_eq_true rfl) dX13_feed_2 (fun H locs hP hD hS => ?_)
  have hP : va_P (dC, dI) vwCl [(h0, .inr (13, mX13 q0 (upd v0 21 0))), ((q0 0), zi k1 600 f1)] H := hP
  have hD : va_D A [(h0, .inr (13, mX13 q0 (upd v0 21 0))), ((q0 0), zi k1 600 f1)] := hD
  refine lv_aload_n hx hb dX13_feed_5 rfl (lv_at hl 0 rfl) ?_
  refine va_get (D := (dC, dI)) (ci := 13) (v := .int (v0 1)) (C := RX13) (T := TX13) (N := 75) hx hb hG zuX13 hown hK hP 0 rfl rfl 1 (by decide) (hG _ zv1605) (fun _ h9 => h9) rfl dX13_feed_6 ?_
  refine lv_bipush (v := 20) hx hb dX13_feed_9 (by decide) ?_
  refine lv_iadd hx hb dX13_feed_11 ?_
  refine lv_topi (fun z11 e_z11 => ?_)
  have b_ := zadd rfl zk_20 e_z11 (by omega) (by omega)
  refine lv_sipush (v := 600) hx hb dX13_feed_12 (by decide) ?_
  refine lv_icmp_le (tgt := 21) hx hb dX13_feed_15 (by decide) (fun c_ => ?_) (fun c_ => ?_)
  · skip
    have b_ := zT_le rfl zk_600 c_
    refine lv_aload_n hx hb dX13_feed_21 rfl (lv_at hl 0 rfl) ?_
    refine lv_iload_n hx hb dX13_feed_22 rfl (lv_at hl 1 rfl) ?_
    have hPc := hP.sub (ws' := [(h0, .inr (13, mX13 q0 (upd v0 21 0))), ((q0 0), zi k1 600 f1)]) [0, 1] rfl
    have hDc := hD.sub (ws' := [(h0, .inr (13, mX13 q0 (upd v0 21 0))), ((q0 0), zi k1 600 f1)]) [0, 1] (by decide) rfl
    have hKc := hK.sub (tys' := [(k1, .byte)]) [0] rfl
    have hFc := va_free (wc := [(h0, .inr (13, mX13 q0 (upd v0 21 0))), ((q0 0), zi k1 600 f1)]) hD hS hA [0, 1] rfl
    refine va_callv (va_runV (As := [.int x1]) (rest := []) ⟨hx, hb, hml, hown, hG⟩ (sX13_lay_0 l dC dI adK adV h0 q0 k1 H.size (upd v0 21 0) f1 x1 (zR_updF hv0 21 rfl) (show (v0 1).toInt ≤ 596 from by omega)) (cwV 1 hG (zgV zv1838 zv1840 zv50 zv142 zv1841) rfl rfl rfl (by decide +kernel) ⟨Nat.le_of_ble_eq_true rfl, Nat.le_of_ble_eq_true rfl⟩) ⟨zPc_blind, va_recv hKc hPc (ci := 13) (q0 := 0) rfl rfl, zPc_pre hPc hKc hDc hE hS hFc hZ⟩ rfl rfl hl.1 rfl (lv_room (Nat.le_of_ble_eq_true rfl)) dX13_feed_23 ⟨Nat.le_of_ble_eq_true rfl, Nat.le_of_ble_eq_true rfl⟩) hS (fun q _ h => hFc q h) hFc (fun u23_ t H1 locs ht hvm hw hB hz1 hk1 hS => ?_)
    replace hw : (0 ≤ (u23_ 0).toInt ∧ (u23_ 0).toInt ≤ 600) ∧ ((u23_ 0).toInt = (v0 1).toInt + 4) := hw
    obtain ⟨b_, hX23_0⟩ := hw
    obtain ⟨w23_, a23_, b23_, hB23_0, hP1, hK1, hD1⟩ := hB
    have hB23_0 : zPut f1 (a23_ 0) (v0 1).toInt (x1 : Int32) (u23_ 0).toInt := hB23_0
    rw [ht] at hP1
    obtain ⟨hP, hD⟩ := va_join (wr := []) (w1 := [(h0, .inr (13, mX13 q0 (upd (upd v0 1 (u23_ 0)) 21 0))), ((q0 0), zi k1 600 (a23_ 0))]) hP hD [0, 1] [] rfl rfl (by decide) (by decide) hk1 hFc hP1 hD1
    have hP : va_P (dC, dI) vwCl [(h0, .inr (13, mX13 q0 (upd (upd v0 1 (u23_ 0)) 21 0))), ((q0 0), zi k1 600 (a23_ 0))] H1 := hP.sub [0, 1] rfl
    have hD : va_D A [(h0, .inr (13, mX13 q0 (upd (upd v0 1 (u23_ 0)) 21 0))), ((q0 0), zi k1 600 (a23_ 0))] := hD.sub [0, 1] (by decide) rfl
    generalize H1 = H at hP hS ⊢
    clear hz1
    refine lv_aload_n hx hb dX13_feed_26 rfl (lv_at hl 0 rfl) ?_
    refine lv_iload_n hx hb dX13_feed_27 rfl (lv_at hl 2 rfl) ?_
    have hPc := hP.sub (ws' := [(h0, .inr (13, mX13 q0 (upd (upd v0 1 (u23_ 0)) 21 0))), ((q0 0), zi k1 600 (a23_ 0))]) [0, 1] rfl
    have hDc := hD.sub (ws' := [(h0, .inr (13, mX13 q0 (upd (upd v0 1 (u23_ 0)) 21 0))), ((q0 0), zi k1 600 (a23_ 0))]) [0, 1] (by decide) rfl
    have hKc := hK.sub (tys' := [(k1, .byte)]) [0] rfl
    have hFc := va_free (wc := [(h0, .inr (13, mX13 q0 (upd (upd v0 1 (u23_ 0)) 21 0))), ((q0 0), zi k1 600 (a23_ 0))]) hD hS hA [0, 1] rfl
    refine va_callv (va_runV (As := [.int x2]) (rest := []) ⟨hx, hb, hml, hown, hG⟩ (sX13_lay_0 l dC dI adK adV h0 q0 k1 H.size (upd (upd v0 1 (u23_ 0)) 21 0) (a23_ 0) x2 (zR_updF (zR_up2 hv0 1 (show (0 : Int) ≤ ((u23_ 0) : Int32).toInt ∧ ((u23_ 0) : Int32).toInt ≤ (600 : Int) from (by first | with_reducible assumption | exact ⟨by omega, by omega⟩))) 21 rfl) (show (u23_ 0).toInt ≤ 596 from by omega)) (cwV 1 hG (zgV zv1838 zv1840 zv50 zv142 zv1841) rfl rfl rfl (by decide +kernel) ⟨Nat.le_of_ble_eq_true rfl, Nat.le_of_ble_eq_true rfl⟩) ⟨zPc_blind, va_recv hKc hPc (ci := 13) (q0 := 0) rfl rfl, zPc_pre hPc hKc hDc hE hS hFc hZ⟩ rfl rfl hl.1 rfl (lv_room (Nat.le_of_ble_eq_true rfl)) dX13_feed_28 ⟨Nat.le_of_ble_eq_true rfl, Nat.le_of_ble_eq_true rfl⟩) hS (fun q _ h => hFc q h) hFc (fun u28_ t H1 locs ht hvm hw hB hz1 hk1 hS => ?_)
    replace hw : (0 ≤ (u28_ 0).toInt ∧ (u28_ 0).toInt ≤ 600) ∧ ((u28_ 0).toInt = (u23_ 0).toInt + 4) := hw
    obtain ⟨b_, hX28_0⟩ := hw
    obtain ⟨w28_, a28_, b28_, hB28_0, hP1, hK1, hD1⟩ := hB
    have hB28_0 : zPut (a23_ 0) (a28_ 0) (u23_ 0).toInt (x2 : Int32) (u28_ 0).toInt := hB28_0
    rw [ht] at hP1
    obtain ⟨hP, hD⟩ := va_join (wr := []) (w1 := [(h0, .inr (13, mX13 q0 (upd (upd v0 1 (u28_ 0)) 21 0))), ((q0 0), zi k1 600 (a28_ 0))]) hP hD [0, 1] [] rfl rfl (by decide) (by decide) hk1 hFc hP1 hD1
    have hP : va_P (dC, dI) vwCl [(h0, .inr (13, mX13 q0 (upd (upd v0 1 (u28_ 0)) 21 0))), ((q0 0), zi k1 600 (a28_ 0))] H1 := hP.sub [0, 1] rfl
    have hD : va_D A [(h0, .inr (13, mX13 q0 (upd (upd v0 1 (u28_ 0)) 21 0))), ((q0 0), zi k1 600 (a28_ 0))] := hD.sub [0, 1] (by decide) rfl
    generalize H1 = H at hP hS ⊢
    clear hz1
    refine lv_aload_n hx hb dX13_feed_31 rfl (lv_at hl 0 rfl) ?_
    refine lv_iload_n hx hb dX13_feed_32 rfl (lv_at hl 3 rfl) ?_
    have hPc := hP.sub (ws' := [(h0, .inr (13, mX13 q0 (upd (upd v0 1 (u28_ 0)) 21 0))), ((q0 0), zi k1 600 (a28_ 0))]) [0, 1] rfl
    have hDc := hD.sub (ws' := [(h0, .inr (13, mX13 q0 (upd (upd v0 1 (u28_ 0)) 21 0))), ((q0 0), zi k1 600 (a28_ 0))]) [0, 1] (by decide) rfl
    have hKc := hK.sub (tys' := [(k1, .byte)]) [0] rfl
    have hFc := va_free (wc := [(h0, .inr (13, mX13 q0 (upd (upd v0 1 (u28_ 0)) 21 0))), ((q0 0), zi k1 600 (a28_ 0))]) hD hS hA [0, 1] rfl
    refine va_callv (va_runV (As := [.int x3]) (rest := []) ⟨hx, hb, hml, hown, hG⟩ (sX13_lay_0 l dC dI adK adV h0 q0 k1 H.size (upd (upd v0 1 (u28_ 0)) 21 0) (a28_ 0) x3 (zR_updF (zR_up2 hv0 1 (show (0 : Int) ≤ ((u28_ 0) : Int32).toInt ∧ ((u28_ 0) : Int32).toInt ≤ (600 : Int) from (by first | with_reducible assumption | exact ⟨by omega, by omega⟩))) 21 rfl) (show (u28_ 0).toInt ≤ 596 from by omega)) (cwV 1 hG (zgV zv1838 zv1840 zv50 zv142 zv1841) rfl rfl rfl (by decide +kernel) ⟨Nat.le_of_ble_eq_true rfl, Nat.le_of_ble_eq_true rfl⟩) ⟨zPc_blind, va_recv hKc hPc (ci := 13) (q0 := 0) rfl rfl, zPc_pre hPc hKc hDc hE hS hFc hZ⟩ rfl rfl hl.1 rfl (lv_room (Nat.le_of_ble_eq_true rfl)) dX13_feed_33 ⟨Nat.le_of_ble_eq_true rfl, Nat.le_of_ble_eq_true rfl⟩) hS (fun q _ h => hFc q h) hFc (fun u33_ t H1 locs ht hvm hw hB hz1 hk1 hS => ?_)
    replace hw : (0 ≤ (u33_ 0).toInt ∧ (u33_ 0).toInt ≤ 600) ∧ ((u33_ 0).toInt = (u28_ 0).toInt + 4) := hw
    obtain ⟨b_, hX33_0⟩ := hw
    obtain ⟨w33_, a33_, b33_, hB33_0, hP1, hK1, hD1⟩ := hB
    have hB33_0 : zPut (a28_ 0) (a33_ 0) (u28_ 0).toInt (x3 : Int32) (u33_ 0).toInt := hB33_0
    rw [ht] at hP1
    obtain ⟨hP, hD⟩ := va_join (wr := []) (w1 := [(h0, .inr (13, mX13 q0 (upd (upd v0 1 (u33_ 0)) 21 0))), ((q0 0), zi k1 600 (a33_ 0))]) hP hD [0, 1] [] rfl rfl (by decide) (by decide) hk1 hFc hP1 hD1
    have hP : va_P (dC, dI) vwCl [(h0, .inr (13, mX13 q0 (upd (upd v0 1 (u33_ 0)) 21 0))), ((q0 0), zi k1 600 (a33_ 0))] H1 := hP.sub [0, 1] rfl
    have hD : va_D A [(h0, .inr (13, mX13 q0 (upd (upd v0 1 (u33_ 0)) 21 0))), ((q0 0), zi k1 600 (a33_ 0))] := hD.sub [0, 1] (by decide) rfl
    generalize H1 = H at hP hS ⊢
    clear hz1
    refine lv_aload_n hx hb dX13_feed_36 rfl (lv_at hl 0 rfl) ?_
    refine lv_iload hx hb dX13_feed_37 (lv_at hl 4 rfl) ?_
    have hPc := hP.sub (ws' := [(h0, .inr (13, mX13 q0 (upd (upd v0 1 (u33_ 0)) 21 0))), ((q0 0), zi k1 600 (a33_ 0))]) [0, 1] rfl
    have hDc := hD.sub (ws' := [(h0, .inr (13, mX13 q0 (upd (upd v0 1 (u33_ 0)) 21 0))), ((q0 0), zi k1 600 (a33_ 0))]) [0, 1] (by decide) rfl
    have hKc := hK.sub (tys' := [(k1, .byte)]) [0] rfl
    have hFc := va_free (wc := [(h0, .inr (13, mX13 q0 (upd (upd v0 1 (u33_ 0)) 21 0))), ((q0 0), zi k1 600 (a33_ 0))]) hD hS hA [0, 1] rfl
    refine va_callv (va_runV (As := [.int x4]) (rest := []) ⟨hx, hb, hml, hown, hG⟩ (sX13_lay_0 l dC dI adK adV h0 q0 k1 H.size (upd (upd v0 1 (u33_ 0)) 21 0) (a33_ 0) x4 (zR_updF (zR_up2 hv0 1 (show (0 : Int) ≤ ((u33_ 0) : Int32).toInt ∧ ((u33_ 0) : Int32).toInt ≤ (600 : Int) from (by first | with_reducible assumption | exact ⟨by omega, by omega⟩))) 21 rfl) (show (u33_ 0).toInt ≤ 596 from by omega)) (cwV 1 hG (zgV zv1838 zv1840 zv50 zv142 zv1841) rfl rfl rfl (by decide +kernel) ⟨Nat.le_of_ble_eq_true rfl, Nat.le_of_ble_eq_true rfl⟩) ⟨zPc_blind, va_recv hKc hPc (ci := 13) (q0 := 0) rfl rfl, zPc_pre hPc hKc hDc hE hS hFc hZ⟩ rfl rfl hl.1 rfl (lv_room (Nat.le_of_ble_eq_true rfl)) dX13_feed_39 ⟨Nat.le_of_ble_eq_true rfl, Nat.le_of_ble_eq_true rfl⟩) hS (fun q _ h => hFc q h) hFc (fun u39_ t H1 locs ht hvm hw hB hz1 hk1 hS => ?_)
    replace hw : (0 ≤ (u39_ 0).toInt ∧ (u39_ 0).toInt ≤ 600) ∧ ((u39_ 0).toInt = (u33_ 0).toInt + 4) := hw
    obtain ⟨b_, hX39_0⟩ := hw
    obtain ⟨w39_, a39_, b39_, hB39_0, hP1, hK1, hD1⟩ := hB
    have hB39_0 : zPut (a33_ 0) (a39_ 0) (u33_ 0).toInt (x4 : Int32) (u39_ 0).toInt := hB39_0
    rw [ht] at hP1
    obtain ⟨hP, hD⟩ := va_join (wr := []) (w1 := [(h0, .inr (13, mX13 q0 (upd (upd v0 1 (u39_ 0)) 21 0))), ((q0 0), zi k1 600 (a39_ 0))]) hP hD [0, 1] [] rfl rfl (by decide) (by decide) hk1 hFc hP1 hD1
    have hP : va_P (dC, dI) vwCl [(h0, .inr (13, mX13 q0 (upd (upd v0 1 (u39_ 0)) 21 0))), ((q0 0), zi k1 600 (a39_ 0))] H1 := hP.sub [0, 1] rfl
    have hD : va_D A [(h0, .inr (13, mX13 q0 (upd (upd v0 1 (u39_ 0)) 21 0))), ((q0 0), zi k1 600 (a39_ 0))] := hD.sub [0, 1] (by decide) rfl
    generalize H1 = H at hP hS ⊢
    clear hz1
    refine lv_aload_n hx hb dX13_feed_42 rfl (lv_at hl 0 rfl) ?_
    refine lv_iload hx hb dX13_feed_43 (lv_at hl 5 rfl) ?_
    have hPc := hP.sub (ws' := [(h0, .inr (13, mX13 q0 (upd (upd v0 1 (u39_ 0)) 21 0))), ((q0 0), zi k1 600 (a39_ 0))]) [0, 1] rfl
    have hDc := hD.sub (ws' := [(h0, .inr (13, mX13 q0 (upd (upd v0 1 (u39_ 0)) 21 0))), ((q0 0), zi k1 600 (a39_ 0))]) [0, 1] (by decide) rfl
    have hKc := hK.sub (tys' := [(k1, .byte)]) [0] rfl
    have hFc := va_free (wc := [(h0, .inr (13, mX13 q0 (upd (upd v0 1 (u39_ 0)) 21 0))), ((q0 0), zi k1 600 (a39_ 0))]) hD hS hA [0, 1] rfl
    refine va_callv (va_runV (As := [.int x5]) (rest := []) ⟨hx, hb, hml, hown, hG⟩ (sX13_lay_0 l dC dI adK adV h0 q0 k1 H.size (upd (upd v0 1 (u39_ 0)) 21 0) (a39_ 0) x5 (zR_updF (zR_up2 hv0 1 (show (0 : Int) ≤ ((u39_ 0) : Int32).toInt ∧ ((u39_ 0) : Int32).toInt ≤ (600 : Int) from (by first | with_reducible assumption | exact ⟨by omega, by omega⟩))) 21 rfl) (show (u39_ 0).toInt ≤ 596 from by omega)) (cwV 1 hG (zgV zv1838 zv1840 zv50 zv142 zv1841) rfl rfl rfl (by decide +kernel) ⟨Nat.le_of_ble_eq_true rfl, Nat.le_of_ble_eq_true rfl⟩) ⟨zPc_blind, va_recv hKc hPc (ci := 13) (q0 := 0) rfl rfl, zPc_pre hPc hKc hDc hE hS hFc hZ⟩ rfl rfl hl.1 rfl (lv_room (Nat.le_of_ble_eq_true rfl)) dX13_feed_45 ⟨Nat.le_of_ble_eq_true rfl, Nat.le_of_ble_eq_true rfl⟩) hS (fun q _ h => hFc q h) hFc (fun u45_ t H1 locs ht hvm hw hB hz1 hk1 hS => ?_)
    replace hw : (0 ≤ (u45_ 0).toInt ∧ (u45_ 0).toInt ≤ 600) ∧ ((u45_ 0).toInt = (u39_ 0).toInt + 4) := hw
    obtain ⟨b_, hX45_0⟩ := hw
    obtain ⟨w45_, a45_, b45_, hB45_0, hP1, hK1, hD1⟩ := hB
    have hB45_0 : zPut (a39_ 0) (a45_ 0) (u39_ 0).toInt (x5 : Int32) (u45_ 0).toInt := hB45_0
    rw [ht] at hP1
    obtain ⟨hP, hD⟩ := va_join (wr := []) (w1 := [(h0, .inr (13, mX13 q0 (upd (upd v0 1 (u45_ 0)) 21 0))), ((q0 0), zi k1 600 (a45_ 0))]) hP hD [0, 1] [] rfl rfl (by decide) (by decide) hk1 hFc hP1 hD1
    have hP : va_P (dC, dI) vwCl [(h0, .inr (13, mX13 q0 (upd (upd v0 1 (u45_ 0)) 21 0))), ((q0 0), zi k1 600 (a45_ 0))] H1 := hP.sub [0, 1] rfl
    have hD : va_D A [(h0, .inr (13, mX13 q0 (upd (upd v0 1 (u45_ 0)) 21 0))), ((q0 0), zi k1 600 (a45_ 0))] := hD.sub [0, 1] (by decide) rfl
    generalize H1 = H at hP hS ⊢
    clear hz1
    refine lv_aload_n hx hb dX13_feed_48 rfl (lv_at hl 0 rfl) ?_
    refine va_get (D := (dC, dI)) (ci := 13) (v := .int (u45_ 0)) (C := RX13) (T := TX13) (N := 75) hx hb hG zuX13 hown hK hP 0 rfl rfl 1 (by decide) (hG _ zv1605) (fun _ h9 => h9) rfl dX13_feed_49 ?_
    refine W.widen (k := 0) (n := 0) (by decide) (by decide) ?_
    have hpost : ((-2) ≤ (u45_ 0).toInt ∧ (u45_ 0).toInt ≤ 600) ∧ (0 ≤ (u45_ 0).toInt ∧ (u45_ 0).toInt ≤ 600) ∧ (0 ≤ (0 : Int32).toInt ∧ (0 : Int32).toInt ≤ 0) ∧ ((v0 1).toInt ≤ 580 → (u45_ 0).toInt = (v0 1).toInt + 20 ∧ (u45_ 0).toInt = (v0 1).toInt + 20) ∧ (580 < (v0 1).toInt → (u45_ 0).toInt = -2 ∧ (u45_ 0).toInt = (v0 1).toInt) := ⟨(by first | with_reducible assumption | exact ⟨by omega, by omega⟩), (by first | with_reducible assumption | exact ⟨by omega, by omega⟩), (by first | with_reducible assumption | exact ⟨by omega, by omega⟩), by omega, by omega⟩
    have hP9 : va_P (dC, dI) vwCl [(h0, .inr (13, mX13 q0 (upd (upd v0 1 (u45_ 0)) 21 0))), ((q0 0), zi k1 600 (a45_ 0))] H := hP
    have hD9 : va_D A [(h0, .inr (13, mX13 q0 (upd (upd v0 1 (u45_ 0)) 21 0))), ((q0 0), zi k1 600 (a45_ 0))] := hD
    have hB0 : (v0 1).toInt ≤ 580 → zFed f1 (a45_ 0) (v0 1).toInt (x1 : Int32) (x2 : Int32) (x3 : Int32) (x4 : Int32) (x5 : Int32) := by first | exact fun _ => zFed_5 hB23_0 hB28_0 hB33_0 hB39_0 hB45_0 (by omega) (by omega) (by omega) (by omega) (by omega) (by omega) (by omega) (by omega) (by omega) | (intro q; omega)
    have hB1 : 580 < (v0 1).toInt → ∀ j : Nat, (a45_ 0) j = f1 j := by first | exact fun _ _ => rfl | exact fun q => absurd q (by omega)
    exact W.iret (v := (u45_ 0)) hx hb hr (fun t ht hW => ⟨⟨(u45_ 0), (fun i => ([(u45_ 0), 0] : List (Int32)).getD i 0), rfl, hpost, (fun _ => 0), (fun i => ([(a45_ 0)] : List (Nat → Int32)).getD i (fun _ => 0)), (fun _ => (fun _ => 0)), hB0, hB1, by rw [ht]; exact hP9, va_K.moved hW.alike hK, hD9⟩, hS.F ht⟩) hS.2.2 dX13_feed_52
  · skip
    have b_ := zF_le rfl zk_600 c_
    refine lv_bipush (v := (-2)) hx hb dX13_feed_18 (by decide) ?_
    refine W.widen (k := 0) (n := 0) (by decide) (by decide) ?_
    have hpost : ((-2) ≤ ((-2) : Int32).toInt ∧ ((-2) : Int32).toInt ≤ 600) ∧ (0 ≤ (v0 1).toInt ∧ (v0 1).toInt ≤ 600) ∧ (0 ≤ (0 : Int32).toInt ∧ (0 : Int32).toInt ≤ 0) ∧ ((v0 1).toInt ≤ 580 → ((-2) : Int32).toInt = (v0 1).toInt + 20 ∧ (v0 1).toInt = (v0 1).toInt + 20) ∧ (580 < (v0 1).toInt → ((-2) : Int32).toInt = -2 ∧ (v0 1).toInt = (v0 1).toInt) := ⟨(by first | with_reducible assumption | exact ⟨by omega, by omega⟩), (by first | with_reducible assumption | exact ⟨by omega, by omega⟩), (by first | with_reducible assumption | exact ⟨by omega, by omega⟩), by omega, by omega⟩
    have hP9 : va_P (dC, dI) vwCl [(h0, .inr (13, mX13 q0 (upd (upd v0 1 (v0 1)) 21 0))), ((q0 0), zi k1 600 f1)] H := hP
    have hD9 : va_D A [(h0, .inr (13, mX13 q0 (upd (upd v0 1 (v0 1)) 21 0))), ((q0 0), zi k1 600 f1)] := hD
    have hB0 : (v0 1).toInt ≤ 580 → zFed f1 f1 (v0 1).toInt (x1 : Int32) (x2 : Int32) (x3 : Int32) (x4 : Int32) (x5 : Int32) := by first | exact fun _ => zFed_5 hB23_0 hB28_0 hB33_0 hB39_0 hB45_0 (by omega) (by omega) (by omega) (by omega) (by omega) (by omega) (by omega) (by omega) (by omega) | (intro q; omega)
    have hB1 : 580 < (v0 1).toInt → ∀ j : Nat, f1 j = f1 j := by first | exact fun _ _ => rfl | exact fun q => absurd q (by omega)
    exact W.iret (v := (-2)) hx hb hr (fun t ht hW => ⟨⟨(-2), (fun i => ([(v0 1), 0] : List (Int32)).getD i 0), rfl, hpost, (fun _ => 0), (fun i => ([f1] : List (Nat → Int32)).getD i (fun _ => 0)), (fun _ => (fun _ => 0)), hB0, hB1, by rw [ht]; exact hP9, va_K.moved hW.alike hK, hD9⟩, hS.F ht⟩) hS.2.2 dX13_feed_20
set_option maxHeartbeats 8000000 in
set_option maxRecDepth 100000 in
theorem sX13_end_0 (l : Launch) (dC : Nat → ClassId) (dI : Nat → Nat → Nat) (adK adV : Nat → Nat) (h0 : Nat) (q0 : Nat → Nat) (sz : Nat) (v0 : Nat → Int32) (x1 : Int32) (hv0 : zR rg_Model v0) : Met l yX13_end (zw yX13_end cX13_end 2 (some .int)) { frames := 0, cells := 0, slots := 0, locals := 0 } (zPc dC dI adK adV [.ref h0, .int x1] sz [(h0, .inr (13, mX13 q0 v0))] []) (va_Qi (fun (r : Int32) (u : Nat → Int32) => ((-1) ≤ r.toInt ∧ r.toInt ≤ 600) ∧ (0 ≤ (u 0).toInt ∧ (u 0).toInt ≤ 600) ∧ (0 ≤ (u 1).toInt ∧ (u 1).toInt ≤ 0) ∧ ((0 ≤ x1.toInt ∧ x1.toInt ≤ (v0 1).toInt) → r.toInt = x1.toInt ∧ (u 0).toInt = x1.toInt) ∧ ((x1.toInt < 0 ∨ (v0 1).toInt < x1.toInt) → r.toInt = -1 ∧ (u 0).toInt = (v0 1).toInt)) (fun (u : Nat → Int32) (t : State) => ∃ (ww : Nat → Int64) (aa : Nat → Nat → Int32) (bb : Nat → Nat → Int64), va_P (dC, dI) vwCl [(h0, .inr (13, mX13 q0 (upd (upd v0 1 (u 0)) 21 (u 1))))] t.heap ∧ va_K (dC, dI) vwCl [] t ∧ va_D (va_A [(h0, .inr (13, mX13 q0 v0))] sz) [(h0, .inr (13, mX13 q0 (upd (upd v0 1 (u 0)) 21 (u 1))))]) (va_A [(h0, .inr (13, mX13 q0 v0))] sz)) 0 0 (va_A [(h0, .inr (13, mX13 q0 v0))] sz) := by
  refine Met.ofW (cc := cX13_end) (maxL := 2) (ret := (some .int)) (by decide) rfl ?_
  intro p e s m args below meth c s₁ B hml hv
  obtain ⟨rfl, hsz, hP, hK, hD0, hE, hZ⟩ := hv
  have hx := B.exec
  have hb := B.bytes
  have hr := B.returns
  have hG : ∀ w ∈ zG, w.before _ s = true := fun w h => atoms_spec (ws := (zw yX13_end cX13_end 2 (some .int))) B.pre w (List.mem_cons_of_mem _ h)
  have hown : s.vm.findClass RX13 = some m.cls := findClass_of_methodNamed B.named
  have hlocks := B.notSynchronized

  subst hsz
  have hD := hD0.self (sz := s.heap.size)
  generalize hAe : va_A [(h0, .inr (13, mX13 q0 v0))] s.heap.size = A at hD hZ ⊢
  have hA : ∀ q : Nat, s.heap.size ≤ q → A q := fun q h => by rw [← hAe]; exact Or.inr h
  have hS : va_S A s.heap s.heap [] := va_S.rf
  have hl := lv_entry ([.ref h0, .int x1]) (n := 2) (Nat.le_of_ble_eq_true rfl)
  rw [lg_entry_eq]
  generalize (lg_sl ([.ref h0, .int x1]) ++ List.replicate (2 - (lg_sl ([.ref h0, .int x1])).length) Slot.unset).toArray = ls at hl ⊢
  have hl : lv_has ls 2 [(0, .ref h0), (1, .int x1)] := hl
  have b_ := zk_m1
  have b_ := zk_0
  have b_ : 0 ≤ (v0 1).toInt ∧ (v0 1).toInt ≤ 600 := hv0 1
  refine lv_aload_n hx hb dX13_end_0 rfl (lv_at hl 0 rfl) ?_
  refine lv_iconst (v := 0) hx hb dX13_end_1 (by decide) ?_
  refine va_put (D := (dC, dI)) (ci := 13) (v := .int 0) (ty := .int) (C := RX13) (T := TX13) (N := 75) hx hb hG zuX13 tyX13 tyX13_ok nmX13 hown hK hP hD hS 0 rfl rfl 21 (by decide) (hG _ zv1625) (fun _ h9 => h9) rfl (by decide +kernel) rfl rfl (Nat.le_of_ble_eq_true rfl) dX13_end_2 (fun H locs hP hD hS => ?_)
  have hP : va_P (dC, dI) vwCl [(h0, .inr (13, mX13 q0 (upd v0 21 0)))] H := hP
  have hD : va_D A [(h0, .inr (13, mX13 q0 (upd v0 21 0)))] := hD
  refine lv_iload_n hx hb dX13_end_5 rfl (lv_at hl 1 rfl) ?_
  have b_ : -2147483648 ≤ x1.toInt ∧ x1.toInt ≤ 2147483647 := ⟨zlo _, zhi _⟩
  refine lv_if_lt (tgt := 17) hx hb dX13_end_6 (by decide) (fun c_ => ?_) (fun c_ => ?_)
  · skip
    have b_ := zT_lt rfl zk_0 c_
    refine lv_iconst (v := (-1)) hx hb dX13_end_17 (by decide) ?_
    refine W.widen (k := 0) (n := 0) (by decide) (by decide) ?_
    have hpost : ((-1) ≤ ((-1) : Int32).toInt ∧ ((-1) : Int32).toInt ≤ 600) ∧ (0 ≤ (v0 1).toInt ∧ (v0 1).toInt ≤ 600) ∧ (0 ≤ (0 : Int32).toInt ∧ (0 : Int32).toInt ≤ 0) ∧ ((0 ≤ x1.toInt ∧ x1.toInt ≤ (v0 1).toInt) → ((-1) : Int32).toInt = x1.toInt ∧ (v0 1).toInt = x1.toInt) ∧ ((x1.toInt < 0 ∨ (v0 1).toInt < x1.toInt) → ((-1) : Int32).toInt = -1 ∧ (v0 1).toInt = (v0 1).toInt) := ⟨(by first | with_reducible assumption | exact ⟨by omega, by omega⟩), (by first | with_reducible assumption | exact ⟨by omega, by omega⟩), (by first | with_reducible assumption | exact ⟨by omega, by omega⟩), by omega, by omega⟩
    have hP9 : va_P (dC, dI) vwCl [(h0, .inr (13, mX13 q0 (upd (upd v0 1 (v0 1)) 21 0)))] H := hP
    have hD9 : va_D A [(h0, .inr (13, mX13 q0 (upd (upd v0 1 (v0 1)) 21 0)))] := hD
    exact W.iret (v := (-1)) hx hb hr (fun t ht hW => ⟨⟨(-1), (fun i => ([(v0 1), 0] : List (Int32)).getD i 0), rfl, hpost, (fun _ => 0), (fun _ => (fun _ => 0)), (fun _ => (fun _ => 0)), by rw [ht]; exact hP9, va_K.moved hW.alike hK, hD9⟩, hS.F ht⟩) hS.2.2 dX13_end_18
  · skip
    have b_ := zF_lt rfl zk_0 c_
    refine lv_iload_n hx hb dX13_end_9 rfl (lv_at hl 1 rfl) ?_
    refine lv_aload_n hx hb dX13_end_10 rfl (lv_at hl 0 rfl) ?_
    refine va_get (D := (dC, dI)) (ci := 13) (v := .int (v0 1)) (C := RX13) (T := TX13) (N := 75) hx hb hG zuX13 hown hK hP 0 rfl rfl 1 (by decide) (hG _ zv1605) (fun _ h9 => h9) rfl dX13_end_11 ?_
    refine lv_icmp_le (tgt := 19) hx hb dX13_end_14 (by decide) (fun c_ => ?_) (fun c_ => ?_)
    · skip
      have b_ := zT_le rfl rfl c_
      refine lv_aload_n hx hb dX13_end_19 rfl (lv_at hl 0 rfl) ?_
      refine lv_iload_n hx hb dX13_end_20 rfl (lv_at hl 1 rfl) ?_
      refine va_put (D := (dC, dI)) (ci := 13) (v := .int x1) (ty := .int) (C := RX13) (T := TX13) (N := 75) hx hb hG zuX13 tyX13 tyX13_ok nmX13 hown hK hP hD hS 0 rfl rfl 1 (by decide) (hG _ zv1605) (fun _ h9 => h9) rfl (by decide +kernel) rfl rfl (Nat.le_of_ble_eq_true rfl) dX13_end_21 (fun H locs hP hD hS => ?_)
      have hP : va_P (dC, dI) vwCl [(h0, .inr (13, mX13 q0 (upd (upd v0 1 x1) 21 0)))] H := hP
      have hD : va_D A [(h0, .inr (13, mX13 q0 (upd (upd v0 1 x1) 21 0)))] := hD
      refine lv_iload_n hx hb dX13_end_24 rfl (lv_at hl 1 rfl) ?_
      refine W.widen (k := 0) (n := 0) (by decide) (by decide) ?_
      have hpost : ((-1) ≤ x1.toInt ∧ x1.toInt ≤ 600) ∧ (0 ≤ x1.toInt ∧ x1.toInt ≤ 600) ∧ (0 ≤ (0 : Int32).toInt ∧ (0 : Int32).toInt ≤ 0) ∧ ((0 ≤ x1.toInt ∧ x1.toInt ≤ (v0 1).toInt) → x1.toInt = x1.toInt ∧ x1.toInt = x1.toInt) ∧ ((x1.toInt < 0 ∨ (v0 1).toInt < x1.toInt) → x1.toInt = -1 ∧ x1.toInt = (v0 1).toInt) := ⟨(by first | with_reducible assumption | exact ⟨by omega, by omega⟩), (by first | with_reducible assumption | exact ⟨by omega, by omega⟩), (by first | with_reducible assumption | exact ⟨by omega, by omega⟩), by omega, by omega⟩
      have hP9 : va_P (dC, dI) vwCl [(h0, .inr (13, mX13 q0 (upd (upd v0 1 x1) 21 0)))] H := hP
      have hD9 : va_D A [(h0, .inr (13, mX13 q0 (upd (upd v0 1 x1) 21 0)))] := hD
      exact W.iret (v := x1) hx hb hr (fun t ht hW => ⟨⟨x1, (fun i => ([x1, 0] : List (Int32)).getD i 0), rfl, hpost, (fun _ => 0), (fun _ => (fun _ => 0)), (fun _ => (fun _ => 0)), by rw [ht]; exact hP9, va_K.moved hW.alike hK, hD9⟩, hS.F ht⟩) hS.2.2 dX13_end_25
    · skip
      have b_ := zF_le rfl rfl c_
      refine lv_iconst (v := (-1)) hx hb dX13_end_17 (by decide) ?_
      refine W.widen (k := 0) (n := 0) (by decide) (by decide) ?_
      have hpost : ((-1) ≤ ((-1) : Int32).toInt ∧ ((-1) : Int32).toInt ≤ 600) ∧ (0 ≤ (v0 1).toInt ∧ (v0 1).toInt ≤ 600) ∧ (0 ≤ (0 : Int32).toInt ∧ (0 : Int32).toInt ≤ 0) ∧ ((0 ≤ x1.toInt ∧ x1.toInt ≤ (v0 1).toInt) → ((-1) : Int32).toInt = x1.toInt ∧ (v0 1).toInt = x1.toInt) ∧ ((x1.toInt < 0 ∨ (v0 1).toInt < x1.toInt) → ((-1) : Int32).toInt = -1 ∧ (v0 1).toInt = (v0 1).toInt) := ⟨(by first | with_reducible assumption | exact ⟨by omega, by omega⟩), (by first | with_reducible assumption | exact ⟨by omega, by omega⟩), (by first | with_reducible assumption | exact ⟨by omega, by omega⟩), by omega, by omega⟩
      have hP9 : va_P (dC, dI) vwCl [(h0, .inr (13, mX13 q0 (upd (upd v0 1 (v0 1)) 21 0)))] H := hP
      have hD9 : va_D A [(h0, .inr (13, mX13 q0 (upd (upd v0 1 (v0 1)) 21 0)))] := hD
      exact W.iret (v := (-1)) hx hb hr (fun t ht hW => ⟨⟨(-1), (fun i => ([(v0 1), 0] : List (Int32)).getD i 0), rfl, hpost, (fun _ => 0), (fun _ => (fun _ => 0)), (fun _ => (fun _ => 0)), by rw [ht]; exact hP9, va_K.moved hW.alike hK, hD9⟩, hS.F ht⟩) hS.2.2 dX13_end_18
set_option maxHeartbeats 8000000 in
set_option maxRecDepth 100000 in
theorem sX13_remove_0 (l : Launch) (dC : Nat → ClassId) (dI : Nat → Nat → Nat) (adK adV : Nat → Nat) (h0 : Nat) (q0 : Nat → Nat) (k5 : ClassId) (sz : Nat) (v0 : Nat → Int32) (f5 : Nat → Int32) (x1 : Int32) (hv0 : zR rg_Model v0) : Met l yX13_remove (zw yX13_remove cX13_remove 2 (some .boolean)) { frames := 2, cells := 0, slots := 0, locals := 42 } (zPc dC dI adK adV [.ref h0, .int x1] sz [(h0, .inr (13, mX13 q0 v0)), ((q0 6), zi k5 120 f5)] [(k5, .boolean)]) (va_Qi (fun (r : Int32) (u : Nat → Int32) => (0 ≤ r.toInt ∧ r.toInt ≤ 1) ∧ (0 ≤ (u 0).toInt ∧ (u 0).toInt ≤ 0) ∧ (r.toInt = (u 1).toInt)) (fun (u : Nat → Int32) (t : State) => ∃ (ww : Nat → Int64) (aa : Nat → Nat → Int32) (bb : Nat → Nat → Int64), (zRv f5 (v0 13).toInt (x1 : Int32) (u 1).toInt f5 (aa 0) 0) ∧ va_P (dC, dI) vwCl [(h0, .inr (13, mX13 q0 (upd v0 21 (u 0)))), ((q0 6), zi k5 120 (aa 0))] t.heap ∧ va_K (dC, dI) vwCl [(k5, .boolean)] t ∧ va_D (va_A [(h0, .inr (13, mX13 q0 v0)), ((q0 6), zi k5 120 f5)] sz) [(h0, .inr (13, mX13 q0 (upd v0 21 (u 0)))), ((q0 6), zi k5 120 (aa 0))]) (va_A [(h0, .inr (13, mX13 q0 v0)), ((q0 6), zi k5 120 f5)] sz)) 0 0 (va_A [(h0, .inr (13, mX13 q0 v0)), ((q0 6), zi k5 120 f5)] sz) := by
  refine Met.ofW (cc := cX13_remove) (maxL := 2) (ret := (some .boolean)) (by decide) rfl ?_
  intro p e s m args below meth c s₁ B hml hv
  obtain ⟨rfl, hsz, hP, hK, hD0, hE, hZ⟩ := hv
  have hx := B.exec
  have hb := B.bytes
  have hr := B.returns
  have hG : ∀ w ∈ zG, w.before _ s = true := fun w h => atoms_spec (ws := (zw yX13_remove cX13_remove 2 (some .boolean))) B.pre w (List.mem_cons_of_mem _ h)
  have hown : s.vm.findClass RX13 = some m.cls := findClass_of_methodNamed B.named
  have hlocks := B.notSynchronized

  subst hsz
  have hD := hD0.self (sz := s.heap.size)
  generalize hAe : va_A [(h0, .inr (13, mX13 q0 v0)), ((q0 6), zi k5 120 f5)] s.heap.size = A at hD hZ ⊢
  have hA : ∀ q : Nat, s.heap.size ≤ q → A q := fun q h => by rw [← hAe]; exact Or.inr h
  have hS : va_S A s.heap s.heap [] := va_S.rf
  have hl := lv_entry ([.ref h0, .int x1]) (n := 2) (Nat.le_of_ble_eq_true rfl)
  rw [lg_entry_eq]
  generalize (lg_sl ([.ref h0, .int x1]) ++ List.replicate (2 - (lg_sl ([.ref h0, .int x1])).length) Slot.unset).toArray = ls at hl ⊢
  have hl : lv_has ls 2 [(0, .ref h0), (1, .int x1)] := hl
  have b_ := zk_0
  have b_ := zk_1
  refine lv_aload_n hx hb dX13_remove_0 rfl (lv_at hl 0 rfl) ?_
  refine lv_iconst (v := 0) hx hb dX13_remove_1 (by decide) ?_
  refine va_put (D := (dC, dI)) (ci := 13) (v := .int 0) (ty := .int) (C := RX13) (T := TX13) (N := 75) hx hb hG zuX13 tyX13 tyX13_ok nmX13 hown hK hP hD hS 0 rfl rfl 21 (by decide) (hG _ zv1625) (fun _ h9 => h9) rfl (by decide +kernel) rfl rfl (Nat.le_of_ble_eq_true rfl) dX13_remove_2 (fun H locs hP hD hS => ?_)
  have hP : va_P (dC, dI) vwCl [(h0, .inr (13, mX13 q0 (upd v0 21 0))), ((q0 6), zi k5 120 f5)] H := hP
  have hD : va_D A [(h0, .inr (13, mX13 q0 (upd v0 21 0))), ((q0 6), zi k5 120 f5)] := hD
  refine lv_aload_n hx hb dX13_remove_5 rfl (lv_at hl 0 rfl) ?_
  refine lv_iload_n hx hb dX13_remove_6 rfl (lv_at hl 1 rfl) ?_
  have hPc := hP.sub (ws' := [(h0, .inr (13, mX13 q0 (upd v0 21 0))), ((q0 6), zi k5 120 f5)]) [0, 1] rfl
  have hDc := hD.sub (ws' := [(h0, .inr (13, mX13 q0 (upd v0 21 0))), ((q0 6), zi k5 120 f5)]) [0, 1] (by decide) rfl
  have hKc := hK.sub (tys' := [(k5, .boolean)]) [0] rfl
  have hFc := va_free (wc := [(h0, .inr (13, mX13 q0 (upd v0 21 0))), ((q0 6), zi k5 120 f5)]) hD hS hA [0, 1] rfl
  refine va_calli (va_runV (As := [.int x1]) (rest := []) ⟨hx, hb, hml, hown, hG⟩ (sX13_stands_0 l dC dI adK adV h0 q0 k5 H.size (upd v0 21 0) f5 x1 (zR_updF hv0 21 rfl)) (cwV 1 hG (zgV zv1927 zv1929 zv63 zv142 zv1930) rfl rfl rfl (by decide +kernel) ⟨Nat.le_of_ble_eq_true rfl, Nat.le_of_ble_eq_true rfl⟩) ⟨zPc_blind, va_recv hKc hPc (ci := 13) (q0 := 0) rfl rfl, zPc_pre hPc hKc hDc hE hS hFc hZ⟩ rfl rfl hl.1 rfl (lv_room (Nat.le_of_ble_eq_true rfl)) dX13_remove_7 ⟨Nat.le_of_ble_eq_true rfl, Nat.le_of_ble_eq_true rfl⟩) hS (fun q _ h => hFc q h) hFc (fun r7_ u7_ t H1 locs ht hvm hw hB hz1 hk1 hS => ?_)
  replace hw : (0 ≤ r7_.toInt ∧ r7_.toInt ≤ 1) ∧ (r7_.toInt = 1 → (0 ≤ x1.toInt ∧ x1.toInt ≤ 119)) ∧ (r7_.toInt = 1 → x1.toInt < (v0 13).toInt) ∧ (zIo f5 (v0 13).toInt (x1 : Int32) r7_.toInt) := hw
  obtain ⟨b_, hX7_0, hX7_1, hX7_2⟩ := hw
  obtain ⟨w7_, a7_, b7_, hP1, hK1, hD1⟩ := hB
  rw [ht] at hP1
  obtain ⟨hP, hD⟩ := va_join (wr := []) (w1 := [(h0, .inr (13, mX13 q0 (upd v0 21 0))), ((q0 6), zi k5 120 f5)]) hP hD [0, 1] [] rfl rfl (by decide) (by decide) hk1 hFc hP1 hD1
  have hP : va_P (dC, dI) vwCl [(h0, .inr (13, mX13 q0 (upd v0 21 0))), ((q0 6), zi k5 120 f5)] H1 := hP.sub [0, 1] rfl
  have hD : va_D A [(h0, .inr (13, mX13 q0 (upd v0 21 0))), ((q0 6), zi k5 120 f5)] := hD.sub [0, 1] (by decide) rfl
  generalize H1 = H at hP hS ⊢
  clear hz1
  refine lv_if_ne (tgt := 15) hx hb dX13_remove_10 (by decide) (fun c_ => ?_) (fun c_ => ?_)
  · skip
    have b_ := zT_ne rfl zk_0 c_
    refine lv_aload_n hx hb dX13_remove_15 rfl (lv_at hl 0 rfl) ?_
    refine va_get (D := (dC, dI)) (ci := 13) (v := .ref (q0 6)) (C := RX13) (T := TX13) (N := 75) hx hb hG zuX13 hown hK hP 0 rfl rfl 6 (by decide) (hG _ zv1610) (fun _ h9 => h9) rfl dX13_remove_16 ?_
    refine lv_iload_n hx hb dX13_remove_19 rfl (lv_at hl 1 rfl) ?_
    refine lv_iconst (v := 0) hx hb dX13_remove_20 (by decide) ?_
    refine va_zast hx hb hK hP hD hS 1 0 rfl rfl (zin_lit ⟨by omega, by omega⟩) dX13_remove_21 (fun H locs hP hD hS => ?_)
    obtain ⟨f_21, e_f_21⟩ : ∃ z : Nat → Int32, z = upd f5 (x1 : Int32).toNatClampNeg (vp_nar .boolean 0) := ⟨_, rfl⟩
    have hP : va_P (dC, dI) vwCl [(h0, .inr (13, mX13 q0 (upd v0 21 0))), ((q0 6), zi k5 120 f_21)] H := by rw [e_f_21]; exact hP
    have hD : va_D A [(h0, .inr (13, mX13 q0 (upd v0 21 0))), ((q0 6), zi k5 120 f_21)] := by rw [e_f_21]; exact hD
    refine lv_iconst (v := 1) hx hb dX13_remove_22 (by decide) ?_
    refine W.widen (k := 0) (n := 0) (by decide) (by decide) ?_
    have hpost : (0 ≤ (1 : Int32).toInt ∧ (1 : Int32).toInt ≤ 1) ∧ (0 ≤ (0 : Int32).toInt ∧ (0 : Int32).toInt ≤ 0) ∧ ((1 : Int32).toInt = (1 : Int32).toInt) := ⟨(by first | with_reducible assumption | exact ⟨by omega, by omega⟩), (by first | with_reducible assumption | exact ⟨by omega, by omega⟩), rfl⟩
    have hP9 : va_P (dC, dI) vwCl [(h0, .inr (13, mX13 q0 (upd v0 21 0))), ((q0 6), zi k5 120 f_21)] H := hP
    have hD9 : va_D A [(h0, .inr (13, mX13 q0 (upd v0 21 0))), ((q0 6), zi k5 120 f_21)] := hD
    have hB0 : zRv f5 (v0 13).toInt (x1 : Int32) (1 : Int32).toInt f5 f_21 0 := by first | exact zRv_1 hX7_2 (by omega) e_f_21 (by decide) (by decide) | exact zRv_0 hX7_2 (by omega) (by decide)
    exact W.zret (v := 1) hx hb hr rfl (fun t ht hW => ⟨⟨1, (fun i => ([0, 1] : List (Int32)).getD i 0), rfl, hpost, (fun _ => 0), (fun i => ([f_21] : List (Nat → Int32)).getD i (fun _ => 0)), (fun _ => (fun _ => 0)), hB0, by rw [ht]; exact hP9, va_K.moved hW.alike hK, hD9⟩, hS.F ht⟩) hS.2.2 dX13_remove_23
  · skip
    have b_ := zF_ne rfl zk_0 c_
    refine lv_iconst (v := 0) hx hb dX13_remove_13 (by decide) ?_
    refine W.widen (k := 0) (n := 0) (by decide) (by decide) ?_
    have hpost : (0 ≤ (0 : Int32).toInt ∧ (0 : Int32).toInt ≤ 1) ∧ (0 ≤ (0 : Int32).toInt ∧ (0 : Int32).toInt ≤ 0) ∧ ((0 : Int32).toInt = (0 : Int32).toInt) := ⟨(by first | with_reducible assumption | exact ⟨by omega, by omega⟩), (by first | with_reducible assumption | exact ⟨by omega, by omega⟩), rfl⟩
    have hP9 : va_P (dC, dI) vwCl [(h0, .inr (13, mX13 q0 (upd v0 21 0))), ((q0 6), zi k5 120 f5)] H := hP
    have hD9 : va_D A [(h0, .inr (13, mX13 q0 (upd v0 21 0))), ((q0 6), zi k5 120 f5)] := hD
    have hB0 : zRv f5 (v0 13).toInt (x1 : Int32) (0 : Int32).toInt f5 f5 0 := by first | exact zRv_1 hX7_2 (by omega) e_f_21 (by decide) (by decide) | exact zRv_0 hX7_2 (by omega) (by decide)
    exact W.zret (v := 0) hx hb hr rfl (fun t ht hW => ⟨⟨0, (fun i => ([0, 0] : List (Int32)).getD i 0), rfl, hpost, (fun _ => 0), (fun i => ([f5] : List (Nat → Int32)).getD i (fun _ => 0)), (fun _ => (fun _ => 0)), hB0, by rw [ht]; exact hP9, va_K.moved hW.alike hK, hD9⟩, hS.F ht⟩) hS.2.2 dX13_remove_14
set_option maxHeartbeats 8000000 in
set_option maxRecDepth 100000 in
theorem sX13_mark_0 (l : Launch) (dC : Nat → ClassId) (dI : Nat → Nat → Nat) (adK adV : Nat → Nat) (h0 : Nat) (q0 : Nat → Nat) (k5 : ClassId) (k8 : ClassId) (sz : Nat) (v0 : Nat → Int32) (f5 : Nat → Int32) (f8 : Nat → Int32) (x1 : Int32) (x2 : Int32) (hv0 : zR rg_Model v0) : Met l yX13_mark (zw yX13_mark cX13_mark 3 (some .boolean)) { frames := 2, cells := 0, slots := 0, locals := 42 } (zPc dC dI adK adV [.ref h0, .int x1, .int x2] sz [(h0, .inr (13, mX13 q0 v0)), ((q0 6), zi k5 120 f5), ((q0 9), zi k8 120 f8)] [(k5, .boolean), (k8, .int)]) (va_Qi (fun (r : Int32) (u : Nat → Int32) => (0 ≤ r.toInt ∧ r.toInt ≤ 1) ∧ (0 ≤ (u 0).toInt ∧ (u 0).toInt ≤ 0) ∧ (r.toInt = (u 1).toInt)) (fun (u : Nat → Int32) (t : State) => ∃ (ww : Nat → Int64) (aa : Nat → Nat → Int32) (bb : Nat → Nat → Int64), (zRv f5 (v0 13).toInt (x1 : Int32) (u 1).toInt f8 (aa 0) x2.toInt) ∧ va_P (dC, dI) vwCl [(h0, .inr (13, mX13 q0 (upd v0 21 (u 0)))), ((q0 6), zi k5 120 f5), ((q0 9), zi k8 120 (aa 0))] t.heap ∧ va_K (dC, dI) vwCl [(k5, .boolean), (k8, .int)] t ∧ va_D (va_A [(h0, .inr (13, mX13 q0 v0)), ((q0 6), zi k5 120 f5), ((q0 9), zi k8 120 f8)] sz) [(h0, .inr (13, mX13 q0 (upd v0 21 (u 0)))), ((q0 6), zi k5 120 f5), ((q0 9), zi k8 120 (aa 0))]) (va_A [(h0, .inr (13, mX13 q0 v0)), ((q0 6), zi k5 120 f5), ((q0 9), zi k8 120 f8)] sz)) 0 0 (va_A [(h0, .inr (13, mX13 q0 v0)), ((q0 6), zi k5 120 f5), ((q0 9), zi k8 120 f8)] sz) := by
  refine Met.ofW (cc := cX13_mark) (maxL := 3) (ret := (some .boolean)) (by decide) rfl ?_
  intro p e s m args below meth c s₁ B hml hv
  obtain ⟨rfl, hsz, hP, hK, hD0, hE, hZ⟩ := hv
  have hx := B.exec
  have hb := B.bytes
  have hr := B.returns
  have hG : ∀ w ∈ zG, w.before _ s = true := fun w h => atoms_spec (ws := (zw yX13_mark cX13_mark 3 (some .boolean))) B.pre w (List.mem_cons_of_mem _ h)
  have hown : s.vm.findClass RX13 = some m.cls := findClass_of_methodNamed B.named
  have hlocks := B.notSynchronized

  subst hsz
  have hD := hD0.self (sz := s.heap.size)
  generalize hAe : va_A [(h0, .inr (13, mX13 q0 v0)), ((q0 6), zi k5 120 f5), ((q0 9), zi k8 120 f8)] s.heap.size = A at hD hZ ⊢
  have hA : ∀ q : Nat, s.heap.size ≤ q → A q := fun q h => by rw [← hAe]; exact Or.inr h
  have hS : va_S A s.heap s.heap [] := va_S.rf
  have hl := lv_entry ([.ref h0, .int x1, .int x2]) (n := 3) (Nat.le_of_ble_eq_true rfl)
  rw [lg_entry_eq]
  generalize (lg_sl ([.ref h0, .int x1, .int x2]) ++ List.replicate (3 - (lg_sl ([.ref h0, .int x1, .int x2])).length) Slot.unset).toArray = ls at hl ⊢
  have hl : lv_has ls 3 [(0, .ref h0), (1, .int x1), (2, .int x2)] := hl
  have b_ := zk_0
  have b_ := zk_1
  refine lv_aload_n hx hb dX13_mark_0 rfl (lv_at hl 0 rfl) ?_
  refine lv_iconst (v := 0) hx hb dX13_mark_1 (by decide) ?_
  refine va_put (D := (dC, dI)) (ci := 13) (v := .int 0) (ty := .int) (C := RX13) (T := TX13) (N := 75) hx hb hG zuX13 tyX13 tyX13_ok nmX13 hown hK hP hD hS 0 rfl rfl 21 (by decide) (hG _ zv1625) (fun _ h9 => h9) rfl (by decide +kernel) rfl rfl (Nat.le_of_ble_eq_true rfl) dX13_mark_2 (fun H locs hP hD hS => ?_)
  have hP : va_P (dC, dI) vwCl [(h0, .inr (13, mX13 q0 (upd v0 21 0))), ((q0 6), zi k5 120 f5), ((q0 9), zi k8 120 f8)] H := hP
  have hD : va_D A [(h0, .inr (13, mX13 q0 (upd v0 21 0))), ((q0 6), zi k5 120 f5), ((q0 9), zi k8 120 f8)] := hD
  refine lv_aload_n hx hb dX13_mark_5 rfl (lv_at hl 0 rfl) ?_
  refine lv_iload_n hx hb dX13_mark_6 rfl (lv_at hl 1 rfl) ?_
  have hPc := hP.sub (ws' := [(h0, .inr (13, mX13 q0 (upd v0 21 0))), ((q0 6), zi k5 120 f5)]) [0, 1] rfl
  have hDc := hD.sub (ws' := [(h0, .inr (13, mX13 q0 (upd v0 21 0))), ((q0 6), zi k5 120 f5)]) [0, 1] (by decide) rfl
  have hKc := hK.sub (tys' := [(k5, .boolean)]) [0] rfl
  have hFc := va_free (wc := [(h0, .inr (13, mX13 q0 (upd v0 21 0))), ((q0 6), zi k5 120 f5)]) hD hS hA [0, 1] rfl
  refine va_calli (va_runV (As := [.int x1]) (rest := []) ⟨hx, hb, hml, hown, hG⟩ (sX13_stands_0 l dC dI adK adV h0 q0 k5 H.size (upd v0 21 0) f5 x1 (zR_updF hv0 21 rfl)) (cwV 1 hG (zgV zv1927 zv1929 zv63 zv142 zv1930) rfl rfl rfl (by decide +kernel) ⟨Nat.le_of_ble_eq_true rfl, Nat.le_of_ble_eq_true rfl⟩) ⟨zPc_blind, va_recv hKc hPc (ci := 13) (q0 := 0) rfl rfl, zPc_pre hPc hKc hDc hE hS hFc hZ⟩ rfl rfl hl.1 rfl (lv_room (Nat.le_of_ble_eq_true rfl)) dX13_mark_7 ⟨Nat.le_of_ble_eq_true rfl, Nat.le_of_ble_eq_true rfl⟩) hS (fun q _ h => hFc q h) hFc (fun r7_ u7_ t H1 locs ht hvm hw hB hz1 hk1 hS => ?_)
  replace hw : (0 ≤ r7_.toInt ∧ r7_.toInt ≤ 1) ∧ (r7_.toInt = 1 → (0 ≤ x1.toInt ∧ x1.toInt ≤ 119)) ∧ (r7_.toInt = 1 → x1.toInt < (v0 13).toInt) ∧ (zIo f5 (v0 13).toInt (x1 : Int32) r7_.toInt) := hw
  obtain ⟨b_, hX7_0, hX7_1, hX7_2⟩ := hw
  obtain ⟨w7_, a7_, b7_, hP1, hK1, hD1⟩ := hB
  rw [ht] at hP1
  obtain ⟨hP, hD⟩ := va_join (wr := [((q0 9), zi k8 120 f8)]) (w1 := [(h0, .inr (13, mX13 q0 (upd v0 21 0))), ((q0 6), zi k5 120 f5)]) hP hD [0, 1] [2] rfl rfl (by decide) (by decide) hk1 hFc hP1 hD1
  have hP : va_P (dC, dI) vwCl [(h0, .inr (13, mX13 q0 (upd v0 21 0))), ((q0 6), zi k5 120 f5), ((q0 9), zi k8 120 f8)] H1 := hP.sub [1, 2, 0] rfl
  have hD : va_D A [(h0, .inr (13, mX13 q0 (upd v0 21 0))), ((q0 6), zi k5 120 f5), ((q0 9), zi k8 120 f8)] := hD.sub [1, 2, 0] (by decide) rfl
  generalize H1 = H at hP hS ⊢
  clear hz1
  refine lv_if_ne (tgt := 15) hx hb dX13_mark_10 (by decide) (fun c_ => ?_) (fun c_ => ?_)
  · skip
    have b_ := zT_ne rfl zk_0 c_
    refine lv_aload_n hx hb dX13_mark_15 rfl (lv_at hl 0 rfl) ?_
    refine va_get (D := (dC, dI)) (ci := 13) (v := .ref (q0 9)) (C := RX13) (T := TX13) (N := 75) hx hb hG zuX13 hown hK hP 0 rfl rfl 9 (by decide) (hG _ zv1613) (fun _ h9 => h9) rfl dX13_mark_16 ?_
    refine lv_iload_n hx hb dX13_mark_19 rfl (lv_at hl 1 rfl) ?_
    refine lv_iload_n hx hb dX13_mark_20 rfl (lv_at hl 2 rfl) ?_
    refine va_iast hx hb hK hP hD hS 2 1 rfl rfl (zin_lit ⟨by omega, by omega⟩) dX13_mark_21 (fun H locs hP hD hS => ?_)
    obtain ⟨f_21, e_f_21⟩ : ∃ z : Nat → Int32, z = upd f8 (x1 : Int32).toNatClampNeg x2 := ⟨_, rfl⟩
    have hP : va_P (dC, dI) vwCl [(h0, .inr (13, mX13 q0 (upd v0 21 0))), ((q0 6), zi k5 120 f5), ((q0 9), zi k8 120 f_21)] H := by rw [e_f_21]; exact hP
    have hD : va_D A [(h0, .inr (13, mX13 q0 (upd v0 21 0))), ((q0 6), zi k5 120 f5), ((q0 9), zi k8 120 f_21)] := by rw [e_f_21]; exact hD
    refine lv_iconst (v := 1) hx hb dX13_mark_22 (by decide) ?_
    refine W.widen (k := 0) (n := 0) (by decide) (by decide) ?_
    have hpost : (0 ≤ (1 : Int32).toInt ∧ (1 : Int32).toInt ≤ 1) ∧ (0 ≤ (0 : Int32).toInt ∧ (0 : Int32).toInt ≤ 0) ∧ ((1 : Int32).toInt = (1 : Int32).toInt) := ⟨(by first | with_reducible assumption | exact ⟨by omega, by omega⟩), (by first | with_reducible assumption | exact ⟨by omega, by omega⟩), rfl⟩
    have hP9 : va_P (dC, dI) vwCl [(h0, .inr (13, mX13 q0 (upd v0 21 0))), ((q0 6), zi k5 120 f5), ((q0 9), zi k8 120 f_21)] H := hP
    have hD9 : va_D A [(h0, .inr (13, mX13 q0 (upd v0 21 0))), ((q0 6), zi k5 120 f5), ((q0 9), zi k8 120 f_21)] := hD
    have hB0 : zRv f5 (v0 13).toInt (x1 : Int32) (1 : Int32).toInt f8 f_21 x2.toInt := by first | exact zRv_1 hX7_2 (by omega) e_f_21 rfl (by decide) | exact zRv_0 hX7_2 (by omega) (by decide)
    exact W.zret (v := 1) hx hb hr rfl (fun t ht hW => ⟨⟨1, (fun i => ([0, 1] : List (Int32)).getD i 0), rfl, hpost, (fun _ => 0), (fun i => ([f_21] : List (Nat → Int32)).getD i (fun _ => 0)), (fun _ => (fun _ => 0)), hB0, by rw [ht]; exact hP9, va_K.moved hW.alike hK, hD9⟩, hS.F ht⟩) hS.2.2 dX13_mark_23
  · skip
    have b_ := zF_ne rfl zk_0 c_
    refine lv_iconst (v := 0) hx hb dX13_mark_13 (by decide) ?_
    refine W.widen (k := 0) (n := 0) (by decide) (by decide) ?_
    have hpost : (0 ≤ (0 : Int32).toInt ∧ (0 : Int32).toInt ≤ 1) ∧ (0 ≤ (0 : Int32).toInt ∧ (0 : Int32).toInt ≤ 0) ∧ ((0 : Int32).toInt = (0 : Int32).toInt) := ⟨(by first | with_reducible assumption | exact ⟨by omega, by omega⟩), (by first | with_reducible assumption | exact ⟨by omega, by omega⟩), rfl⟩
    have hP9 : va_P (dC, dI) vwCl [(h0, .inr (13, mX13 q0 (upd v0 21 0))), ((q0 6), zi k5 120 f5), ((q0 9), zi k8 120 f8)] H := hP
    have hD9 : va_D A [(h0, .inr (13, mX13 q0 (upd v0 21 0))), ((q0 6), zi k5 120 f5), ((q0 9), zi k8 120 f8)] := hD
    have hB0 : zRv f5 (v0 13).toInt (x1 : Int32) (0 : Int32).toInt f8 f8 x2.toInt := by first | exact zRv_1 hX7_2 (by omega) e_f_21 rfl (by decide) | exact zRv_0 hX7_2 (by omega) (by decide)
    exact W.zret (v := 0) hx hb hr rfl (fun t ht hW => ⟨⟨0, (fun i => ([0, 0] : List (Int32)).getD i 0), rfl, hpost, (fun _ => 0), (fun i => ([f8] : List (Nat → Int32)).getD i (fun _ => 0)), (fun _ => (fun _ => 0)), hB0, by rw [ht]; exact hP9, va_K.moved hW.alike hK, hD9⟩, hS.F ht⟩) hS.2.2 dX13_mark_14
set_option maxHeartbeats 8000000 in
set_option maxRecDepth 100000 in
theorem sX13_stop_0 (l : Launch) (dC : Nat → ClassId) (dI : Nat → Nat → Nat) (adK adV : Nat → Nat) (h0 : Nat) (q0 : Nat → Nat) (k1 : ClassId) (k15 : ClassId) (k13 : ClassId) (k12 : ClassId) (sz : Nat) (v0 : Nat → Int32) (f1 : Nat → Int32) (f15 : Nat → Int32) (f13 : Nat → Int32) (f12 : Nat → Int32) (x1 : Int32) (hv0 : zR rg_Model v0) (hf13 : zA 0 12 f13) (hx1 : 0 ≤ x1.toInt ∧ x1.toInt ≤ 1) : Met l yX13_stop (zw yX13_stop cX13_stop 4 (some .int)) { frames := 5, cells := 0, slots := 0, locals := 108 } (zPc dC dI adK adV [.ref h0, .int x1] sz [(h0, .inr (13, mX13 q0 v0)), ((q0 0), zi k1 600 f1), ((q0 19), zi k15 12 f15), ((q0 15), zi k13 10 f13), ((q0 14), zi k12 120 f12)] [(k1, .byte), (k15, .byte), (k13, .int), (k12, .byte)]) (va_Qi (fun (r : Int32) (u : Nat → Int32) => ((-2) ≤ r.toInt ∧ r.toInt ≤ 10) ∧ (0 ≤ (u 0).toInt ∧ (u 0).toInt ≤ 0) ∧ (0 ≤ (u 1).toInt ∧ (u 1).toInt ≤ 10) ∧ (0 ≤ (u 2).toInt ∧ (u 2).toInt ≤ 12) ∧ (0 ≤ (u 3).toInt ∧ (u 3).toInt ≤ 0) ∧ (r.toInt = (u 4).toInt)) (fun (u : Nat → Int32) (t : State) => ∃ (ww : Nat → Int64) (aa : Nat → Nat → Int32) (bb : Nat → Nat → Int64), zA 0 12 (aa 1) ∧ (zMs f12 f13 (v0 16).toInt → zMs (aa 2) (aa 1) (u 1).toInt ∧ ∃ x : Int, zFW f1 (v0 1).toInt x ∧ zStp x1.toInt x (v0 16).toInt (u 1).toInt (u 4).toInt (zQ f12 f13 (v0 16).toInt) (zQ (aa 2) (aa 1) (u 1).toInt)) ∧ va_P (dC, dI) vwCl [(h0, .inr (13, mX13 q0 (upd (upd (upd (upd v0 1 (u 0)) 16 (u 1)) 20 (u 2)) 21 (u 3)))), ((q0 0), zi k1 600 f1), ((q0 19), zi k15 12 (aa 0)), ((q0 15), zi k13 10 (aa 1)), ((q0 14), zi k12 120 (aa 2))] t.heap ∧ va_K (dC, dI) vwCl [(k1, .byte), (k15, .byte), (k13, .int), (k12, .byte)] t ∧ va_D (va_A [(h0, .inr (13, mX13 q0 v0)), ((q0 0), zi k1 600 f1), ((q0 19), zi k15 12 f15), ((q0 15), zi k13 10 f13), ((q0 14), zi k12 120 f12)] sz) [(h0, .inr (13, mX13 q0 (upd (upd (upd (upd v0 1 (u 0)) 16 (u 1)) 20 (u 2)) 21 (u 3)))), ((q0 0), zi k1 600 f1), ((q0 19), zi k15 12 (aa 0)), ((q0 15), zi k13 10 (aa 1)), ((q0 14), zi k12 120 (aa 2))]) (va_A [(h0, .inr (13, mX13 q0 v0)), ((q0 0), zi k1 600 f1), ((q0 19), zi k15 12 f15), ((q0 15), zi k13 10 f13), ((q0 14), zi k12 120 f12)] sz)) 0 0 (va_A [(h0, .inr (13, mX13 q0 v0)), ((q0 0), zi k1 600 f1), ((q0 19), zi k15 12 f15), ((q0 15), zi k13 10 f13), ((q0 14), zi k12 120 f12)] sz) := by
  refine Met.ofW (cc := cX13_stop) (maxL := 4) (ret := (some .int)) (by decide) rfl ?_
  intro p e s m args below meth c s₁ B hml hv
  obtain ⟨rfl, hsz, hP, hK, hD0, hE, hZ⟩ := hv
  have hx := B.exec
  have hb := B.bytes
  have hr := B.returns
  have hG : ∀ w ∈ zG, w.before _ s = true := fun w h => atoms_spec (ws := (zw yX13_stop cX13_stop 4 (some .int))) B.pre w (List.mem_cons_of_mem _ h)
  have hown : s.vm.findClass RX13 = some m.cls := findClass_of_methodNamed B.named
  have hlocks := B.notSynchronized

  subst hsz
  have hD := hD0.self (sz := s.heap.size)
  generalize hAe : va_A [(h0, .inr (13, mX13 q0 v0)), ((q0 0), zi k1 600 f1), ((q0 19), zi k15 12 f15), ((q0 15), zi k13 10 f13), ((q0 14), zi k12 120 f12)] s.heap.size = A at hD hZ ⊢
  have hA : ∀ q : Nat, s.heap.size ≤ q → A q := fun q h => by rw [← hAe]; exact Or.inr h
  have hS : va_S A s.heap s.heap [] := va_S.rf
  have hl := lv_entry ([.ref h0, .int x1]) (n := 4) (Nat.le_of_ble_eq_true rfl)
  rw [lg_entry_eq]
  generalize (lg_sl ([.ref h0, .int x1]) ++ List.replicate (4 - (lg_sl ([.ref h0, .int x1])).length) Slot.unset).toArray = ls at hl ⊢
  have hl : lv_has ls 4 [(0, .ref h0), (1, .int x1)] := hl
  have b_ := zk_m2
  have b_ := zk_m1
  have b_ := zk_0
  refine lv_aload_n hx hb dX13_stop_0 rfl (lv_at hl 0 rfl) ?_
  refine lv_iconst (v := 0) hx hb dX13_stop_1 (by decide) ?_
  refine va_put (D := (dC, dI)) (ci := 13) (v := .int 0) (ty := .int) (C := RX13) (T := TX13) (N := 75) hx hb hG zuX13 tyX13 tyX13_ok nmX13 hown hK hP hD hS 0 rfl rfl 21 (by decide) (hG _ zv1625) (fun _ h9 => h9) rfl (by decide +kernel) rfl rfl (Nat.le_of_ble_eq_true rfl) dX13_stop_2 (fun H locs hP hD hS => ?_)
  have hP : va_P (dC, dI) vwCl [(h0, .inr (13, mX13 q0 (upd v0 21 0))), ((q0 0), zi k1 600 f1), ((q0 19), zi k15 12 f15), ((q0 15), zi k13 10 f13), ((q0 14), zi k12 120 f12)] H := hP
  have hD : va_D A [(h0, .inr (13, mX13 q0 (upd v0 21 0))), ((q0 0), zi k1 600 f1), ((q0 19), zi k15 12 f15), ((q0 15), zi k13 10 f13), ((q0 14), zi k12 120 f12)] := hD
  refine lv_aload_n hx hb dX13_stop_5 rfl (lv_at hl 0 rfl) ?_
  have hPc := hP.sub (ws' := [(h0, .inr (13, mX13 q0 (upd v0 21 0))), ((q0 0), zi k1 600 f1), ((q0 19), zi k15 12 f15)]) [0, 1, 2] rfl
  have hDc := hD.sub (ws' := [(h0, .inr (13, mX13 q0 (upd v0 21 0))), ((q0 0), zi k1 600 f1), ((q0 19), zi k15 12 f15)]) [0, 1, 2] (by decide) rfl
  have hKc := hK.sub (tys' := [(k1, .byte), (k15, .byte)]) [0, 1] rfl
  have hFc := va_free (wc := [(h0, .inr (13, mX13 q0 (upd v0 21 0))), ((q0 0), zi k1 600 f1), ((q0 19), zi k15 12 f15)]) hD hS hA [0, 1, 2] rfl
  refine va_calli (va_runV (As := []) (rest := []) ⟨hx, hb, hml, hown, hG⟩ (sX13_takesToken_0 l dC dI adK adV h0 q0 k1 k15 H.size (upd v0 21 0) f1 f15 (zR_updF hv0 21 rfl)) (cwV 0 hG (zgV zv1951 zv1953 zv66 zv142 zv1954) rfl rfl rfl (by decide +kernel) ⟨Nat.le_of_ble_eq_true rfl, Nat.le_of_ble_eq_true rfl⟩) ⟨zPc_blind, va_recv hKc hPc (ci := 13) (q0 := 0) rfl rfl, zPc_pre hPc hKc hDc hE hS hFc hZ⟩ rfl rfl hl.1 rfl (lv_room (Nat.le_of_ble_eq_true rfl)) dX13_stop_6 ⟨Nat.le_of_ble_eq_true rfl, Nat.le_of_ble_eq_true rfl⟩) hS (fun q _ h => hFc q h) hFc (fun r6_ u6_ t H1 locs ht hvm hw hB hz1 hk1 hS => ?_)
  replace hw : (0 ≤ r6_.toInt ∧ r6_.toInt ≤ 1) ∧ (0 ≤ (u6_ 0).toInt ∧ (u6_ 0).toInt ≤ 0) ∧ (0 ≤ (u6_ 1).toInt ∧ (u6_ 1).toInt ≤ 12) ∧ (r6_.toInt = 0 → ∀ i : Int, ¬ zIn f1 (v0 1).toInt i) ∧ (r6_.toInt = (u6_ 2).toInt) := hw
  obtain ⟨b_, b_, b_, hX6_0, b_⟩ := hw
  obtain ⟨w6_, a6_, b6_, hB6_0, hP1, hK1, hD1⟩ := hB
  have hB6_0 : (u6_ 2).toInt = 1 → zTw f1 (v0 1).toInt (a6_ 0) (u6_ 1).toInt := hB6_0
  rw [ht] at hP1
  obtain ⟨hP, hD⟩ := va_join (wr := [((q0 15), zi k13 10 f13), ((q0 14), zi k12 120 f12)]) (w1 := [(h0, .inr (13, mX13 q0 (upd (upd (upd v0 1 (u6_ 0)) 20 (u6_ 1)) 21 0))), ((q0 0), zi k1 600 f1), ((q0 19), zi k15 12 (a6_ 0))]) hP hD [0, 1, 2] [3, 4] rfl rfl (by decide) (by decide) hk1 hFc hP1 hD1
  have hP : va_P (dC, dI) vwCl [(h0, .inr (13, mX13 q0 (upd (upd (upd v0 1 (u6_ 0)) 20 (u6_ 1)) 21 0))), ((q0 0), zi k1 600 f1), ((q0 19), zi k15 12 (a6_ 0)), ((q0 15), zi k13 10 f13), ((q0 14), zi k12 120 f12)] H1 := hP.sub [2, 3, 4, 0, 1] rfl
  have hD : va_D A [(h0, .inr (13, mX13 q0 (upd (upd (upd v0 1 (u6_ 0)) 20 (u6_ 1)) 21 0))), ((q0 0), zi k1 600 f1), ((q0 19), zi k15 12 (a6_ 0)), ((q0 15), zi k13 10 f13), ((q0 14), zi k12 120 f12)] := hD.sub [2, 3, 4, 0, 1] (by decide) rfl
  generalize H1 = H at hP hS ⊢
  clear hz1
  refine lv_if_ne (tgt := 14) hx hb dX13_stop_9 (by decide) (fun c_ => ?_) (fun c_ => ?_)
  · skip
    have b_ := zT_ne rfl zk_0 c_
    refine lv_aload_n hx hb dX13_stop_14 rfl (lv_at hl 0 rfl) ?_
    have hPc := hP.sub (ws' := [(h0, .inr (13, mX13 q0 (upd (upd (upd v0 1 (u6_ 0)) 20 (u6_ 1)) 21 0))), ((q0 15), zi k13 10 f13), ((q0 14), zi k12 120 f12), ((q0 19), zi k15 12 (a6_ 0))]) [0, 3, 4, 2] rfl
    have hDc := hD.sub (ws' := [(h0, .inr (13, mX13 q0 (upd (upd (upd v0 1 (u6_ 0)) 20 (u6_ 1)) 21 0))), ((q0 15), zi k13 10 f13), ((q0 14), zi k12 120 f12), ((q0 19), zi k15 12 (a6_ 0))]) [0, 3, 4, 2] (by decide) rfl
    have hKc := hK.sub (tys' := [(k13, .int), (k12, .byte), (k15, .byte)]) [2, 3, 1] rfl
    have hFc := va_free (wc := [(h0, .inr (13, mX13 q0 (upd (upd (upd v0 1 (u6_ 0)) 20 (u6_ 1)) 21 0))), ((q0 15), zi k13 10 f13), ((q0 14), zi k12 120 f12), ((q0 19), zi k15 12 (a6_ 0))]) hD hS hA [0, 3, 4, 2] rfl
    refine va_calli (va_runV (As := []) (rest := []) ⟨hx, hb, hml, hown, hG⟩ (sX13_findStop_0 l dC dI adK adV h0 q0 k13 k12 k15 H.size (upd (upd (upd v0 1 (u6_ 0)) 20 (u6_ 1)) 21 0) f13 f12 (a6_ 0) (zR_updF (zR_up2 (zR_up2 hv0 1 (show (0 : Int) ≤ ((u6_ 0) : Int32).toInt ∧ ((u6_ 0) : Int32).toInt ≤ (600 : Int) from (by first | with_reducible assumption | exact ⟨by omega, by omega⟩))) 20 (show (0 : Int) ≤ ((u6_ 1) : Int32).toInt ∧ ((u6_ 1) : Int32).toInt ≤ (12 : Int) from (by first | with_reducible assumption | exact ⟨by omega, by omega⟩))) 21 rfl) hf13) (cwV 0 hG (zgV zv1881 zv1883 zv55 zv142 zv1884) rfl rfl rfl (by decide +kernel) ⟨Nat.le_of_ble_eq_true rfl, Nat.le_of_ble_eq_true rfl⟩) ⟨zPc_blind, va_recv hKc hPc (ci := 13) (q0 := 0) rfl rfl, zPc_pre hPc hKc hDc hE hS hFc hZ⟩ rfl rfl hl.1 rfl (lv_room (Nat.le_of_ble_eq_true rfl)) dX13_stop_15 ⟨Nat.le_of_ble_eq_true rfl, Nat.le_of_ble_eq_true rfl⟩) hS (fun q _ h => hFc q h) hFc (fun r15_ u15_ t H1 locs ht hvm hw hB hz1 hk1 hS => ?_)
    replace hw : ((-1) ≤ r15_.toInt ∧ r15_.toInt ≤ 9) ∧ (r15_.toInt < (v0 16).toInt) ∧ (zFd f12 f13 (a6_ 0) (u6_ 1).toInt (v0 16).toInt r15_.toInt) := hw
    obtain ⟨b_, hX15_0, hX15_1⟩ := hw
    obtain ⟨w15_, a15_, b15_, hP1, hK1, hD1⟩ := hB
    rw [ht] at hP1
    obtain ⟨hP, hD⟩ := va_join (wr := [((q0 0), zi k1 600 f1)]) (w1 := [(h0, .inr (13, mX13 q0 (upd (upd (upd v0 1 (u6_ 0)) 20 (u6_ 1)) 21 0))), ((q0 15), zi k13 10 f13), ((q0 14), zi k12 120 f12), ((q0 19), zi k15 12 (a6_ 0))]) hP hD [0, 3, 4, 2] [1] rfl rfl (by decide) (by decide) hk1 hFc hP1 hD1
    have hP : va_P (dC, dI) vwCl [(h0, .inr (13, mX13 q0 (upd (upd (upd v0 1 (u6_ 0)) 20 (u6_ 1)) 21 0))), ((q0 0), zi k1 600 f1), ((q0 19), zi k15 12 (a6_ 0)), ((q0 15), zi k13 10 f13), ((q0 14), zi k12 120 f12)] H1 := hP.sub [1, 0, 4, 2, 3] rfl
    have hD : va_D A [(h0, .inr (13, mX13 q0 (upd (upd (upd v0 1 (u6_ 0)) 20 (u6_ 1)) 21 0))), ((q0 0), zi k1 600 f1), ((q0 19), zi k15 12 (a6_ 0)), ((q0 15), zi k13 10 f13), ((q0 14), zi k12 120 f12)] := hD.sub [1, 0, 4, 2, 3] (by decide) rfl
    generalize H1 = H at hP hS ⊢
    clear hz1
    refine lv_istore_n (lv' := [(2, .int r15_), (0, .ref h0), (1, .int x1)]) hx hb dX13_stop_18 rfl hl (by decide) rfl (fun ls hl => ?_)
    refine lv_iload_n hx hb dX13_stop_19 rfl (lv_at hl 2 rfl) ?_
    refine lv_if_eq (tgt := 102) hx hb dX13_stop_20 (by decide) (fun c_ => ?_) (fun c_ => ?_)
    · skip
      have b_ := zT_eq rfl zk_0 c_
      refine lv_iload_n hx hb dX13_stop_102 rfl (lv_at hl 2 rfl) ?_
      refine lv_if_ne (tgt := 175) hx hb dX13_stop_103 (by decide) (fun c_ => False.elim (by have b_ := zT_ne rfl zk_0 c_; omega)) (fun c_ => ?_)
      have b_ := zF_ne rfl zk_0 c_
      refine lv_iload_n hx hb dX13_stop_106 rfl (lv_at hl 0 rfl) ?_
      refine lv_iconst (v := (-1)) hx hb dX13_stop_107 (by decide) ?_
      refine lv_icmp_eq (tgt := 175) hx hb dX13_stop_108 (by decide) (fun c_ => ?_) (fun c_ => ?_)
      · skip
        have b_ := zT_eq rfl zk_m1 c_
        refine lv_aload_n hx hb dX13_stop_175 rfl (lv_at hl 1 rfl) ?_
        have b_ : 0 ≤ (v0 16).toInt ∧ (v0 16).toInt ≤ 10 := hv0 16
        refine va_get (D := (dC, dI)) (ci := 13) (v := .int (v0 16)) (C := RX13) (T := TX13) (N := 75) hx hb hG zuX13 hown hK hP 0 rfl rfl 16 (by decide) (hG _ zv1620) (fun _ h9 => h9) rfl dX13_stop_176 ?_
        refine W.widen (k := 0) (n := 0) (by decide) (by decide) ?_
        have hpost : ((-2) ≤ (v0 16).toInt ∧ (v0 16).toInt ≤ 10) ∧ (0 ≤ (u6_ 0).toInt ∧ (u6_ 0).toInt ≤ 0) ∧ (0 ≤ (v0 16).toInt ∧ (v0 16).toInt ≤ 10) ∧ (0 ≤ (u6_ 1).toInt ∧ (u6_ 1).toInt ≤ 12) ∧ (0 ≤ (0 : Int32).toInt ∧ (0 : Int32).toInt ≤ 0) ∧ ((v0 16).toInt = (v0 16).toInt) := ⟨(by first | with_reducible assumption | exact ⟨by omega, by omega⟩), (by first | with_reducible assumption | exact ⟨by omega, by omega⟩), (by first | with_reducible assumption | exact ⟨by omega, by omega⟩), (by first | with_reducible assumption | exact ⟨by omega, by omega⟩), (by first | with_reducible assumption | exact ⟨by omega, by omega⟩), rfl⟩
        have hP9 : va_P (dC, dI) vwCl [(h0, .inr (13, mX13 q0 (upd (upd (upd (upd v0 1 (u6_ 0)) 16 (v0 16)) 20 (u6_ 1)) 21 0))), ((q0 0), zi k1 600 f1), ((q0 19), zi k15 12 (a6_ 0)), ((q0 15), zi k13 10 f13), ((q0 14), zi k12 120 f12)] H := hP
        have hD9 : va_D A [(h0, .inr (13, mX13 q0 (upd (upd (upd (upd v0 1 (u6_ 0)) 16 (v0 16)) 20 (u6_ 1)) 21 0))), ((q0 0), zi k1 600 f1), ((q0 19), zi k15 12 (a6_ 0)), ((q0 15), zi k13 10 f13), ((q0 14), zi k12 120 f12)] := hD
        have hB0 : zMs f12 f13 (v0 16).toInt → zMs f12 f13 (v0 16).toInt ∧ ∃ x : Int, zFW f1 (v0 1).toInt x ∧ zStp x1.toInt x (v0 16).toInt (v0 16).toInt (v0 16).toInt (zQ f12 f13 (v0 16).toInt) (zQ f12 f13 (v0 16).toInt) := by first | exact zsp1 (hX6_0 (by omega)) (by omega) (by omega) | exact zsp2 (hB6_0 (by omega)) hX15_1 (by omega) (by omega) (by omega) (by omega) (by omega) | exact zsp3 (hB6_0 (by omega)) hX15_1 (by omega) (by omega) (by omega) (by omega) (by omega) (by omega) (zC_e hI42_0 rfl (by omega)) e_f_88 (by omega) (by omega) | exact zsp6 (hB6_0 (by omega)) hX15_1 (by omega) (by omega) (by omega) (by omega) (zC_e hI123_0 rfl (by omega)) e_f_174 e_z173 (by omega) | exact zsp4 (hB6_0 (by omega)) hX15_1 (by omega) (by omega) (by omega)
        exact W.iret (v := (v0 16)) hx hb hr (fun t ht hW => ⟨⟨(v0 16), (fun i => ([(u6_ 0), (v0 16), (u6_ 1), 0, (v0 16)] : List (Int32)).getD i 0), rfl, hpost, (fun _ => 0), (fun i => ([(a6_ 0), f13, f12] : List (Nat → Int32)).getD i (fun _ => 0)), (fun _ => (fun _ => 0)), hf13, hB0, by rw [ht]; exact hP9, va_K.moved hW.alike hK, hD9⟩, hS.F ht⟩) hS.2.2 dX13_stop_179
      · skip
        have b_ := zF_eq rfl zk_m1 c_
        refine lv_aload_n hx hb dX13_stop_111 rfl (lv_at hl 1 rfl) ?_
        refine lv_dup hx hb dX13_stop_112 rfl ?_
        have b_ : 0 ≤ (v0 16).toInt ∧ (v0 16).toInt ≤ 10 := hv0 16
        refine va_get (D := (dC, dI)) (ci := 13) (v := .int (v0 16)) (C := RX13) (T := TX13) (N := 75) hx hb hG zuX13 hown hK hP 0 rfl rfl 16 (by decide) (hG _ zv1620) (fun _ h9 => h9) rfl dX13_stop_113 ?_
        refine lv_iconst (v := 1) hx hb dX13_stop_116 (by decide) ?_
        refine lv_isub hx hb dX13_stop_117 ?_
        refine lv_topi (fun z117 e_z117 => ?_)
        have b_ := zsub rfl zk_1 e_z117 (by omega) (by omega)
        have b_ : 0 ≤ z117.toInt ∧ z117.toInt ≤ 10 := ⟨by omega, by omega⟩
        refine va_put (D := (dC, dI)) (ci := 13) (v := .int z117) (ty := .int) (C := RX13) (T := TX13) (N := 75) hx hb hG zuX13 tyX13 tyX13_ok nmX13 hown hK hP hD hS 0 rfl rfl 16 (by decide) (hG _ zv1620) (fun _ h9 => h9) rfl (by decide +kernel) rfl rfl (Nat.le_of_ble_eq_true rfl) dX13_stop_118 (fun H locs hP hD hS => ?_)
        have hP : va_P (dC, dI) vwCl [(h0, .inr (13, mX13 q0 (upd (upd (upd (upd v0 1 (u6_ 0)) 16 z117) 20 (u6_ 1)) 21 0))), ((q0 0), zi k1 600 f1), ((q0 19), zi k15 12 (a6_ 0)), ((q0 15), zi k13 10 f13), ((q0 14), zi k12 120 f12)] H := hP
        have hD : va_D A [(h0, .inr (13, mX13 q0 (upd (upd (upd (upd v0 1 (u6_ 0)) 16 z117) 20 (u6_ 1)) 21 0))), ((q0 0), zi k1 600 f1), ((q0 19), zi k15 12 (a6_ 0)), ((q0 15), zi k13 10 f13), ((q0 14), zi k12 120 f12)] := hD
        refine lv_iconst (v := 0) hx hb dX13_stop_121 (by decide) ?_
        refine lv_istore_n (lv' := [(3, .int 0), (2, .int r15_), (0, .ref h0), (1, .int x1)]) hx hb dX13_stop_122 rfl hl (by decide) rfl (fun ls hl => ?_)
        refine zcutL (fun u123_ => (12 - (u123_ 0).toInt).toNat) (fun H locs ls u123_ w123_ a123_ b123_ => va_P (dC, dI) vwCl [(h0, .inr (13, mX13 q0 (upd (upd (upd (upd v0 1 (u6_ 0)) 16 z117) 20 (u6_ 1)) 21 0))), ((q0 0), zi k1 600 f1), ((q0 19), zi k15 12 (a6_ 0)), ((q0 15), zi k13 10 f13), ((q0 14), zi k12 120 (a123_ 0))] H ∧ va_D A [(h0, .inr (13, mX13 q0 (upd (upd (upd (upd v0 1 (u6_ 0)) 16 z117) 20 (u6_ 1)) 21 0))), ((q0 0), zi k1 600 f1), ((q0 19), zi k15 12 (a6_ 0)), ((q0 15), zi k13 10 f13), ((q0 14), zi k12 120 (a123_ 0))] ∧ va_S A s.heap H locs ∧ lv_has ls 4 [(0, .ref h0), (1, .int x1), (2, .int r15_), (3, .int (u123_ 0))] ∧ (0 ≤ (u123_ 0).toInt ∧ (u123_ 0).toInt ≤ 12) ∧ (zC f12 (a123_ 0) (fun i => f12 ((12 * z117.toInt).toNat + i)) (12 * r15_.toInt) (u123_ 0).toInt)) (fun ls u123_ w123_ => F0 m 123 ls []) 0 0 ?_ (fun hJ123 => ?_)
        · skip
          intro H locs ls u123_ w123_ a123_ b123_ hc hJ123
          obtain ⟨hP, hD, hS, hl, b_, hI123_0⟩ := hc
          refine lv_iload_n hx hb dX13_stop_123 rfl (lv_at hl 3 rfl) ?_
          refine lv_bipush (v := 12) hx hb dX13_stop_124 (by decide) ?_
          refine lv_icmp_ge (tgt := 160) hx hb dX13_stop_126 (by decide) (fun c_ => ?_) (fun c_ => ?_)
          · skip
            have b_ := zT_ge rfl zk_12 c_
            refine lv_aload_n hx hb dX13_stop_160 rfl (lv_at hl 0 rfl) ?_
            refine va_get (D := (dC, dI)) (ci := 13) (v := .ref (q0 15)) (C := RX13) (T := TX13) (N := 75) hx hb hG zuX13 hown hK hP 0 rfl rfl 15 (by decide) (hG _ zv1619) (fun _ h9 => h9) rfl dX13_stop_161 ?_
            refine lv_iload_n hx hb dX13_stop_164 rfl (lv_at hl 2 rfl) ?_
            refine lv_aload_n hx hb dX13_stop_165 rfl (lv_at hl 0 rfl) ?_
            refine va_get (D := (dC, dI)) (ci := 13) (v := .ref (q0 15)) (C := RX13) (T := TX13) (N := 75) hx hb hG zuX13 hown hK hP 0 rfl rfl 15 (by decide) (hG _ zv1619) (fun _ h9 => h9) rfl dX13_stop_166 ?_
            refine lv_aload_n hx hb dX13_stop_169 rfl (lv_at hl 0 rfl) ?_
            refine va_get (D := (dC, dI)) (ci := 13) (v := .int z117) (C := RX13) (T := TX13) (N := 75) hx hb hG zuX13 hown hK hP 0 rfl rfl 16 (by decide) (hG _ zv1620) (fun _ h9 => h9) rfl dX13_stop_170 ?_
            refine va_iald hx hb hK hP 3 2 rfl rfl (zin_lit ⟨by omega, by omega⟩) dX13_stop_173 ?_
            refine lv_topi (fun z173 e_z173 => ?_)
            have b_ : 0 ≤ z173.toInt ∧ z173.toInt ≤ 12 := by rw [e_z173]; exact hf13 _
            refine va_iast hx hb hK hP hD hS 3 2 rfl rfl (zin_lit ⟨by omega, by omega⟩) dX13_stop_174 (fun H locs hP hD hS => ?_)
            obtain ⟨f_174, e_f_174⟩ : ∃ z : Nat → Int32, z = upd f13 (r15_ : Int32).toNatClampNeg z173 := ⟨_, rfl⟩
            have hP : va_P (dC, dI) vwCl [(h0, .inr (13, mX13 q0 (upd (upd (upd (upd v0 1 (u6_ 0)) 16 z117) 20 (u6_ 1)) 21 0))), ((q0 0), zi k1 600 f1), ((q0 19), zi k15 12 (a6_ 0)), ((q0 15), zi k13 10 f_174), ((q0 14), zi k12 120 (a123_ 0))] H := by rw [e_f_174]; exact hP
            have hD : va_D A [(h0, .inr (13, mX13 q0 (upd (upd (upd (upd v0 1 (u6_ 0)) 16 z117) 20 (u6_ 1)) 21 0))), ((q0 0), zi k1 600 f1), ((q0 19), zi k15 12 (a6_ 0)), ((q0 15), zi k13 10 f_174), ((q0 14), zi k12 120 (a123_ 0))] := by rw [e_f_174]; exact hD
            have hf_174 : zA 0 12 f_174 := by rw [e_f_174]; exact zA_upd hf13 (show 0 ≤ (z173 : Int32).toInt from by omega) (show (z173 : Int32).toInt ≤ 12 from by omega)
            refine lv_aload_n hx hb dX13_stop_175 rfl (lv_at hl 0 rfl) ?_
            refine va_get (D := (dC, dI)) (ci := 13) (v := .int z117) (C := RX13) (T := TX13) (N := 75) hx hb hG zuX13 hown hK hP 0 rfl rfl 16 (by decide) (hG _ zv1620) (fun _ h9 => h9) rfl dX13_stop_176 ?_
            refine W.widen (k := 0) (n := 0) (by decide) (by decide) ?_
            have hpost : ((-2) ≤ z117.toInt ∧ z117.toInt ≤ 10) ∧ (0 ≤ (u6_ 0).toInt ∧ (u6_ 0).toInt ≤ 0) ∧ (0 ≤ z117.toInt ∧ z117.toInt ≤ 10) ∧ (0 ≤ (u6_ 1).toInt ∧ (u6_ 1).toInt ≤ 12) ∧ (0 ≤ (0 : Int32).toInt ∧ (0 : Int32).toInt ≤ 0) ∧ (z117.toInt = z117.toInt) := ⟨(by first | with_reducible assumption | exact ⟨by omega, by omega⟩), (by first | with_reducible assumption | exact ⟨by omega, by omega⟩), (by first | with_reducible assumption | exact ⟨by omega, by omega⟩), (by first | with_reducible assumption | exact ⟨by omega, by omega⟩), (by first | with_reducible assumption | exact ⟨by omega, by omega⟩), rfl⟩
            have hP9 : va_P (dC, dI) vwCl [(h0, .inr (13, mX13 q0 (upd (upd (upd (upd v0 1 (u6_ 0)) 16 z117) 20 (u6_ 1)) 21 0))), ((q0 0), zi k1 600 f1), ((q0 19), zi k15 12 (a6_ 0)), ((q0 15), zi k13 10 f_174), ((q0 14), zi k12 120 (a123_ 0))] H := hP
            have hD9 : va_D A [(h0, .inr (13, mX13 q0 (upd (upd (upd (upd v0 1 (u6_ 0)) 16 z117) 20 (u6_ 1)) 21 0))), ((q0 0), zi k1 600 f1), ((q0 19), zi k15 12 (a6_ 0)), ((q0 15), zi k13 10 f_174), ((q0 14), zi k12 120 (a123_ 0))] := hD
            have hB0 : zMs f12 f13 (v0 16).toInt → zMs (a123_ 0) f_174 z117.toInt ∧ ∃ x : Int, zFW f1 (v0 1).toInt x ∧ zStp x1.toInt x (v0 16).toInt z117.toInt z117.toInt (zQ f12 f13 (v0 16).toInt) (zQ (a123_ 0) f_174 z117.toInt) := by first | exact zsp1 (hX6_0 (by omega)) (by omega) (by omega) | exact zsp2 (hB6_0 (by omega)) hX15_1 (by omega) (by omega) (by omega) (by omega) (by omega) | exact zsp3 (hB6_0 (by omega)) hX15_1 (by omega) (by omega) (by omega) (by omega) (by omega) (by omega) (zC_e hI42_0 rfl (by omega)) e_f_88 (by omega) (by omega) | exact zsp6 (hB6_0 (by omega)) hX15_1 (by omega) (by omega) (by omega) (by omega) (zC_e hI123_0 rfl (by omega)) e_f_174 e_z173 (by omega) | exact zsp4 (hB6_0 (by omega)) hX15_1 (by omega) (by omega) (by omega)
            exact W.iret (v := z117) hx hb hr (fun t ht hW => ⟨⟨z117, (fun i => ([(u6_ 0), z117, (u6_ 1), 0, z117] : List (Int32)).getD i 0), rfl, hpost, (fun _ => 0), (fun i => ([(a6_ 0), f_174, (a123_ 0)] : List (Nat → Int32)).getD i (fun _ => 0)), (fun _ => (fun _ => 0)), hf_174, hB0, by rw [ht]; exact hP9, va_K.moved hW.alike hK, hD9⟩, hS.F ht⟩) hS.2.2 dX13_stop_179
          · skip
            have b_ := zF_ge rfl zk_12 c_
            refine lv_aload_n hx hb dX13_stop_129 rfl (lv_at hl 0 rfl) ?_
            refine va_get (D := (dC, dI)) (ci := 13) (v := .ref (q0 14)) (C := RX13) (T := TX13) (N := 75) hx hb hG zuX13 hown hK hP 0 rfl rfl 14 (by decide) (hG _ zv1618) (fun _ h9 => h9) rfl dX13_stop_130 ?_
            refine lv_bipush (v := 12) hx hb dX13_stop_133 (by decide) ?_
            refine lv_iload_n hx hb dX13_stop_135 rfl (lv_at hl 2 rfl) ?_
            refine lv_imul hx hb dX13_stop_136 ?_
            refine lv_topi (fun z136 e_z136 => ?_)
            have b_ := zmul zk_12 rfl e_z136 (by omega) (by omega)
            refine lv_iload_n hx hb dX13_stop_137 rfl (lv_at hl 3 rfl) ?_
            refine lv_iadd hx hb dX13_stop_138 ?_
            refine lv_topi (fun z138 e_z138 => ?_)
            have b_ := zadd rfl rfl e_z138 (by omega) (by omega)
            refine lv_aload_n hx hb dX13_stop_139 rfl (lv_at hl 0 rfl) ?_
            refine va_get (D := (dC, dI)) (ci := 13) (v := .ref (q0 14)) (C := RX13) (T := TX13) (N := 75) hx hb hG zuX13 hown hK hP 0 rfl rfl 14 (by decide) (hG _ zv1618) (fun _ h9 => h9) rfl dX13_stop_140 ?_
            refine lv_bipush (v := 12) hx hb dX13_stop_143 (by decide) ?_
            refine lv_aload_n hx hb dX13_stop_145 rfl (lv_at hl 0 rfl) ?_
            refine va_get (D := (dC, dI)) (ci := 13) (v := .int z117) (C := RX13) (T := TX13) (N := 75) hx hb hG zuX13 hown hK hP 0 rfl rfl 16 (by decide) (hG _ zv1620) (fun _ h9 => h9) rfl dX13_stop_146 ?_
            refine lv_imul hx hb dX13_stop_149 ?_
            refine lv_topi (fun z149 e_z149 => ?_)
            have b_ := zmul zk_12 rfl e_z149 (by omega) (by omega)
            refine lv_iload_n hx hb dX13_stop_150 rfl (lv_at hl 3 rfl) ?_
            refine lv_iadd hx hb dX13_stop_151 ?_
            refine lv_topi (fun z151 e_z151 => ?_)
            have b_ := zadd rfl rfl e_z151 (by omega) (by omega)
            refine va_bald hx hb hK hP 4 3 rfl rfl (zin_lit ⟨by omega, by omega⟩) dX13_stop_152 ?_
            refine lv_topi (fun z152 e_z152 => ?_)
            refine va_bast hx hb hK hP hD hS 4 3 rfl rfl (zin_lit ⟨by omega, by omega⟩) dX13_stop_153 (fun H locs hP hD hS => ?_)
            obtain ⟨f_153, e_f_153⟩ : ∃ z : Nat → Int32, z = upd (a123_ 0) (z138 : Int32).toNatClampNeg (vp_nar .byte z152) := ⟨_, rfl⟩
            have hP : va_P (dC, dI) vwCl [(h0, .inr (13, mX13 q0 (upd (upd (upd (upd v0 1 (u6_ 0)) 16 z117) 20 (u6_ 1)) 21 0))), ((q0 0), zi k1 600 f1), ((q0 19), zi k15 12 (a6_ 0)), ((q0 15), zi k13 10 f13), ((q0 14), zi k12 120 f_153)] H := by rw [e_f_153]; exact hP
            have hD : va_D A [(h0, .inr (13, mX13 q0 (upd (upd (upd (upd v0 1 (u6_ 0)) 16 z117) 20 (u6_ 1)) 21 0))), ((q0 0), zi k1 600 f1), ((q0 19), zi k15 12 (a6_ 0)), ((q0 15), zi k13 10 f13), ((q0 14), zi k12 120 f_153)] := by rw [e_f_153]; exact hD
            obtain ⟨z154, e_z154⟩ : ∃ z : Int32, z = (u123_ 0) + Int32.ofInt 1 := ⟨_, rfl⟩
            have b_ := zadd (x := (u123_ 0)) (y := Int32.ofInt 1) rfl (show (Int32.ofInt 1).toInt = 1 from by decide) e_z154 (by omega) (by omega)
            refine lv_iinc (v := z154) (lv' := [(3, .int z154), (0, .ref h0), (1, .int x1), (2, .int r15_)]) hx hb dX13_stop_154 hl (k := 3) rfl e_z154.symm (by decide) rfl (fun ls hl => ?_)
            refine lv_goto (tgt := 123) hx hb dX13_stop_157 (by decide) ?_
            have hc : va_P (dC, dI) vwCl [(h0, .inr (13, mX13 q0 (upd (upd (upd (upd v0 1 (u6_ 0)) 16 z117) 20 (u6_ 1)) 21 0))), ((q0 0), zi k1 600 f1), ((q0 19), zi k15 12 (a6_ 0)), ((q0 15), zi k13 10 f13), ((q0 14), zi k12 120 f_153)] H ∧ va_D A [(h0, .inr (13, mX13 q0 (upd (upd (upd (upd v0 1 (u6_ 0)) 16 z117) 20 (u6_ 1)) 21 0))), ((q0 0), zi k1 600 f1), ((q0 19), zi k15 12 (a6_ 0)), ((q0 15), zi k13 10 f13), ((q0 14), zi k12 120 f_153)] ∧ va_S A s.heap H locs ∧ lv_has ls 4 [(0, .ref h0), (1, .int x1), (2, .int r15_), (3, .int z154)] ∧ (0 ≤ z154.toInt ∧ z154.toInt ≤ 12) ∧ (zC f12 f_153 (fun i => f12 ((12 * z117.toInt).toNat + i)) (12 * r15_.toInt) z154.toInt) := ⟨hP, hD, hS, lv_sub hl [1, 2, 3, 0] rfl, (by first | with_reducible assumption | exact ⟨by omega, by omega⟩), by first | exact zC_0 (by omega) | (rw [e_f_153]; exact zC_t (by assumption) e_z152 (by omega) (by omega) (by omega) (by omega) (by omega) (by omega) (by omega) (by omega))⟩
            exact hJ123 H locs ls (fun i => ([z154] : List (Int32)).getD i 0) (fun _ => 0) (fun i => ([f_153] : List (Nat → Int32)).getD i (fun _ => 0)) (fun _ => (fun _ => 0)) hc (show (12 - z154.toInt).toNat < (12 - (u123_ 0).toInt).toNat from by omega)
        · skip
          have hc : va_P (dC, dI) vwCl [(h0, .inr (13, mX13 q0 (upd (upd (upd (upd v0 1 (u6_ 0)) 16 z117) 20 (u6_ 1)) 21 0))), ((q0 0), zi k1 600 f1), ((q0 19), zi k15 12 (a6_ 0)), ((q0 15), zi k13 10 f13), ((q0 14), zi k12 120 f12)] H ∧ va_D A [(h0, .inr (13, mX13 q0 (upd (upd (upd (upd v0 1 (u6_ 0)) 16 z117) 20 (u6_ 1)) 21 0))), ((q0 0), zi k1 600 f1), ((q0 19), zi k15 12 (a6_ 0)), ((q0 15), zi k13 10 f13), ((q0 14), zi k12 120 f12)] ∧ va_S A s.heap H locs ∧ lv_has ls 4 [(0, .ref h0), (1, .int x1), (2, .int r15_), (3, .int 0)] ∧ (0 ≤ (0 : Int32).toInt ∧ (0 : Int32).toInt ≤ 12) ∧ (zC f12 f12 (fun i => f12 ((12 * z117.toInt).toNat + i)) (12 * r15_.toInt) (0 : Int32).toInt) := ⟨hP, hD, hS, lv_sub hl [2, 3, 1, 0] rfl, (by first | with_reducible assumption | exact ⟨by omega, by omega⟩), by first | exact zC_0 (by omega) | (rw [e_f_153]; exact zC_t (by assumption) e_z152 (by omega) (by omega) (by omega) (by omega) (by omega) (by omega) (by omega) (by omega))⟩
          exact hJ123 H locs ls (fun i => ([0] : List (Int32)).getD i 0) (fun _ => 0) (fun i => ([f12] : List (Nat → Int32)).getD i (fun _ => 0)) (fun _ => (fun _ => 0)) hc
    · skip
      have b_ := zF_eq rfl zk_0 c_
      refine lv_iload_n hx hb dX13_stop_23 rfl (lv_at hl 0 rfl) ?_
      refine lv_iconst (v := (-1)) hx hb dX13_stop_24 (by decide) ?_
      refine lv_icmp_ne (tgt := 102) hx hb dX13_stop_25 (by decide) (fun c_ => ?_) (fun c_ => ?_)
      · skip
        have b_ := zT_ne rfl zk_m1 c_
        refine lv_iload_n hx hb dX13_stop_102 rfl (lv_at hl 2 rfl) ?_
        refine lv_if_ne (tgt := 175) hx hb dX13_stop_103 (by decide) (fun c_ => ?_) (fun c_ => False.elim (by have b_ := zF_ne rfl zk_0 c_; omega))
        have b_ := zT_ne rfl zk_0 c_
        refine lv_aload_n hx hb dX13_stop_175 rfl (lv_at hl 1 rfl) ?_
        have b_ : 0 ≤ (v0 16).toInt ∧ (v0 16).toInt ≤ 10 := hv0 16
        refine va_get (D := (dC, dI)) (ci := 13) (v := .int (v0 16)) (C := RX13) (T := TX13) (N := 75) hx hb hG zuX13 hown hK hP 0 rfl rfl 16 (by decide) (hG _ zv1620) (fun _ h9 => h9) rfl dX13_stop_176 ?_
        refine W.widen (k := 0) (n := 0) (by decide) (by decide) ?_
        have hpost : ((-2) ≤ (v0 16).toInt ∧ (v0 16).toInt ≤ 10) ∧ (0 ≤ (u6_ 0).toInt ∧ (u6_ 0).toInt ≤ 0) ∧ (0 ≤ (v0 16).toInt ∧ (v0 16).toInt ≤ 10) ∧ (0 ≤ (u6_ 1).toInt ∧ (u6_ 1).toInt ≤ 12) ∧ (0 ≤ (0 : Int32).toInt ∧ (0 : Int32).toInt ≤ 0) ∧ ((v0 16).toInt = (v0 16).toInt) := ⟨(by first | with_reducible assumption | exact ⟨by omega, by omega⟩), (by first | with_reducible assumption | exact ⟨by omega, by omega⟩), (by first | with_reducible assumption | exact ⟨by omega, by omega⟩), (by first | with_reducible assumption | exact ⟨by omega, by omega⟩), (by first | with_reducible assumption | exact ⟨by omega, by omega⟩), rfl⟩
        have hP9 : va_P (dC, dI) vwCl [(h0, .inr (13, mX13 q0 (upd (upd (upd (upd v0 1 (u6_ 0)) 16 (v0 16)) 20 (u6_ 1)) 21 0))), ((q0 0), zi k1 600 f1), ((q0 19), zi k15 12 (a6_ 0)), ((q0 15), zi k13 10 f13), ((q0 14), zi k12 120 f12)] H := hP
        have hD9 : va_D A [(h0, .inr (13, mX13 q0 (upd (upd (upd (upd v0 1 (u6_ 0)) 16 (v0 16)) 20 (u6_ 1)) 21 0))), ((q0 0), zi k1 600 f1), ((q0 19), zi k15 12 (a6_ 0)), ((q0 15), zi k13 10 f13), ((q0 14), zi k12 120 f12)] := hD
        have hB0 : zMs f12 f13 (v0 16).toInt → zMs f12 f13 (v0 16).toInt ∧ ∃ x : Int, zFW f1 (v0 1).toInt x ∧ zStp x1.toInt x (v0 16).toInt (v0 16).toInt (v0 16).toInt (zQ f12 f13 (v0 16).toInt) (zQ f12 f13 (v0 16).toInt) := by first | exact zsp1 (hX6_0 (by omega)) (by omega) (by omega) | exact zsp2 (hB6_0 (by omega)) hX15_1 (by omega) (by omega) (by omega) (by omega) (by omega) | exact zsp3 (hB6_0 (by omega)) hX15_1 (by omega) (by omega) (by omega) (by omega) (by omega) (by omega) (zC_e hI42_0 rfl (by omega)) e_f_88 (by omega) (by omega) | exact zsp6 (hB6_0 (by omega)) hX15_1 (by omega) (by omega) (by omega) (by omega) (zC_e hI123_0 rfl (by omega)) e_f_174 e_z173 (by omega) | exact zsp4 (hB6_0 (by omega)) hX15_1 (by omega) (by omega) (by omega)
        exact W.iret (v := (v0 16)) hx hb hr (fun t ht hW => ⟨⟨(v0 16), (fun i => ([(u6_ 0), (v0 16), (u6_ 1), 0, (v0 16)] : List (Int32)).getD i 0), rfl, hpost, (fun _ => 0), (fun i => ([(a6_ 0), f13, f12] : List (Nat → Int32)).getD i (fun _ => 0)), (fun _ => (fun _ => 0)), hf13, hB0, by rw [ht]; exact hP9, va_K.moved hW.alike hK, hD9⟩, hS.F ht⟩) hS.2.2 dX13_stop_179
      · skip
        have b_ := zF_ne rfl zk_m1 c_
        refine lv_aload_n hx hb dX13_stop_28 rfl (lv_at hl 1 rfl) ?_
        have b_ : 0 ≤ (v0 16).toInt ∧ (v0 16).toInt ≤ 10 := hv0 16
        refine va_get (D := (dC, dI)) (ci := 13) (v := .int (v0 16)) (C := RX13) (T := TX13) (N := 75) hx hb hG zuX13 hown hK hP 0 rfl rfl 16 (by decide) (hG _ zv1620) (fun _ h9 => h9) rfl dX13_stop_29 ?_
        refine lv_bipush (v := 10) hx hb dX13_stop_32 (by decide) ?_
        refine lv_icmp_ne (tgt := 40) hx hb dX13_stop_34 (by decide) (fun c_ => ?_) (fun c_ => ?_)
        · skip
          have b_ := zT_ne rfl zk_10 c_
          refine lv_iconst (v := 0) hx hb dX13_stop_40 (by decide) ?_
          refine lv_istore_n (lv' := [(3, .int 0), (2, .int r15_), (0, .ref h0), (1, .int x1)]) hx hb dX13_stop_41 rfl hl (by decide) rfl (fun ls hl => ?_)
          refine zcutL (fun u42_ => (12 - (u42_ 0).toInt).toNat) (fun H locs ls u42_ w42_ a42_ b42_ => va_P (dC, dI) vwCl [(h0, .inr (13, mX13 q0 (upd (upd (upd v0 1 (u6_ 0)) 20 (u6_ 1)) 21 0))), ((q0 0), zi k1 600 f1), ((q0 19), zi k15 12 (a6_ 0)), ((q0 15), zi k13 10 f13), ((q0 14), zi k12 120 (a42_ 0))] H ∧ va_D A [(h0, .inr (13, mX13 q0 (upd (upd (upd v0 1 (u6_ 0)) 20 (u6_ 1)) 21 0))), ((q0 0), zi k1 600 f1), ((q0 19), zi k15 12 (a6_ 0)), ((q0 15), zi k13 10 f13), ((q0 14), zi k12 120 (a42_ 0))] ∧ va_S A s.heap H locs ∧ lv_has ls 4 [(0, .ref h0), (1, .int x1), (2, .int r15_), (3, .int (u42_ 0))] ∧ (0 ≤ (u42_ 0).toInt ∧ (u42_ 0).toInt ≤ 12) ∧ (zC f12 (a42_ 0) (a6_ 0) (12 * (v0 16).toInt) (u42_ 0).toInt) ∧ ((u42_ 0).toInt ≤ (u6_ 1).toInt)) (fun ls u42_ w42_ => F0 m 42 ls []) 0 0 ?_ (fun hJ42 => ?_)
          · skip
            intro H locs ls u42_ w42_ a42_ b42_ hc hJ42
            obtain ⟨hP, hD, hS, hl, b_, hI42_0, b_⟩ := hc
            refine lv_iload_n hx hb dX13_stop_42 rfl (lv_at hl 3 rfl) ?_
            refine lv_aload_n hx hb dX13_stop_43 rfl (lv_at hl 0 rfl) ?_
            refine va_get (D := (dC, dI)) (ci := 13) (v := .int (u6_ 1)) (C := RX13) (T := TX13) (N := 75) hx hb hG zuX13 hown hK hP 0 rfl rfl 20 (by decide) (hG _ zv1624) (fun _ h9 => h9) rfl dX13_stop_44 ?_
            refine lv_icmp_ge (tgt := 76) hx hb dX13_stop_47 (by decide) (fun c_ => ?_) (fun c_ => ?_)
            · skip
              have b_ := zT_ge rfl rfl c_
              refine lv_aload_n hx hb dX13_stop_76 rfl (lv_at hl 0 rfl) ?_
              refine va_get (D := (dC, dI)) (ci := 13) (v := .ref (q0 15)) (C := RX13) (T := TX13) (N := 75) hx hb hG zuX13 hown hK hP 0 rfl rfl 15 (by decide) (hG _ zv1619) (fun _ h9 => h9) rfl dX13_stop_77 ?_
              refine lv_aload_n hx hb dX13_stop_80 rfl (lv_at hl 0 rfl) ?_
              refine va_get (D := (dC, dI)) (ci := 13) (v := .int (v0 16)) (C := RX13) (T := TX13) (N := 75) hx hb hG zuX13 hown hK hP 0 rfl rfl 16 (by decide) (hG _ zv1620) (fun _ h9 => h9) rfl dX13_stop_81 ?_
              refine lv_aload_n hx hb dX13_stop_84 rfl (lv_at hl 0 rfl) ?_
              refine va_get (D := (dC, dI)) (ci := 13) (v := .int (u6_ 1)) (C := RX13) (T := TX13) (N := 75) hx hb hG zuX13 hown hK hP 0 rfl rfl 20 (by decide) (hG _ zv1624) (fun _ h9 => h9) rfl dX13_stop_85 ?_
              refine va_iast hx hb hK hP hD hS 3 2 rfl rfl (zin_lit ⟨by omega, by omega⟩) dX13_stop_88 (fun H locs hP hD hS => ?_)
              obtain ⟨f_88, e_f_88⟩ : ∃ z : Nat → Int32, z = upd f13 ((v0 16) : Int32).toNatClampNeg (u6_ 1) := ⟨_, rfl⟩
              have hP : va_P (dC, dI) vwCl [(h0, .inr (13, mX13 q0 (upd (upd (upd v0 1 (u6_ 0)) 20 (u6_ 1)) 21 0))), ((q0 0), zi k1 600 f1), ((q0 19), zi k15 12 (a6_ 0)), ((q0 15), zi k13 10 f_88), ((q0 14), zi k12 120 (a42_ 0))] H := by rw [e_f_88]; exact hP
              have hD : va_D A [(h0, .inr (13, mX13 q0 (upd (upd (upd v0 1 (u6_ 0)) 20 (u6_ 1)) 21 0))), ((q0 0), zi k1 600 f1), ((q0 19), zi k15 12 (a6_ 0)), ((q0 15), zi k13 10 f_88), ((q0 14), zi k12 120 (a42_ 0))] := by rw [e_f_88]; exact hD
              have hf_88 : zA 0 12 f_88 := by rw [e_f_88]; exact zA_upd hf13 (show 0 ≤ ((u6_ 1) : Int32).toInt from by omega) (show ((u6_ 1) : Int32).toInt ≤ 12 from by omega)
              refine lv_aload_n hx hb dX13_stop_89 rfl (lv_at hl 0 rfl) ?_
              refine lv_dup hx hb dX13_stop_90 rfl ?_
              refine va_get (D := (dC, dI)) (ci := 13) (v := .int (v0 16)) (C := RX13) (T := TX13) (N := 75) hx hb hG zuX13 hown hK hP 0 rfl rfl 16 (by decide) (hG _ zv1620) (fun _ h9 => h9) rfl dX13_stop_91 ?_
              refine lv_iconst (v := 1) hx hb dX13_stop_94 (by decide) ?_
              refine lv_iadd hx hb dX13_stop_95 ?_
              refine lv_topi (fun z95 e_z95 => ?_)
              have b_ := zadd rfl zk_1 e_z95 (by omega) (by omega)
              refine va_put (D := (dC, dI)) (ci := 13) (v := .int z95) (ty := .int) (C := RX13) (T := TX13) (N := 75) hx hb hG zuX13 tyX13 tyX13_ok nmX13 hown hK hP hD hS 0 rfl rfl 16 (by decide) (hG _ zv1620) (fun _ h9 => h9) rfl (by decide +kernel) rfl rfl (Nat.le_of_ble_eq_true rfl) dX13_stop_96 (fun H locs hP hD hS => ?_)
              have hP : va_P (dC, dI) vwCl [(h0, .inr (13, mX13 q0 (upd (upd (upd (upd v0 1 (u6_ 0)) 16 z95) 20 (u6_ 1)) 21 0))), ((q0 0), zi k1 600 f1), ((q0 19), zi k15 12 (a6_ 0)), ((q0 15), zi k13 10 f_88), ((q0 14), zi k12 120 (a42_ 0))] H := hP
              have hD : va_D A [(h0, .inr (13, mX13 q0 (upd (upd (upd (upd v0 1 (u6_ 0)) 16 z95) 20 (u6_ 1)) 21 0))), ((q0 0), zi k1 600 f1), ((q0 19), zi k15 12 (a6_ 0)), ((q0 15), zi k13 10 f_88), ((q0 14), zi k12 120 (a42_ 0))] := hD
              refine lv_goto (tgt := 175) hx hb dX13_stop_99 (by decide) ?_
              refine lv_aload_n hx hb dX13_stop_175 rfl (lv_at hl 0 rfl) ?_
              refine va_get (D := (dC, dI)) (ci := 13) (v := .int z95) (C := RX13) (T := TX13) (N := 75) hx hb hG zuX13 hown hK hP 0 rfl rfl 16 (by decide) (hG _ zv1620) (fun _ h9 => h9) rfl dX13_stop_176 ?_
              refine W.widen (k := 0) (n := 0) (by decide) (by decide) ?_
              have hpost : ((-2) ≤ z95.toInt ∧ z95.toInt ≤ 10) ∧ (0 ≤ (u6_ 0).toInt ∧ (u6_ 0).toInt ≤ 0) ∧ (0 ≤ z95.toInt ∧ z95.toInt ≤ 10) ∧ (0 ≤ (u6_ 1).toInt ∧ (u6_ 1).toInt ≤ 12) ∧ (0 ≤ (0 : Int32).toInt ∧ (0 : Int32).toInt ≤ 0) ∧ (z95.toInt = z95.toInt) := ⟨(by first | with_reducible assumption | exact ⟨by omega, by omega⟩), (by first | with_reducible assumption | exact ⟨by omega, by omega⟩), (by first | with_reducible assumption | exact ⟨by omega, by omega⟩), (by first | with_reducible assumption | exact ⟨by omega, by omega⟩), (by first | with_reducible assumption | exact ⟨by omega, by omega⟩), rfl⟩
              have hP9 : va_P (dC, dI) vwCl [(h0, .inr (13, mX13 q0 (upd (upd (upd (upd v0 1 (u6_ 0)) 16 z95) 20 (u6_ 1)) 21 0))), ((q0 0), zi k1 600 f1), ((q0 19), zi k15 12 (a6_ 0)), ((q0 15), zi k13 10 f_88), ((q0 14), zi k12 120 (a42_ 0))] H := hP
              have hD9 : va_D A [(h0, .inr (13, mX13 q0 (upd (upd (upd (upd v0 1 (u6_ 0)) 16 z95) 20 (u6_ 1)) 21 0))), ((q0 0), zi k1 600 f1), ((q0 19), zi k15 12 (a6_ 0)), ((q0 15), zi k13 10 f_88), ((q0 14), zi k12 120 (a42_ 0))] := hD
              have hB0 : zMs f12 f13 (v0 16).toInt → zMs (a42_ 0) f_88 z95.toInt ∧ ∃ x : Int, zFW f1 (v0 1).toInt x ∧ zStp x1.toInt x (v0 16).toInt z95.toInt z95.toInt (zQ f12 f13 (v0 16).toInt) (zQ (a42_ 0) f_88 z95.toInt) := by first | exact zsp1 (hX6_0 (by omega)) (by omega) (by omega) | exact zsp2 (hB6_0 (by omega)) hX15_1 (by omega) (by omega) (by omega) (by omega) (by omega) | exact zsp3 (hB6_0 (by omega)) hX15_1 (by omega) (by omega) (by omega) (by omega) (by omega) (by omega) (zC_e hI42_0 rfl (by omega)) e_f_88 (by omega) (by omega) | exact zsp6 (hB6_0 (by omega)) hX15_1 (by omega) (by omega) (by omega) (by omega) (zC_e hI123_0 rfl (by omega)) e_f_174 e_z173 (by omega) | exact zsp4 (hB6_0 (by omega)) hX15_1 (by omega) (by omega) (by omega)
              exact W.iret (v := z95) hx hb hr (fun t ht hW => ⟨⟨z95, (fun i => ([(u6_ 0), z95, (u6_ 1), 0, z95] : List (Int32)).getD i 0), rfl, hpost, (fun _ => 0), (fun i => ([(a6_ 0), f_88, (a42_ 0)] : List (Nat → Int32)).getD i (fun _ => 0)), (fun _ => (fun _ => 0)), hf_88, hB0, by rw [ht]; exact hP9, va_K.moved hW.alike hK, hD9⟩, hS.F ht⟩) hS.2.2 dX13_stop_179
            · skip
              have b_ := zF_ge rfl rfl c_
              refine lv_aload_n hx hb dX13_stop_50 rfl (lv_at hl 0 rfl) ?_
              refine va_get (D := (dC, dI)) (ci := 13) (v := .ref (q0 14)) (C := RX13) (T := TX13) (N := 75) hx hb hG zuX13 hown hK hP 0 rfl rfl 14 (by decide) (hG _ zv1618) (fun _ h9 => h9) rfl dX13_stop_51 ?_
              refine lv_bipush (v := 12) hx hb dX13_stop_54 (by decide) ?_
              refine lv_aload_n hx hb dX13_stop_56 rfl (lv_at hl 0 rfl) ?_
              refine va_get (D := (dC, dI)) (ci := 13) (v := .int (v0 16)) (C := RX13) (T := TX13) (N := 75) hx hb hG zuX13 hown hK hP 0 rfl rfl 16 (by decide) (hG _ zv1620) (fun _ h9 => h9) rfl dX13_stop_57 ?_
              refine lv_imul hx hb dX13_stop_60 ?_
              refine lv_topi (fun z60 e_z60 => ?_)
              have b_ := zmul zk_12 rfl e_z60 (by omega) (by omega)
              refine lv_iload_n hx hb dX13_stop_61 rfl (lv_at hl 3 rfl) ?_
              refine lv_iadd hx hb dX13_stop_62 ?_
              refine lv_topi (fun z62 e_z62 => ?_)
              have b_ := zadd rfl rfl e_z62 (by omega) (by omega)
              refine lv_aload_n hx hb dX13_stop_63 rfl (lv_at hl 0 rfl) ?_
              refine va_get (D := (dC, dI)) (ci := 13) (v := .ref (q0 19)) (C := RX13) (T := TX13) (N := 75) hx hb hG zuX13 hown hK hP 0 rfl rfl 19 (by decide) (hG _ zv1623) (fun _ h9 => h9) rfl dX13_stop_64 ?_
              refine lv_iload_n hx hb dX13_stop_67 rfl (lv_at hl 3 rfl) ?_
              refine va_bald hx hb hK hP 2 1 rfl rfl (zin_lit ⟨by omega, by omega⟩) dX13_stop_68 ?_
              refine lv_topi (fun z68 e_z68 => ?_)
              refine va_bast hx hb hK hP hD hS 4 3 rfl rfl (zin_lit ⟨by omega, by omega⟩) dX13_stop_69 (fun H locs hP hD hS => ?_)
              obtain ⟨f_69, e_f_69⟩ : ∃ z : Nat → Int32, z = upd (a42_ 0) (z62 : Int32).toNatClampNeg (vp_nar .byte z68) := ⟨_, rfl⟩
              have hP : va_P (dC, dI) vwCl [(h0, .inr (13, mX13 q0 (upd (upd (upd v0 1 (u6_ 0)) 20 (u6_ 1)) 21 0))), ((q0 0), zi k1 600 f1), ((q0 19), zi k15 12 (a6_ 0)), ((q0 15), zi k13 10 f13), ((q0 14), zi k12 120 f_69)] H := by rw [e_f_69]; exact hP
              have hD : va_D A [(h0, .inr (13, mX13 q0 (upd (upd (upd v0 1 (u6_ 0)) 20 (u6_ 1)) 21 0))), ((q0 0), zi k1 600 f1), ((q0 19), zi k15 12 (a6_ 0)), ((q0 15), zi k13 10 f13), ((q0 14), zi k12 120 f_69)] := by rw [e_f_69]; exact hD
              obtain ⟨z70, e_z70⟩ : ∃ z : Int32, z = (u42_ 0) + Int32.ofInt 1 := ⟨_, rfl⟩
              have b_ := zadd (x := (u42_ 0)) (y := Int32.ofInt 1) rfl (show (Int32.ofInt 1).toInt = 1 from by decide) e_z70 (by omega) (by omega)
              refine lv_iinc (v := z70) (lv' := [(3, .int z70), (0, .ref h0), (1, .int x1), (2, .int r15_)]) hx hb dX13_stop_70 hl (k := 3) rfl e_z70.symm (by decide) rfl (fun ls hl => ?_)
              refine lv_goto (tgt := 42) hx hb dX13_stop_73 (by decide) ?_
              have hc : va_P (dC, dI) vwCl [(h0, .inr (13, mX13 q0 (upd (upd (upd v0 1 (u6_ 0)) 20 (u6_ 1)) 21 0))), ((q0 0), zi k1 600 f1), ((q0 19), zi k15 12 (a6_ 0)), ((q0 15), zi k13 10 f13), ((q0 14), zi k12 120 f_69)] H ∧ va_D A [(h0, .inr (13, mX13 q0 (upd (upd (upd v0 1 (u6_ 0)) 20 (u6_ 1)) 21 0))), ((q0 0), zi k1 600 f1), ((q0 19), zi k15 12 (a6_ 0)), ((q0 15), zi k13 10 f13), ((q0 14), zi k12 120 f_69)] ∧ va_S A s.heap H locs ∧ lv_has ls 4 [(0, .ref h0), (1, .int x1), (2, .int r15_), (3, .int z70)] ∧ (0 ≤ z70.toInt ∧ z70.toInt ≤ 12) ∧ (zC f12 f_69 (a6_ 0) (12 * (v0 16).toInt) z70.toInt) ∧ (z70.toInt ≤ (u6_ 1).toInt) := ⟨hP, hD, hS, lv_sub hl [1, 2, 3, 0] rfl, (by first | with_reducible assumption | exact ⟨by omega, by omega⟩), by first | exact zC_0 (by omega) | (rw [e_f_69]; exact zC_s (by assumption) e_z68 (by omega) (by omega) (by omega) (by omega)), by omega⟩
              exact hJ42 H locs ls (fun i => ([z70] : List (Int32)).getD i 0) (fun _ => 0) (fun i => ([f_69] : List (Nat → Int32)).getD i (fun _ => 0)) (fun _ => (fun _ => 0)) hc (show (12 - z70.toInt).toNat < (12 - (u42_ 0).toInt).toNat from by omega)
          · skip
            have hc : va_P (dC, dI) vwCl [(h0, .inr (13, mX13 q0 (upd (upd (upd v0 1 (u6_ 0)) 20 (u6_ 1)) 21 0))), ((q0 0), zi k1 600 f1), ((q0 19), zi k15 12 (a6_ 0)), ((q0 15), zi k13 10 f13), ((q0 14), zi k12 120 f12)] H ∧ va_D A [(h0, .inr (13, mX13 q0 (upd (upd (upd v0 1 (u6_ 0)) 20 (u6_ 1)) 21 0))), ((q0 0), zi k1 600 f1), ((q0 19), zi k15 12 (a6_ 0)), ((q0 15), zi k13 10 f13), ((q0 14), zi k12 120 f12)] ∧ va_S A s.heap H locs ∧ lv_has ls 4 [(0, .ref h0), (1, .int x1), (2, .int r15_), (3, .int 0)] ∧ (0 ≤ (0 : Int32).toInt ∧ (0 : Int32).toInt ≤ 12) ∧ (zC f12 f12 (a6_ 0) (12 * (v0 16).toInt) (0 : Int32).toInt) ∧ ((0 : Int32).toInt ≤ (u6_ 1).toInt) := ⟨hP, hD, hS, lv_sub hl [2, 3, 1, 0] rfl, (by first | with_reducible assumption | exact ⟨by omega, by omega⟩), by first | exact zC_0 (by omega) | (rw [e_f_69]; exact zC_s (by assumption) e_z68 (by omega) (by omega) (by omega) (by omega)), by omega⟩
            exact hJ42 H locs ls (fun i => ([0] : List (Int32)).getD i 0) (fun _ => 0) (fun i => ([f12] : List (Nat → Int32)).getD i (fun _ => 0)) (fun _ => (fun _ => 0)) hc
        · skip
          have b_ := zF_ne rfl zk_10 c_
          refine lv_bipush (v := (-2)) hx hb dX13_stop_37 (by decide) ?_
          refine W.widen (k := 0) (n := 0) (by decide) (by decide) ?_
          have hpost : ((-2) ≤ ((-2) : Int32).toInt ∧ ((-2) : Int32).toInt ≤ 10) ∧ (0 ≤ (u6_ 0).toInt ∧ (u6_ 0).toInt ≤ 0) ∧ (0 ≤ (v0 16).toInt ∧ (v0 16).toInt ≤ 10) ∧ (0 ≤ (u6_ 1).toInt ∧ (u6_ 1).toInt ≤ 12) ∧ (0 ≤ (0 : Int32).toInt ∧ (0 : Int32).toInt ≤ 0) ∧ (((-2) : Int32).toInt = ((-2) : Int32).toInt) := ⟨(by first | with_reducible assumption | exact ⟨by omega, by omega⟩), (by first | with_reducible assumption | exact ⟨by omega, by omega⟩), (by first | with_reducible assumption | exact ⟨by omega, by omega⟩), (by first | with_reducible assumption | exact ⟨by omega, by omega⟩), (by first | with_reducible assumption | exact ⟨by omega, by omega⟩), rfl⟩
          have hP9 : va_P (dC, dI) vwCl [(h0, .inr (13, mX13 q0 (upd (upd (upd (upd v0 1 (u6_ 0)) 16 (v0 16)) 20 (u6_ 1)) 21 0))), ((q0 0), zi k1 600 f1), ((q0 19), zi k15 12 (a6_ 0)), ((q0 15), zi k13 10 f13), ((q0 14), zi k12 120 f12)] H := hP
          have hD9 : va_D A [(h0, .inr (13, mX13 q0 (upd (upd (upd (upd v0 1 (u6_ 0)) 16 (v0 16)) 20 (u6_ 1)) 21 0))), ((q0 0), zi k1 600 f1), ((q0 19), zi k15 12 (a6_ 0)), ((q0 15), zi k13 10 f13), ((q0 14), zi k12 120 f12)] := hD
          have hB0 : zMs f12 f13 (v0 16).toInt → zMs f12 f13 (v0 16).toInt ∧ ∃ x : Int, zFW f1 (v0 1).toInt x ∧ zStp x1.toInt x (v0 16).toInt (v0 16).toInt ((-2) : Int32).toInt (zQ f12 f13 (v0 16).toInt) (zQ f12 f13 (v0 16).toInt) := by first | exact zsp1 (hX6_0 (by omega)) (by omega) (by omega) | exact zsp2 (hB6_0 (by omega)) hX15_1 (by omega) (by omega) (by omega) (by omega) (by omega) | exact zsp3 (hB6_0 (by omega)) hX15_1 (by omega) (by omega) (by omega) (by omega) (by omega) (by omega) (zC_e hI42_0 rfl (by omega)) e_f_88 (by omega) (by omega) | exact zsp6 (hB6_0 (by omega)) hX15_1 (by omega) (by omega) (by omega) (by omega) (zC_e hI123_0 rfl (by omega)) e_f_174 e_z173 (by omega) | exact zsp4 (hB6_0 (by omega)) hX15_1 (by omega) (by omega) (by omega)
          exact W.iret (v := (-2)) hx hb hr (fun t ht hW => ⟨⟨(-2), (fun i => ([(u6_ 0), (v0 16), (u6_ 1), 0, (-2)] : List (Int32)).getD i 0), rfl, hpost, (fun _ => 0), (fun i => ([(a6_ 0), f13, f12] : List (Nat → Int32)).getD i (fun _ => 0)), (fun _ => (fun _ => 0)), hf13, hB0, by rw [ht]; exact hP9, va_K.moved hW.alike hK, hD9⟩, hS.F ht⟩) hS.2.2 dX13_stop_39
  · skip
    have b_ := zF_ne rfl zk_0 c_
    refine lv_iconst (v := (-1)) hx hb dX13_stop_12 (by decide) ?_
    refine W.widen (k := 0) (n := 0) (by decide) (by decide) ?_
    have b_ : 0 ≤ (v0 16).toInt ∧ (v0 16).toInt ≤ 10 := hv0 16
    have hpost : ((-2) ≤ ((-1) : Int32).toInt ∧ ((-1) : Int32).toInt ≤ 10) ∧ (0 ≤ (u6_ 0).toInt ∧ (u6_ 0).toInt ≤ 0) ∧ (0 ≤ (v0 16).toInt ∧ (v0 16).toInt ≤ 10) ∧ (0 ≤ (u6_ 1).toInt ∧ (u6_ 1).toInt ≤ 12) ∧ (0 ≤ (0 : Int32).toInt ∧ (0 : Int32).toInt ≤ 0) ∧ (((-1) : Int32).toInt = ((-1) : Int32).toInt) := ⟨(by first | with_reducible assumption | exact ⟨by omega, by omega⟩), (by first | with_reducible assumption | exact ⟨by omega, by omega⟩), (by first | with_reducible assumption | exact ⟨by omega, by omega⟩), (by first | with_reducible assumption | exact ⟨by omega, by omega⟩), (by first | with_reducible assumption | exact ⟨by omega, by omega⟩), rfl⟩
    have hP9 : va_P (dC, dI) vwCl [(h0, .inr (13, mX13 q0 (upd (upd (upd (upd v0 1 (u6_ 0)) 16 (v0 16)) 20 (u6_ 1)) 21 0))), ((q0 0), zi k1 600 f1), ((q0 19), zi k15 12 (a6_ 0)), ((q0 15), zi k13 10 f13), ((q0 14), zi k12 120 f12)] H := hP
    have hD9 : va_D A [(h0, .inr (13, mX13 q0 (upd (upd (upd (upd v0 1 (u6_ 0)) 16 (v0 16)) 20 (u6_ 1)) 21 0))), ((q0 0), zi k1 600 f1), ((q0 19), zi k15 12 (a6_ 0)), ((q0 15), zi k13 10 f13), ((q0 14), zi k12 120 f12)] := hD
    have hB0 : zMs f12 f13 (v0 16).toInt → zMs f12 f13 (v0 16).toInt ∧ ∃ x : Int, zFW f1 (v0 1).toInt x ∧ zStp x1.toInt x (v0 16).toInt (v0 16).toInt ((-1) : Int32).toInt (zQ f12 f13 (v0 16).toInt) (zQ f12 f13 (v0 16).toInt) := by first | exact zsp1 (hX6_0 (by omega)) (by omega) (by omega) | exact zsp2 (hB6_0 (by omega)) hX15_1 (by omega) (by omega) (by omega) (by omega) (by omega) | exact zsp3 (hB6_0 (by omega)) hX15_1 (by omega) (by omega) (by omega) (by omega) (by omega) (by omega) (zC_e hI42_0 rfl (by omega)) e_f_88 (by omega) (by omega) | exact zsp6 (hB6_0 (by omega)) hX15_1 (by omega) (by omega) (by omega) (by omega) (zC_e hI123_0 rfl (by omega)) e_f_174 e_z173 (by omega) | exact zsp4 (hB6_0 (by omega)) hX15_1 (by omega) (by omega) (by omega)
    exact W.iret (v := (-1)) hx hb hr (fun t ht hW => ⟨⟨(-1), (fun i => ([(u6_ 0), (v0 16), (u6_ 1), 0, (-1)] : List (Int32)).getD i 0), rfl, hpost, (fun _ => 0), (fun i => ([(a6_ 0), f13, f12] : List (Nat → Int32)).getD i (fun _ => 0)), (fun _ => (fun _ => 0)), hf13, hB0, by rw [ht]; exact hP9, va_K.moved hW.alike hK, hD9⟩, hS.F ht⟩) hS.2.2 dX13_stop_13
set_option maxHeartbeats 8000000 in
set_option maxRecDepth 100000 in
theorem sX13_document_0 (l : Launch) (dC : Nat → ClassId) (dI : Nat → Nat → Nat) (adK adV : Nat → Nat) (h0 : Nat) (q0 : Nat → Nat) (k5 : ClassId) (k7 : ClassId) (k8 : ClassId) (k9 : ClassId) (sz : Nat) (v0 : Nat → Int32) (f5 : Nat → Int32) (f7 : Nat → Int32) (f8 : Nat → Int32) (f9 : Nat → Int32) (x1 : Int32) (x2 : Int32) (hv0 : zR rg_Model v0) (hf7 : zA 0 600 f7) : Met l yX13_document (zw yX13_document cX13_document 3 (some .int)) { frames := 1, cells := 0, slots := 0, locals := 21 } (zPc dC dI adK adV [.ref h0, .int x1, .int x2] sz [(h0, .inr (13, mX13 q0 v0)), ((q0 6), zi k5 120 f5), ((q0 8), zi k7 120 f7), ((q0 9), zi k8 120 f8), ((q0 10), zi k9 120 f9)] [(k5, .boolean), (k7, .int), (k8, .int), (k9, .int)]) (va_Qi (fun (r : Int32) (u : Nat → Int32) => (0 ≤ (u 0).toInt ∧ (u 0).toInt ≤ 1)) (fun (u : Nat → Int32) (t : State) => ∃ (ww : Nat → Int64) (aa : Nat → Nat → Int32) (bb : Nat → Nat → Int64), va_P (dC, dI) vwCl [(h0, .inr (13, mX13 q0 (upd v0 21 (u 0)))), ((q0 6), zi k5 120 f5), ((q0 8), zi k7 120 f7), ((q0 9), zi k8 120 f8), ((q0 10), zi k9 120 f9)] t.heap ∧ va_K (dC, dI) vwCl [(k5, .boolean), (k7, .int), (k8, .int), (k9, .int)] t ∧ va_D (va_A [(h0, .inr (13, mX13 q0 v0)), ((q0 6), zi k5 120 f5), ((q0 8), zi k7 120 f7), ((q0 9), zi k8 120 f8), ((q0 10), zi k9 120 f9)] sz) [(h0, .inr (13, mX13 q0 (upd v0 21 (u 0)))), ((q0 6), zi k5 120 f5), ((q0 8), zi k7 120 f7), ((q0 9), zi k8 120 f8), ((q0 10), zi k9 120 f9)]) (va_A [(h0, .inr (13, mX13 q0 v0)), ((q0 6), zi k5 120 f5), ((q0 8), zi k7 120 f7), ((q0 9), zi k8 120 f8), ((q0 10), zi k9 120 f9)] sz)) 0 0 (va_A [(h0, .inr (13, mX13 q0 v0)), ((q0 6), zi k5 120 f5), ((q0 8), zi k7 120 f7), ((q0 9), zi k8 120 f8), ((q0 10), zi k9 120 f9)] sz) := by
  refine Met.ofW (cc := cX13_document) (maxL := 3) (ret := (some .int)) (by decide) rfl ?_
  intro p e s m args below meth c s₁ B hml hv
  obtain ⟨rfl, hsz, hP, hK, hD0, hE, hZ⟩ := hv
  have hx := B.exec
  have hb := B.bytes
  have hr := B.returns
  have hG : ∀ w ∈ zG, w.before _ s = true := fun w h => atoms_spec (ws := (zw yX13_document cX13_document 3 (some .int))) B.pre w (List.mem_cons_of_mem _ h)
  have hown : s.vm.findClass RX13 = some m.cls := findClass_of_methodNamed B.named
  have hlocks := B.notSynchronized

  subst hsz
  have hD := hD0.self (sz := s.heap.size)
  generalize hAe : va_A [(h0, .inr (13, mX13 q0 v0)), ((q0 6), zi k5 120 f5), ((q0 8), zi k7 120 f7), ((q0 9), zi k8 120 f8), ((q0 10), zi k9 120 f9)] s.heap.size = A at hD hZ ⊢
  have hA : ∀ q : Nat, s.heap.size ≤ q → A q := fun q h => by rw [← hAe]; exact Or.inr h
  have hS : va_S A s.heap s.heap [] := va_S.rf
  have hl := lv_entry ([.ref h0, .int x1, .int x2]) (n := 3) (Nat.le_of_ble_eq_true rfl)
  rw [lg_entry_eq]
  generalize (lg_sl ([.ref h0, .int x1, .int x2]) ++ List.replicate (3 - (lg_sl ([.ref h0, .int x1, .int x2])).length) Slot.unset).toArray = ls at hl ⊢
  have hl : lv_has ls 3 [(0, .ref h0), (1, .int x1), (2, .int x2)] := hl
  have b_ := zk_0
  have b_ := zk_1
  have b_ := zk_2
  have b_ := zk_3
  refine lv_aload_n hx hb dX13_document_0 rfl (lv_at hl 0 rfl) ?_
  refine lv_iconst (v := 0) hx hb dX13_document_1 (by decide) ?_
  refine va_put (D := (dC, dI)) (ci := 13) (v := .int 0) (ty := .int) (C := RX13) (T := TX13) (N := 75) hx hb hG zuX13 tyX13 tyX13_ok nmX13 hown hK hP hD hS 0 rfl rfl 21 (by decide) (hG _ zv1625) (fun _ h9 => h9) rfl (by decide +kernel) rfl rfl (Nat.le_of_ble_eq_true rfl) dX13_document_2 (fun H locs hP hD hS => ?_)
  have hP : va_P (dC, dI) vwCl [(h0, .inr (13, mX13 q0 (upd v0 21 0))), ((q0 6), zi k5 120 f5), ((q0 8), zi k7 120 f7), ((q0 9), zi k8 120 f8), ((q0 10), zi k9 120 f9)] H := hP
  have hD : va_D A [(h0, .inr (13, mX13 q0 (upd v0 21 0))), ((q0 6), zi k5 120 f5), ((q0 8), zi k7 120 f7), ((q0 9), zi k8 120 f8), ((q0 10), zi k9 120 f9)] := hD
  refine lv_aload_n hx hb dX13_document_5 rfl (lv_at hl 0 rfl) ?_
  refine lv_iload_n hx hb dX13_document_6 rfl (lv_at hl 1 rfl) ?_
  have hPc := hP.sub (ws' := [(h0, .inr (13, mX13 q0 (upd v0 21 0)))]) [0] rfl
  have hDc := hD.sub (ws' := [(h0, .inr (13, mX13 q0 (upd v0 21 0)))]) [0] (by decide) rfl
  have hKc := hK.sub (tys' := []) [] rfl
  have hFc := va_free (wc := [(h0, .inr (13, mX13 q0 (upd v0 21 0)))]) hD hS hA [0] rfl
  refine va_calli (va_runV (As := [.int x1]) (rest := []) ⟨hx, hb, hml, hown, hG⟩ (sX13_isThere_0 l dC dI adK adV h0 q0 H.size (upd v0 21 0) x1 (zR_updF hv0 21 rfl)) (cwV 1 hG (zgV zv1931 zv1933 zv64 zv142 zv1934) rfl rfl rfl (by decide +kernel) ⟨Nat.le_of_ble_eq_true rfl, Nat.le_of_ble_eq_true rfl⟩) ⟨zPc_blind, va_recv hKc hPc (ci := 13) (q0 := 0) rfl rfl, zPc_pre hPc hKc hDc hE hS hFc hZ⟩ rfl rfl hl.1 rfl (lv_room (Nat.le_of_ble_eq_true rfl)) dX13_document_7 ⟨Nat.le_of_ble_eq_true rfl, Nat.le_of_ble_eq_true rfl⟩) hS (fun q _ h => hFc q h) hFc (fun r7_ u7_ t H1 locs ht hvm hw hB hz1 hk1 hS => ?_)
  replace hw : (0 ≤ r7_.toInt ∧ r7_.toInt ≤ 1) ∧ (r7_.toInt = 1 → (0 ≤ x1.toInt ∧ x1.toInt ≤ 119)) ∧ (r7_.toInt = 1 → x1.toInt < (v0 13).toInt) ∧ (r7_.toInt = 0 → x1.toInt < 0 ∨ (v0 13).toInt ≤ x1.toInt) := hw
  obtain ⟨b_, hX7_0, hX7_1, hX7_2⟩ := hw
  obtain ⟨w7_, a7_, b7_, hP1, hK1, hD1⟩ := hB
  rw [ht] at hP1
  obtain ⟨hP, hD⟩ := va_join (wr := [((q0 6), zi k5 120 f5), ((q0 8), zi k7 120 f7), ((q0 9), zi k8 120 f8), ((q0 10), zi k9 120 f9)]) (w1 := [(h0, .inr (13, mX13 q0 (upd v0 21 0)))]) hP hD [0] [1, 2, 3, 4] rfl rfl (by decide) (by decide) hk1 hFc hP1 hD1
  have hP : va_P (dC, dI) vwCl [(h0, .inr (13, mX13 q0 (upd v0 21 0))), ((q0 6), zi k5 120 f5), ((q0 8), zi k7 120 f7), ((q0 9), zi k8 120 f8), ((q0 10), zi k9 120 f9)] H1 := hP.sub [4, 0, 1, 2, 3] rfl
  have hD : va_D A [(h0, .inr (13, mX13 q0 (upd v0 21 0))), ((q0 6), zi k5 120 f5), ((q0 8), zi k7 120 f7), ((q0 9), zi k8 120 f8), ((q0 10), zi k9 120 f9)] := hD.sub [4, 0, 1, 2, 3] (by decide) rfl
  generalize H1 = H at hP hS ⊢
  clear hz1
  refine lv_if_ne (tgt := 18) hx hb dX13_document_10 (by decide) (fun c_ => ?_) (fun c_ => ?_)
  · skip
    have b_ := zT_ne rfl zk_0 c_
    refine lv_iload_n hx hb dX13_document_18 rfl (lv_at hl 2 rfl) ?_
    rcases Classical.em (x2 = (0 : Int32)) with c_ | c_
    · skip
      have b_ : x2.toInt = 0 := by rw [c_]; exact zk_0
      refine lv_tableIn (off := 29) (tgt := 48) hx hb dX13_document_19 (by omega) (by omega) (by rw [b_]; decide) (by decide) ?_
      refine lv_aload_n hx hb dX13_document_48 rfl (lv_at hl 0 rfl) ?_
      refine va_get (D := (dC, dI)) (ci := 13) (v := .ref (q0 6)) (C := RX13) (T := TX13) (N := 75) hx hb hG zuX13 hown hK hP 0 rfl rfl 6 (by decide) (hG _ zv1610) (fun _ h9 => h9) rfl dX13_document_49 ?_
      refine lv_iload_n hx hb dX13_document_52 rfl (lv_at hl 1 rfl) ?_
      refine va_zald hx hb hK hP 1 0 rfl rfl (zin_lit ⟨by omega, by omega⟩) dX13_document_53 ?_
      refine lv_topi (fun z53 e_z53 => ?_)
      have b_ : -2147483648 ≤ z53.toInt ∧ z53.toInt ≤ 2147483647 := ⟨zlo _, zhi _⟩
      refine lv_if_eq (tgt := 61) hx hb dX13_document_54 (by decide) (fun c_ => ?_) (fun c_ => ?_)
      · skip
        have b_ := zT_eq rfl zk_0 c_
        refine lv_iconst (v := 0) hx hb dX13_document_61 (by decide) ?_
        refine W.widen (k := 0) (n := 0) (by decide) (by decide) ?_
        have hpost : (0 ≤ (0 : Int32).toInt ∧ (0 : Int32).toInt ≤ 1) := (by first | with_reducible assumption | exact ⟨by omega, by omega⟩)
        have hP9 : va_P (dC, dI) vwCl [(h0, .inr (13, mX13 q0 (upd v0 21 0))), ((q0 6), zi k5 120 f5), ((q0 8), zi k7 120 f7), ((q0 9), zi k8 120 f8), ((q0 10), zi k9 120 f9)] H := hP
        have hD9 : va_D A [(h0, .inr (13, mX13 q0 (upd v0 21 0))), ((q0 6), zi k5 120 f5), ((q0 8), zi k7 120 f7), ((q0 9), zi k8 120 f8), ((q0 10), zi k9 120 f9)] := hD
        exact W.iret (v := 0) hx hb hr (fun t ht hW => ⟨⟨0, (fun i => ([0] : List (Int32)).getD i 0), rfl, hpost, (fun _ => 0), (fun _ => (fun _ => 0)), (fun _ => (fun _ => 0)), by rw [ht]; exact hP9, va_K.moved hW.alike hK, hD9⟩, hS.F ht⟩) hS.2.2 dX13_document_62
      · skip
        have b_ := zF_eq rfl zk_0 c_
        refine lv_iconst (v := 1) hx hb dX13_document_57 (by decide) ?_
        refine lv_goto (tgt := 62) hx hb dX13_document_58 (by decide) ?_
        refine W.widen (k := 0) (n := 0) (by decide) (by decide) ?_
        have hpost : (0 ≤ (0 : Int32).toInt ∧ (0 : Int32).toInt ≤ 1) := (by first | with_reducible assumption | exact ⟨by omega, by omega⟩)
        have hP9 : va_P (dC, dI) vwCl [(h0, .inr (13, mX13 q0 (upd v0 21 0))), ((q0 6), zi k5 120 f5), ((q0 8), zi k7 120 f7), ((q0 9), zi k8 120 f8), ((q0 10), zi k9 120 f9)] H := hP
        have hD9 : va_D A [(h0, .inr (13, mX13 q0 (upd v0 21 0))), ((q0 6), zi k5 120 f5), ((q0 8), zi k7 120 f7), ((q0 9), zi k8 120 f8), ((q0 10), zi k9 120 f9)] := hD
        exact W.iret (v := 1) hx hb hr (fun t ht hW => ⟨⟨1, (fun i => ([0] : List (Int32)).getD i 0), rfl, hpost, (fun _ => 0), (fun _ => (fun _ => 0)), (fun _ => (fun _ => 0)), by rw [ht]; exact hP9, va_K.moved hW.alike hK, hD9⟩, hS.F ht⟩) hS.2.2 dX13_document_62
    · skip
      have b_ : x2.toInt ≠ 0 := fun h => c_ (zeqi.mpr (h.trans zk_0.symm))
      rcases Classical.em (x2 = (1 : Int32)) with c_ | c_
      · skip
        have b_ : x2.toInt = 1 := by rw [c_]; exact zk_1
        refine lv_tableIn (off := 44) (tgt := 63) hx hb dX13_document_19 (by omega) (by omega) (by rw [b_]; decide) (by decide) ?_
        refine lv_aload_n hx hb dX13_document_63 rfl (lv_at hl 0 rfl) ?_
        refine va_get (D := (dC, dI)) (ci := 13) (v := .ref (q0 8)) (C := RX13) (T := TX13) (N := 75) hx hb hG zuX13 hown hK hP 0 rfl rfl 8 (by decide) (hG _ zv1612) (fun _ h9 => h9) rfl dX13_document_64 ?_
        refine lv_iload_n hx hb dX13_document_67 rfl (lv_at hl 1 rfl) ?_
        refine va_iald hx hb hK hP 2 1 rfl rfl (zin_lit ⟨by omega, by omega⟩) dX13_document_68 ?_
        refine lv_topi (fun z68 e_z68 => ?_)
        have b_ : 0 ≤ z68.toInt ∧ z68.toInt ≤ 600 := by rw [e_z68]; exact hf7 _
        refine W.widen (k := 0) (n := 0) (by decide) (by decide) ?_
        have hpost : (0 ≤ (0 : Int32).toInt ∧ (0 : Int32).toInt ≤ 1) := (by first | with_reducible assumption | exact ⟨by omega, by omega⟩)
        have hP9 : va_P (dC, dI) vwCl [(h0, .inr (13, mX13 q0 (upd v0 21 0))), ((q0 6), zi k5 120 f5), ((q0 8), zi k7 120 f7), ((q0 9), zi k8 120 f8), ((q0 10), zi k9 120 f9)] H := hP
        have hD9 : va_D A [(h0, .inr (13, mX13 q0 (upd v0 21 0))), ((q0 6), zi k5 120 f5), ((q0 8), zi k7 120 f7), ((q0 9), zi k8 120 f8), ((q0 10), zi k9 120 f9)] := hD
        exact W.iret (v := z68) hx hb hr (fun t ht hW => ⟨⟨z68, (fun i => ([0] : List (Int32)).getD i 0), rfl, hpost, (fun _ => 0), (fun _ => (fun _ => 0)), (fun _ => (fun _ => 0)), by rw [ht]; exact hP9, va_K.moved hW.alike hK, hD9⟩, hS.F ht⟩) hS.2.2 dX13_document_69
      · skip
        have b_ : x2.toInt ≠ 1 := fun h => c_ (zeqi.mpr (h.trans zk_1.symm))
        rcases Classical.em (x2 = (2 : Int32)) with c_ | c_
        · skip
          have b_ : x2.toInt = 2 := by rw [c_]; exact zk_2
          refine lv_tableIn (off := 51) (tgt := 70) hx hb dX13_document_19 (by omega) (by omega) (by rw [b_]; decide) (by decide) ?_
          refine lv_aload_n hx hb dX13_document_70 rfl (lv_at hl 0 rfl) ?_
          refine va_get (D := (dC, dI)) (ci := 13) (v := .ref (q0 9)) (C := RX13) (T := TX13) (N := 75) hx hb hG zuX13 hown hK hP 0 rfl rfl 9 (by decide) (hG _ zv1613) (fun _ h9 => h9) rfl dX13_document_71 ?_
          refine lv_iload_n hx hb dX13_document_74 rfl (lv_at hl 1 rfl) ?_
          refine va_iald hx hb hK hP 3 2 rfl rfl (zin_lit ⟨by omega, by omega⟩) dX13_document_75 ?_
          refine lv_topi (fun z75 e_z75 => ?_)
          refine W.widen (k := 0) (n := 0) (by decide) (by decide) ?_
          have b_ : -2147483648 ≤ z75.toInt ∧ z75.toInt ≤ 2147483647 := ⟨zlo _, zhi _⟩
          have hpost : (0 ≤ (0 : Int32).toInt ∧ (0 : Int32).toInt ≤ 1) := (by first | with_reducible assumption | exact ⟨by omega, by omega⟩)
          have hP9 : va_P (dC, dI) vwCl [(h0, .inr (13, mX13 q0 (upd v0 21 0))), ((q0 6), zi k5 120 f5), ((q0 8), zi k7 120 f7), ((q0 9), zi k8 120 f8), ((q0 10), zi k9 120 f9)] H := hP
          have hD9 : va_D A [(h0, .inr (13, mX13 q0 (upd v0 21 0))), ((q0 6), zi k5 120 f5), ((q0 8), zi k7 120 f7), ((q0 9), zi k8 120 f8), ((q0 10), zi k9 120 f9)] := hD
          exact W.iret (v := z75) hx hb hr (fun t ht hW => ⟨⟨z75, (fun i => ([0] : List (Int32)).getD i 0), rfl, hpost, (fun _ => 0), (fun _ => (fun _ => 0)), (fun _ => (fun _ => 0)), by rw [ht]; exact hP9, va_K.moved hW.alike hK, hD9⟩, hS.F ht⟩) hS.2.2 dX13_document_76
        · skip
          have b_ : x2.toInt ≠ 2 := fun h => c_ (zeqi.mpr (h.trans zk_2.symm))
          rcases Classical.em (x2 = (3 : Int32)) with c_ | c_
          · skip
            have b_ : x2.toInt = 3 := by rw [c_]; exact zk_3
            refine lv_tableIn (off := 58) (tgt := 77) hx hb dX13_document_19 (by omega) (by omega) (by rw [b_]; decide) (by decide) ?_
            refine lv_aload_n hx hb dX13_document_77 rfl (lv_at hl 0 rfl) ?_
            refine va_get (D := (dC, dI)) (ci := 13) (v := .ref (q0 10)) (C := RX13) (T := TX13) (N := 75) hx hb hG zuX13 hown hK hP 0 rfl rfl 10 (by decide) (hG _ zv1614) (fun _ h9 => h9) rfl dX13_document_78 ?_
            refine lv_iload_n hx hb dX13_document_81 rfl (lv_at hl 1 rfl) ?_
            refine va_iald hx hb hK hP 4 3 rfl rfl (zin_lit ⟨by omega, by omega⟩) dX13_document_82 ?_
            refine lv_topi (fun z82 e_z82 => ?_)
            refine W.widen (k := 0) (n := 0) (by decide) (by decide) ?_
            have b_ : -2147483648 ≤ z82.toInt ∧ z82.toInt ≤ 2147483647 := ⟨zlo _, zhi _⟩
            have hpost : (0 ≤ (0 : Int32).toInt ∧ (0 : Int32).toInt ≤ 1) := (by first | with_reducible assumption | exact ⟨by omega, by omega⟩)
            have hP9 : va_P (dC, dI) vwCl [(h0, .inr (13, mX13 q0 (upd v0 21 0))), ((q0 6), zi k5 120 f5), ((q0 8), zi k7 120 f7), ((q0 9), zi k8 120 f8), ((q0 10), zi k9 120 f9)] H := hP
            have hD9 : va_D A [(h0, .inr (13, mX13 q0 (upd v0 21 0))), ((q0 6), zi k5 120 f5), ((q0 8), zi k7 120 f7), ((q0 9), zi k8 120 f8), ((q0 10), zi k9 120 f9)] := hD
            exact W.iret (v := z82) hx hb hr (fun t ht hW => ⟨⟨z82, (fun i => ([0] : List (Int32)).getD i 0), rfl, hpost, (fun _ => 0), (fun _ => (fun _ => 0)), (fun _ => (fun _ => 0)), by rw [ht]; exact hP9, va_K.moved hW.alike hK, hD9⟩, hS.F ht⟩) hS.2.2 dX13_document_83
          · skip
            have b_ : x2.toInt ≠ 3 := fun h => c_ (zeqi.mpr (h.trans zk_3.symm))
            refine lv_tableOut (tgt := 84) hx hb dX13_document_19 (by omega) (by decide) ?_
            refine lv_iconst (v := (-1)) hx hb dX13_document_84 (by decide) ?_
            refine W.widen (k := 0) (n := 0) (by decide) (by decide) ?_
            have hpost : (0 ≤ (0 : Int32).toInt ∧ (0 : Int32).toInt ≤ 1) := (by first | with_reducible assumption | exact ⟨by omega, by omega⟩)
            have hP9 : va_P (dC, dI) vwCl [(h0, .inr (13, mX13 q0 (upd v0 21 0))), ((q0 6), zi k5 120 f5), ((q0 8), zi k7 120 f7), ((q0 9), zi k8 120 f8), ((q0 10), zi k9 120 f9)] H := hP
            have hD9 : va_D A [(h0, .inr (13, mX13 q0 (upd v0 21 0))), ((q0 6), zi k5 120 f5), ((q0 8), zi k7 120 f7), ((q0 9), zi k8 120 f8), ((q0 10), zi k9 120 f9)] := hD
            exact W.iret (v := (-1)) hx hb hr (fun t ht hW => ⟨⟨(-1), (fun i => ([0] : List (Int32)).getD i 0), rfl, hpost, (fun _ => 0), (fun _ => (fun _ => 0)), (fun _ => (fun _ => 0)), by rw [ht]; exact hP9, va_K.moved hW.alike hK, hD9⟩, hS.F ht⟩) hS.2.2 dX13_document_85
  · skip
    have b_ := zF_ne rfl zk_0 c_
    refine lv_aload_n hx hb dX13_document_13 rfl (lv_at hl 0 rfl) ?_
    have hPc := hP.sub (ws' := [(h0, .inr (13, mX13 q0 (upd v0 21 0)))]) [0] rfl
    have hDc := hD.sub (ws' := [(h0, .inr (13, mX13 q0 (upd v0 21 0)))]) [0] (by decide) rfl
    have hKc := hK.sub (tys' := []) [] rfl
    have hFc := va_free (wc := [(h0, .inr (13, mX13 q0 (upd v0 21 0)))]) hD hS hA [0] rfl
    refine va_calli (va_runV (As := []) (rest := []) ⟨hx, hb, hml, hown, hG⟩ (sX13_refuse_0 l dC dI adK adV h0 q0 H.size (upd v0 21 0) (zR_updF hv0 21 rfl)) (cwV 0 hG (zgV zv1963 zv1965 zv68 zv142 zv1966) rfl rfl rfl (by decide +kernel) ⟨Nat.le_of_ble_eq_true rfl, Nat.le_of_ble_eq_true rfl⟩) ⟨zPc_blind, va_recv hKc hPc (ci := 13) (q0 := 0) rfl rfl, zPc_pre hPc hKc hDc hE hS hFc hZ⟩ rfl rfl hl.1 rfl (lv_room (Nat.le_of_ble_eq_true rfl)) dX13_document_14 ⟨Nat.le_of_ble_eq_true rfl, Nat.le_of_ble_eq_true rfl⟩) hS (fun q _ h => hFc q h) hFc (fun r14_ u14_ t H1 locs ht hvm hw hB hz1 hk1 hS => ?_)
    replace hw : (0 ≤ r14_.toInt ∧ r14_.toInt ≤ 0) ∧ (1 ≤ (u14_ 0).toInt ∧ (u14_ 0).toInt ≤ 1) := hw
    obtain ⟨b_, b_⟩ := hw
    obtain rfl : r14_ = (0 : Int32) := zeqi.mpr ((show r14_.toInt = 0 from by omega).trans zk_0.symm)
    obtain ⟨w14_, a14_, b14_, hP1, hK1, hD1⟩ := hB
    rw [ht] at hP1
    obtain ⟨hP, hD⟩ := va_join (wr := [((q0 6), zi k5 120 f5), ((q0 8), zi k7 120 f7), ((q0 9), zi k8 120 f8), ((q0 10), zi k9 120 f9)]) (w1 := [(h0, .inr (13, mX13 q0 (upd v0 21 (u14_ 0))))]) hP hD [0] [1, 2, 3, 4] rfl rfl (by decide) (by decide) hk1 hFc hP1 hD1
    have hP : va_P (dC, dI) vwCl [(h0, .inr (13, mX13 q0 (upd v0 21 (u14_ 0)))), ((q0 6), zi k5 120 f5), ((q0 8), zi k7 120 f7), ((q0 9), zi k8 120 f8), ((q0 10), zi k9 120 f9)] H1 := hP.sub [4, 0, 1, 2, 3] rfl
    have hD : va_D A [(h0, .inr (13, mX13 q0 (upd v0 21 (u14_ 0)))), ((q0 6), zi k5 120 f5), ((q0 8), zi k7 120 f7), ((q0 9), zi k8 120 f8), ((q0 10), zi k9 120 f9)] := hD.sub [4, 0, 1, 2, 3] (by decide) rfl
    generalize H1 = H at hP hS ⊢
    clear hz1
    refine W.widen (k := 0) (n := 0) (by decide) (by decide) ?_
    have hpost : (0 ≤ (u14_ 0).toInt ∧ (u14_ 0).toInt ≤ 1) := (by first | with_reducible assumption | exact ⟨by omega, by omega⟩)
    have hP9 : va_P (dC, dI) vwCl [(h0, .inr (13, mX13 q0 (upd v0 21 (u14_ 0)))), ((q0 6), zi k5 120 f5), ((q0 8), zi k7 120 f7), ((q0 9), zi k8 120 f8), ((q0 10), zi k9 120 f9)] H := hP
    have hD9 : va_D A [(h0, .inr (13, mX13 q0 (upd v0 21 (u14_ 0)))), ((q0 6), zi k5 120 f5), ((q0 8), zi k7 120 f7), ((q0 9), zi k8 120 f8), ((q0 10), zi k9 120 f9)] := hD
    exact W.iret (v := 0) hx hb hr (fun t ht hW => ⟨⟨0, (fun i => ([(u14_ 0)] : List (Int32)).getD i 0), rfl, hpost, (fun _ => 0), (fun _ => (fun _ => 0)), (fun _ => (fun _ => 0)), by rw [ht]; exact hP9, va_K.moved hW.alike hK, hD9⟩, hS.F ht⟩) hS.2.2 dX13_document_17
set_option maxHeartbeats 8000000 in
set_option maxRecDepth 100000 in
theorem sX13_keepers_0 (l : Launch) (dC : Nat → ClassId) (dI : Nat → Nat → Nat) (adK adV : Nat → Nat) (h0 : Nat) (q0 : Nat → Nat) (k6 : ClassId) (k10 : ClassId) (k4 : ClassId) (k11 : ClassId) (sz : Nat) (v0 : Nat → Int32) (f6 : Nat → Int32) (f10 : Nat → Int32) (f4 : Nat → Int32) (f11 : Nat → Int32) (x1 : Int32) (hv0 : zR rg_Model v0) (hf10 : zA 0 512 f10) (hf4 : zA 0 400 f4) (hf11 : zA 0 512 f11) (hx1 : 0 ≤ x1.toInt ∧ x1.toInt ≤ 399) : Met l yX13_keepers (zw yX13_keepers cX13_keepers 4 (some .int)) { frames := 1, cells := 0, slots := 0, locals := 24 } (zPc dC dI adK adV [.ref h0, .int x1] sz [(h0, .inr (13, mX13 q0 v0)), ((q0 7), zi k6 120 f6), ((q0 11), zi k10 120 f10), ((q0 5), zi k4 122880 f4), ((q0 12), zi k11 120 f11)] [(k6, .boolean), (k10, .int), (k4, .short), (k11, .int)]) (va_Qi (fun (r : Int32) (u : Nat → Int32) => True) (fun (u : Nat → Int32) (t : State) => ∃ (ww : Nat → Int64) (aa : Nat → Nat → Int32) (bb : Nat → Nat → Int64), va_P (dC, dI) vwCl [(h0, .inr (13, mX13 q0 v0)), ((q0 7), zi k6 120 f6), ((q0 11), zi k10 120 f10), ((q0 5), zi k4 122880 f4), ((q0 12), zi k11 120 f11)] t.heap ∧ va_K (dC, dI) vwCl [(k6, .boolean), (k10, .int), (k4, .short), (k11, .int)] t ∧ va_D (va_A [(h0, .inr (13, mX13 q0 v0)), ((q0 7), zi k6 120 f6), ((q0 11), zi k10 120 f10), ((q0 5), zi k4 122880 f4), ((q0 12), zi k11 120 f11)] sz) [(h0, .inr (13, mX13 q0 v0)), ((q0 7), zi k6 120 f6), ((q0 11), zi k10 120 f10), ((q0 5), zi k4 122880 f4), ((q0 12), zi k11 120 f11)]) (va_A [(h0, .inr (13, mX13 q0 v0)), ((q0 7), zi k6 120 f6), ((q0 11), zi k10 120 f10), ((q0 5), zi k4 122880 f4), ((q0 12), zi k11 120 f11)] sz)) 0 0 (va_A [(h0, .inr (13, mX13 q0 v0)), ((q0 7), zi k6 120 f6), ((q0 11), zi k10 120 f10), ((q0 5), zi k4 122880 f4), ((q0 12), zi k11 120 f11)] sz) := by
  refine Met.ofW (cc := cX13_keepers) (maxL := 4) (ret := (some .int)) (by decide) rfl ?_
  intro p e s m args below meth c s₁ B hml hv
  obtain ⟨rfl, hsz, hP, hK, hD0, hE, hZ⟩ := hv
  have hx := B.exec
  have hb := B.bytes
  have hr := B.returns
  have hG : ∀ w ∈ zG, w.before _ s = true := fun w h => atoms_spec (ws := (zw yX13_keepers cX13_keepers 4 (some .int))) B.pre w (List.mem_cons_of_mem _ h)
  have hown : s.vm.findClass RX13 = some m.cls := findClass_of_methodNamed B.named
  have hlocks := B.notSynchronized

  subst hsz
  have hD := hD0.self (sz := s.heap.size)
  generalize hAe : va_A [(h0, .inr (13, mX13 q0 v0)), ((q0 7), zi k6 120 f6), ((q0 11), zi k10 120 f10), ((q0 5), zi k4 122880 f4), ((q0 12), zi k11 120 f11)] s.heap.size = A at hD hZ ⊢
  have hA : ∀ q : Nat, s.heap.size ≤ q → A q := fun q h => by rw [← hAe]; exact Or.inr h
  have hS : va_S A s.heap s.heap [] := va_S.rf
  have hl := lv_entry ([.ref h0, .int x1]) (n := 4) (Nat.le_of_ble_eq_true rfl)
  rw [lg_entry_eq]
  generalize (lg_sl ([.ref h0, .int x1]) ++ List.replicate (4 - (lg_sl ([.ref h0, .int x1])).length) Slot.unset).toArray = ls at hl ⊢
  have hl : lv_has ls 4 [(0, .ref h0), (1, .int x1)] := hl
  have b_ := zk_0
  refine lv_iconst (v := 0) hx hb dX13_keepers_0 (by decide) ?_
  refine lv_istore_n (lv' := [(2, .int 0), (0, .ref h0), (1, .int x1)]) hx hb dX13_keepers_1 rfl hl (by decide) rfl (fun ls hl => ?_)
  refine lv_iconst (v := 0) hx hb dX13_keepers_2 (by decide) ?_
  refine lv_istore_n (lv' := [(3, .int 0), (2, .int 0), (0, .ref h0), (1, .int x1)]) hx hb dX13_keepers_3 rfl hl (by decide) rfl (fun ls hl => ?_)
  refine zcutL (fun u4_ => (120 - (u4_ 1).toInt).toNat) (fun H locs ls u4_ w4_ a4_ b4_ => va_P (dC, dI) vwCl [(h0, .inr (13, mX13 q0 v0)), ((q0 7), zi k6 120 f6), ((q0 11), zi k10 120 f10), ((q0 5), zi k4 122880 f4), ((q0 12), zi k11 120 f11)] H ∧ va_D A [(h0, .inr (13, mX13 q0 v0)), ((q0 7), zi k6 120 f6), ((q0 11), zi k10 120 f10), ((q0 5), zi k4 122880 f4), ((q0 12), zi k11 120 f11)] ∧ va_S A s.heap H locs ∧ lv_has ls 4 [(0, .ref h0), (1, .int x1), (2, .int (u4_ 0)), (3, .int (u4_ 1))] ∧ (0 ≤ (u4_ 1).toInt ∧ (u4_ 1).toInt ≤ 120)) (fun ls u4_ w4_ => F0 m 4 ls []) 0 0 ?_ (fun hJ4 => ?_)
  · skip
    intro H locs ls u4_ w4_ a4_ b4_ hc hJ4
    obtain ⟨hP, hD, hS, hl, b_⟩ := hc
    refine lv_iload_n hx hb dX13_keepers_4 rfl (lv_at hl 3 rfl) ?_
    refine lv_aload_n hx hb dX13_keepers_5 rfl (lv_at hl 0 rfl) ?_
    have b_ : 0 ≤ (v0 13).toInt ∧ (v0 13).toInt ≤ 120 := hv0 13
    refine va_get (D := (dC, dI)) (ci := 13) (v := .int (v0 13)) (C := RX13) (T := TX13) (N := 75) hx hb hG zuX13 hown hK hP 0 rfl rfl 13 (by decide) (hG _ zv1617) (fun _ h9 => h9) rfl dX13_keepers_6 ?_
    refine lv_icmp_ge (tgt := 44) hx hb dX13_keepers_9 (by decide) (fun c_ => ?_) (fun c_ => ?_)
    · skip
      have b_ := zT_ge rfl rfl c_
      refine lv_iload_n hx hb dX13_keepers_44 rfl (lv_at hl 2 rfl) ?_
      refine W.widen (k := 0) (n := 0) (by decide) (by decide) ?_
      have b_ : -2147483648 ≤ (u4_ 0).toInt ∧ (u4_ 0).toInt ≤ 2147483647 := ⟨zlo _, zhi _⟩
      have hpost : True := trivial
      have hP9 : va_P (dC, dI) vwCl [(h0, .inr (13, mX13 q0 v0)), ((q0 7), zi k6 120 f6), ((q0 11), zi k10 120 f10), ((q0 5), zi k4 122880 f4), ((q0 12), zi k11 120 f11)] H := hP
      have hD9 : va_D A [(h0, .inr (13, mX13 q0 v0)), ((q0 7), zi k6 120 f6), ((q0 11), zi k10 120 f10), ((q0 5), zi k4 122880 f4), ((q0 12), zi k11 120 f11)] := hD
      exact W.iret (v := (u4_ 0)) hx hb hr (fun t ht hW => ⟨⟨(u4_ 0), (fun _ => 0), rfl, hpost, (fun _ => 0), (fun _ => (fun _ => 0)), (fun _ => (fun _ => 0)), by rw [ht]; exact hP9, va_K.moved hW.alike hK, hD9⟩, hS.F ht⟩) hS.2.2 dX13_keepers_45
    · skip
      have b_ := zF_ge rfl rfl c_
      refine lv_iload_n hx hb dX13_keepers_12 rfl (lv_at hl 2 rfl) ?_
      refine lv_aload_n hx hb dX13_keepers_13 rfl (lv_at hl 0 rfl) ?_
      refine va_get (D := (dC, dI)) (ci := 13) (v := .ref (q0 7)) (C := RX13) (T := TX13) (N := 75) hx hb hG zuX13 hown hK hP 0 rfl rfl 7 (by decide) (hG _ zv1611) (fun _ h9 => h9) rfl dX13_keepers_14 ?_
      refine lv_iload_n hx hb dX13_keepers_17 rfl (lv_at hl 3 rfl) ?_
      refine va_zald hx hb hK hP 1 0 rfl rfl (zin_lit ⟨by omega, by omega⟩) dX13_keepers_18 ?_
      refine lv_topi (fun z18 e_z18 => ?_)
      have b_ : -2147483648 ≤ z18.toInt ∧ z18.toInt ≤ 2147483647 := ⟨zlo _, zhi _⟩
      refine lv_if_eq (tgt := 35) hx hb dX13_keepers_19 (by decide) (fun c_ => ?_) (fun c_ => ?_)
      · skip
        have b_ := zT_eq rfl zk_0 c_
        refine lv_iconst (v := 0) hx hb dX13_keepers_35 (by decide) ?_
        have b_ : -2147483648 ≤ (u4_ 0).toInt ∧ (u4_ 0).toInt ≤ 2147483647 := ⟨zlo _, zhi _⟩
        refine lv_iadd hx hb dX13_keepers_36 ?_
        refine lv_topi (fun z36 e_z36 => ?_)
        have b_ := zadd rfl zk_0 e_z36 (by omega) (by omega)
        refine lv_istore_n (lv' := [(2, .int z36), (0, .ref h0), (1, .int x1), (3, .int (u4_ 1))]) hx hb dX13_keepers_37 rfl hl (by decide) rfl (fun ls hl => ?_)
        obtain ⟨z38, e_z38⟩ : ∃ z : Int32, z = (u4_ 1) + Int32.ofInt 1 := ⟨_, rfl⟩
        have b_ := zadd (x := (u4_ 1)) (y := Int32.ofInt 1) rfl (show (Int32.ofInt 1).toInt = 1 from by decide) e_z38 (by omega) (by omega)
        refine lv_iinc (v := z38) (lv' := [(3, .int z38), (2, .int z36), (0, .ref h0), (1, .int x1)]) hx hb dX13_keepers_38 hl (k := 3) rfl e_z38.symm (by decide) rfl (fun ls hl => ?_)
        refine lv_goto (tgt := 4) hx hb dX13_keepers_41 (by decide) ?_
        have hc : va_P (dC, dI) vwCl [(h0, .inr (13, mX13 q0 v0)), ((q0 7), zi k6 120 f6), ((q0 11), zi k10 120 f10), ((q0 5), zi k4 122880 f4), ((q0 12), zi k11 120 f11)] H ∧ va_D A [(h0, .inr (13, mX13 q0 v0)), ((q0 7), zi k6 120 f6), ((q0 11), zi k10 120 f10), ((q0 5), zi k4 122880 f4), ((q0 12), zi k11 120 f11)] ∧ va_S A s.heap H locs ∧ lv_has ls 4 [(0, .ref h0), (1, .int x1), (2, .int z36), (3, .int z38)] ∧ (0 ≤ z38.toInt ∧ z38.toInt ≤ 120) := ⟨hP, hD, hS, lv_sub hl [2, 3, 1, 0] rfl, (by first | with_reducible assumption | exact ⟨by omega, by omega⟩)⟩
        exact hJ4 H locs ls (fun i => ([z36, z38] : List (Int32)).getD i 0) (fun _ => 0) (fun _ => (fun _ => 0)) (fun _ => (fun _ => 0)) hc (show (120 - z38.toInt).toNat < (120 - (u4_ 1).toInt).toNat from by omega)
      · skip
        have b_ := zF_eq rfl zk_0 c_
        refine lv_aload_n hx hb dX13_keepers_22 rfl (lv_at hl 0 rfl) ?_
        refine lv_iload_n hx hb dX13_keepers_23 rfl (lv_at hl 3 rfl) ?_
        refine lv_iload_n hx hb dX13_keepers_24 rfl (lv_at hl 1 rfl) ?_
        have hPc := hP.sub (ws' := [(h0, .inr (13, mX13 q0 v0)), ((q0 11), zi k10 120 f10), ((q0 5), zi k4 122880 f4), ((q0 12), zi k11 120 f11)]) [0, 2, 3, 4] rfl
        have hDc := hD.sub (ws' := [(h0, .inr (13, mX13 q0 v0)), ((q0 11), zi k10 120 f10), ((q0 5), zi k4 122880 f4), ((q0 12), zi k11 120 f11)]) [0, 2, 3, 4] (by decide) rfl
        have hKc := hK.sub (tys' := [(k10, .int), (k4, .short), (k11, .int)]) [1, 2, 3] rfl
        have hFc := va_free (wc := [(h0, .inr (13, mX13 q0 v0)), ((q0 11), zi k10 120 f10), ((q0 5), zi k4 122880 f4), ((q0 12), zi k11 120 f11)]) hD hS hA [0, 2, 3, 4] rfl
        refine va_calli (va_runV (As := [.int (u4_ 1), .int x1]) (rest := [.int (u4_ 0)]) ⟨hx, hb, hml, hown, hG⟩ (sX13_timesOf_0 l dC dI adK adV h0 q0 k10 k4 k11 H.size v0 f10 f4 f11 (u4_ 1) x1 hv0 hf10 hf4 hf11 (show (0 : Int) ≤ ((u4_ 1) : Int32).toInt ∧ ((u4_ 1) : Int32).toInt ≤ (119 : Int) from (by first | with_reducible assumption | exact ⟨by omega, by omega⟩)) (show (0 : Int) ≤ (x1 : Int32).toInt ∧ (x1 : Int32).toInt ≤ (399 : Int) from (by first | with_reducible assumption | exact ⟨by omega, by omega⟩))) (cwV 2 hG (zgV zv1979 zv1981 zv71 zv142 zv1982) rfl rfl rfl (by decide +kernel) ⟨Nat.le_of_ble_eq_true rfl, Nat.le_of_ble_eq_true rfl⟩) ⟨zPc_blind, va_recv hKc hPc (ci := 13) (q0 := 0) rfl rfl, zPc_pre hPc hKc hDc hE hS hFc hZ⟩ rfl rfl hl.1 rfl (lv_room (Nat.le_of_ble_eq_true rfl)) dX13_keepers_25 ⟨Nat.le_of_ble_eq_true rfl, Nat.le_of_ble_eq_true rfl⟩) hS (fun q _ h => hFc q h) hFc (fun r25_ u25_ t H1 locs ht hvm hw hB hz1 hk1 hS => ?_)
        replace hw : (0 ≤ r25_.toInt ∧ r25_.toInt ≤ 1024) ∧ (r25_.toInt ≤ (zp f4 (u4_ 1).toInt x1.toInt 1024).1) := hw
        obtain ⟨b_, hX25_0⟩ := hw
        obtain ⟨w25_, a25_, b25_, hP1, hK1, hD1⟩ := hB
        rw [ht] at hP1
        obtain ⟨hP, hD⟩ := va_join (wr := [((q0 7), zi k6 120 f6)]) (w1 := [(h0, .inr (13, mX13 q0 v0)), ((q0 11), zi k10 120 f10), ((q0 5), zi k4 122880 f4), ((q0 12), zi k11 120 f11)]) hP hD [0, 2, 3, 4] [1] rfl rfl (by decide) (by decide) hk1 hFc hP1 hD1
        have hP : va_P (dC, dI) vwCl [(h0, .inr (13, mX13 q0 v0)), ((q0 7), zi k6 120 f6), ((q0 11), zi k10 120 f10), ((q0 5), zi k4 122880 f4), ((q0 12), zi k11 120 f11)] H1 := hP.sub [1, 0, 2, 3, 4] rfl
        have hD : va_D A [(h0, .inr (13, mX13 q0 v0)), ((q0 7), zi k6 120 f6), ((q0 11), zi k10 120 f10), ((q0 5), zi k4 122880 f4), ((q0 12), zi k11 120 f11)] := hD.sub [1, 0, 2, 3, 4] (by decide) rfl
        generalize H1 = H at hP hS ⊢
        clear hz1
        refine lv_if_le (tgt := 35) hx hb dX13_keepers_28 (by decide) (fun c_ => ?_) (fun c_ => ?_)
        · skip
          have b_ := zT_le rfl zk_0 c_
          refine lv_iconst (v := 0) hx hb dX13_keepers_35 (by decide) ?_
          have b_ : -2147483648 ≤ (u4_ 0).toInt ∧ (u4_ 0).toInt ≤ 2147483647 := ⟨zlo _, zhi _⟩
          refine lv_iadd hx hb dX13_keepers_36 ?_
          refine lv_topi (fun z36 e_z36 => ?_)
          have b_ := zadd rfl zk_0 e_z36 (by omega) (by omega)
          refine lv_istore_n (lv' := [(2, .int z36), (0, .ref h0), (1, .int x1), (3, .int (u4_ 1))]) hx hb dX13_keepers_37 rfl hl (by decide) rfl (fun ls hl => ?_)
          obtain ⟨z38, e_z38⟩ : ∃ z : Int32, z = (u4_ 1) + Int32.ofInt 1 := ⟨_, rfl⟩
          have b_ := zadd (x := (u4_ 1)) (y := Int32.ofInt 1) rfl (show (Int32.ofInt 1).toInt = 1 from by decide) e_z38 (by omega) (by omega)
          refine lv_iinc (v := z38) (lv' := [(3, .int z38), (2, .int z36), (0, .ref h0), (1, .int x1)]) hx hb dX13_keepers_38 hl (k := 3) rfl e_z38.symm (by decide) rfl (fun ls hl => ?_)
          refine lv_goto (tgt := 4) hx hb dX13_keepers_41 (by decide) ?_
          have hc : va_P (dC, dI) vwCl [(h0, .inr (13, mX13 q0 v0)), ((q0 7), zi k6 120 f6), ((q0 11), zi k10 120 f10), ((q0 5), zi k4 122880 f4), ((q0 12), zi k11 120 f11)] H ∧ va_D A [(h0, .inr (13, mX13 q0 v0)), ((q0 7), zi k6 120 f6), ((q0 11), zi k10 120 f10), ((q0 5), zi k4 122880 f4), ((q0 12), zi k11 120 f11)] ∧ va_S A s.heap H locs ∧ lv_has ls 4 [(0, .ref h0), (1, .int x1), (2, .int z36), (3, .int z38)] ∧ (0 ≤ z38.toInt ∧ z38.toInt ≤ 120) := ⟨hP, hD, hS, lv_sub hl [2, 3, 1, 0] rfl, (by first | with_reducible assumption | exact ⟨by omega, by omega⟩)⟩
          exact hJ4 H locs ls (fun i => ([z36, z38] : List (Int32)).getD i 0) (fun _ => 0) (fun _ => (fun _ => 0)) (fun _ => (fun _ => 0)) hc (show (120 - z38.toInt).toNat < (120 - (u4_ 1).toInt).toNat from by omega)
        · skip
          have b_ := zF_le rfl zk_0 c_
          refine lv_iconst (v := 1) hx hb dX13_keepers_31 (by decide) ?_
          refine lv_goto (tgt := 36) hx hb dX13_keepers_32 (by decide) ?_
          have b_ : -2147483648 ≤ (u4_ 0).toInt ∧ (u4_ 0).toInt ≤ 2147483647 := ⟨zlo _, zhi _⟩
          refine lv_iadd hx hb dX13_keepers_36 ?_
          refine lv_topi (fun z36 e_z36 => ?_)
          refine lv_istore_n (lv' := [(2, .int z36), (0, .ref h0), (1, .int x1), (3, .int (u4_ 1))]) hx hb dX13_keepers_37 rfl hl (by decide) rfl (fun ls hl => ?_)
          obtain ⟨z38, e_z38⟩ : ∃ z : Int32, z = (u4_ 1) + Int32.ofInt 1 := ⟨_, rfl⟩
          have b_ := zadd (x := (u4_ 1)) (y := Int32.ofInt 1) rfl (show (Int32.ofInt 1).toInt = 1 from by decide) e_z38 (by omega) (by omega)
          refine lv_iinc (v := z38) (lv' := [(3, .int z38), (2, .int z36), (0, .ref h0), (1, .int x1)]) hx hb dX13_keepers_38 hl (k := 3) rfl e_z38.symm (by decide) rfl (fun ls hl => ?_)
          refine lv_goto (tgt := 4) hx hb dX13_keepers_41 (by decide) ?_
          have b_ : -2147483648 ≤ z36.toInt ∧ z36.toInt ≤ 2147483647 := ⟨zlo _, zhi _⟩
          have hc : va_P (dC, dI) vwCl [(h0, .inr (13, mX13 q0 v0)), ((q0 7), zi k6 120 f6), ((q0 11), zi k10 120 f10), ((q0 5), zi k4 122880 f4), ((q0 12), zi k11 120 f11)] H ∧ va_D A [(h0, .inr (13, mX13 q0 v0)), ((q0 7), zi k6 120 f6), ((q0 11), zi k10 120 f10), ((q0 5), zi k4 122880 f4), ((q0 12), zi k11 120 f11)] ∧ va_S A s.heap H locs ∧ lv_has ls 4 [(0, .ref h0), (1, .int x1), (2, .int z36), (3, .int z38)] ∧ (0 ≤ z38.toInt ∧ z38.toInt ≤ 120) := ⟨hP, hD, hS, lv_sub hl [2, 3, 1, 0] rfl, (by first | with_reducible assumption | exact ⟨by omega, by omega⟩)⟩
          exact hJ4 H locs ls (fun i => ([z36, z38] : List (Int32)).getD i 0) (fun _ => 0) (fun _ => (fun _ => 0)) (fun _ => (fun _ => 0)) hc (show (120 - z38.toInt).toNat < (120 - (u4_ 1).toInt).toNat from by omega)
  · skip
    have hc : va_P (dC, dI) vwCl [(h0, .inr (13, mX13 q0 v0)), ((q0 7), zi k6 120 f6), ((q0 11), zi k10 120 f10), ((q0 5), zi k4 122880 f4), ((q0 12), zi k11 120 f11)] s.heap ∧ va_D A [(h0, .inr (13, mX13 q0 v0)), ((q0 7), zi k6 120 f6), ((q0 11), zi k10 120 f10), ((q0 5), zi k4 122880 f4), ((q0 12), zi k11 120 f11)] ∧ va_S A s.heap s.heap [] ∧ lv_has ls 4 [(0, .ref h0), (1, .int x1), (2, .int 0), (3, .int 0)] ∧ (0 ≤ (0 : Int32).toInt ∧ (0 : Int32).toInt ≤ 120) := ⟨hP, hD, hS, lv_sub hl [2, 3, 1, 0] rfl, (by first | with_reducible assumption | exact ⟨by omega, by omega⟩)⟩
    exact hJ4 s.heap [] ls (fun i => ([0, 0] : List (Int32)).getD i 0) (fun _ => 0) (fun _ => (fun _ => 0)) (fun _ => (fun _ => 0)) hc
set_option maxHeartbeats 8000000 in
set_option maxRecDepth 100000 in
theorem sX13_look_0 (l : Launch) (dC : Nat → ClassId) (dI : Nat → Nat → Nat) (adK adV : Nat → Nat) (h0 : Nat) (q0 : Nat → Nat) (k1 : ClassId) (k15 : ClassId) (k14 : ClassId) (k3 : ClassId) (k2 : ClassId) (k6 : ClassId) (k10 : ClassId) (k4 : ClassId) (k11 : ClassId) (sz : Nat) (v0 : Nat → Int32) (f1 : Nat → Int32) (f15 : Nat → Int32) (f14 : Nat → Int32) (f3 : Nat → Int32) (f2 : Nat → Int32) (f6 : Nat → Int32) (f10 : Nat → Int32) (f4 : Nat → Int32) (f11 : Nat → Int32) (hv0 : zR rg_Model v0) (hf3 : zA 0 12 f3) (hf10 : zA 0 512 f10) (hf4 : zA 0 400 f4) (hf11 : zA 0 512 f11) : Met l yX13_look (zw yX13_look cX13_look 2 (some .int)) { frames := 5, cells := 0, slots := 0, locals := 108 } (zPc dC dI adK adV [.ref h0] sz [(h0, .inr (13, mX13 q0 v0)), ((q0 0), zi k1 600 f1), ((q0 19), zi k15 12 f15), ((q0 17), zi k14 12 f14), ((q0 3), zi k3 400 f3), ((q0 2), zi k2 4800 f2), ((q0 7), zi k6 120 f6), ((q0 11), zi k10 120 f10), ((q0 5), zi k4 122880 f4), ((q0 12), zi k11 120 f11)] [(k1, .byte), (k15, .byte), (k14, .byte), (k3, .int), (k2, .byte), (k6, .boolean), (k10, .int), (k4, .short), (k11, .int)]) (va_Qi (fun (r : Int32) (u : Nat → Int32) => (0 ≤ (u 0).toInt ∧ (u 0).toInt ≤ 0) ∧ (0 ≤ (u 1).toInt ∧ (u 1).toInt ≤ 12) ∧ (0 ≤ (u 2).toInt ∧ (u 2).toInt ≤ 12) ∧ (0 ≤ (u 3).toInt ∧ (u 3).toInt ≤ 0)) (fun (u : Nat → Int32) (t : State) => ∃ (ww : Nat → Int64) (aa : Nat → Nat → Int32) (bb : Nat → Nat → Int64), va_P (dC, dI) vwCl [(h0, .inr (13, mX13 q0 (upd (upd (upd (upd v0 1 (u 0)) 18 (u 1)) 20 (u 2)) 21 (u 3)))), ((q0 0), zi k1 600 f1), ((q0 19), zi k15 12 (aa 0)), ((q0 17), zi k14 12 (aa 1)), ((q0 3), zi k3 400 f3), ((q0 2), zi k2 4800 f2), ((q0 7), zi k6 120 f6), ((q0 11), zi k10 120 f10), ((q0 5), zi k4 122880 f4), ((q0 12), zi k11 120 f11)] t.heap ∧ va_K (dC, dI) vwCl [(k1, .byte), (k15, .byte), (k14, .byte), (k3, .int), (k2, .byte), (k6, .boolean), (k10, .int), (k4, .short), (k11, .int)] t ∧ va_D (va_A [(h0, .inr (13, mX13 q0 v0)), ((q0 0), zi k1 600 f1), ((q0 19), zi k15 12 f15), ((q0 17), zi k14 12 f14), ((q0 3), zi k3 400 f3), ((q0 2), zi k2 4800 f2), ((q0 7), zi k6 120 f6), ((q0 11), zi k10 120 f10), ((q0 5), zi k4 122880 f4), ((q0 12), zi k11 120 f11)] sz) [(h0, .inr (13, mX13 q0 (upd (upd (upd (upd v0 1 (u 0)) 18 (u 1)) 20 (u 2)) 21 (u 3)))), ((q0 0), zi k1 600 f1), ((q0 19), zi k15 12 (aa 0)), ((q0 17), zi k14 12 (aa 1)), ((q0 3), zi k3 400 f3), ((q0 2), zi k2 4800 f2), ((q0 7), zi k6 120 f6), ((q0 11), zi k10 120 f10), ((q0 5), zi k4 122880 f4), ((q0 12), zi k11 120 f11)]) (va_A [(h0, .inr (13, mX13 q0 v0)), ((q0 0), zi k1 600 f1), ((q0 19), zi k15 12 f15), ((q0 17), zi k14 12 f14), ((q0 3), zi k3 400 f3), ((q0 2), zi k2 4800 f2), ((q0 7), zi k6 120 f6), ((q0 11), zi k10 120 f10), ((q0 5), zi k4 122880 f4), ((q0 12), zi k11 120 f11)] sz)) 0 0 (va_A [(h0, .inr (13, mX13 q0 v0)), ((q0 0), zi k1 600 f1), ((q0 19), zi k15 12 f15), ((q0 17), zi k14 12 f14), ((q0 3), zi k3 400 f3), ((q0 2), zi k2 4800 f2), ((q0 7), zi k6 120 f6), ((q0 11), zi k10 120 f10), ((q0 5), zi k4 122880 f4), ((q0 12), zi k11 120 f11)] sz) := by
  refine Met.ofW (cc := cX13_look) (maxL := 2) (ret := (some .int)) (by decide) rfl ?_
  intro p e s m args below meth c s₁ B hml hv
  obtain ⟨rfl, hsz, hP, hK, hD0, hE, hZ⟩ := hv
  have hx := B.exec
  have hb := B.bytes
  have hr := B.returns
  have hG : ∀ w ∈ zG, w.before _ s = true := fun w h => atoms_spec (ws := (zw yX13_look cX13_look 2 (some .int))) B.pre w (List.mem_cons_of_mem _ h)
  have hown : s.vm.findClass RX13 = some m.cls := findClass_of_methodNamed B.named
  have hlocks := B.notSynchronized

  subst hsz
  have hD := hD0.self (sz := s.heap.size)
  generalize hAe : va_A [(h0, .inr (13, mX13 q0 v0)), ((q0 0), zi k1 600 f1), ((q0 19), zi k15 12 f15), ((q0 17), zi k14 12 f14), ((q0 3), zi k3 400 f3), ((q0 2), zi k2 4800 f2), ((q0 7), zi k6 120 f6), ((q0 11), zi k10 120 f10), ((q0 5), zi k4 122880 f4), ((q0 12), zi k11 120 f11)] s.heap.size = A at hD hZ ⊢
  have hA : ∀ q : Nat, s.heap.size ≤ q → A q := fun q h => by rw [← hAe]; exact Or.inr h
  have hS : va_S A s.heap s.heap [] := va_S.rf
  have hl := lv_entry ([.ref h0]) (n := 2) (Nat.le_of_ble_eq_true rfl)
  rw [lg_entry_eq]
  generalize (lg_sl ([.ref h0]) ++ List.replicate (2 - (lg_sl ([.ref h0])).length) Slot.unset).toArray = ls at hl ⊢
  have hl : lv_has ls 2 [(0, .ref h0)] := hl
  have b_ := zk_0
  refine lv_aload_n hx hb dX13_look_0 rfl (lv_at hl 0 rfl) ?_
  refine lv_iconst (v := 0) hx hb dX13_look_1 (by decide) ?_
  refine va_put (D := (dC, dI)) (ci := 13) (v := .int 0) (ty := .int) (C := RX13) (T := TX13) (N := 75) hx hb hG zuX13 tyX13 tyX13_ok nmX13 hown hK hP hD hS 0 rfl rfl 21 (by decide) (hG _ zv1625) (fun _ h9 => h9) rfl (by decide +kernel) rfl rfl (Nat.le_of_ble_eq_true rfl) dX13_look_2 (fun H locs hP hD hS => ?_)
  have hP : va_P (dC, dI) vwCl [(h0, .inr (13, mX13 q0 (upd v0 21 0))), ((q0 0), zi k1 600 f1), ((q0 19), zi k15 12 f15), ((q0 17), zi k14 12 f14), ((q0 3), zi k3 400 f3), ((q0 2), zi k2 4800 f2), ((q0 7), zi k6 120 f6), ((q0 11), zi k10 120 f10), ((q0 5), zi k4 122880 f4), ((q0 12), zi k11 120 f11)] H := hP
  have hD : va_D A [(h0, .inr (13, mX13 q0 (upd v0 21 0))), ((q0 0), zi k1 600 f1), ((q0 19), zi k15 12 f15), ((q0 17), zi k14 12 f14), ((q0 3), zi k3 400 f3), ((q0 2), zi k2 4800 f2), ((q0 7), zi k6 120 f6), ((q0 11), zi k10 120 f10), ((q0 5), zi k4 122880 f4), ((q0 12), zi k11 120 f11)] := hD
  refine lv_aload_n hx hb dX13_look_5 rfl (lv_at hl 0 rfl) ?_
  have hPc := hP.sub (ws' := [(h0, .inr (13, mX13 q0 (upd v0 21 0))), ((q0 0), zi k1 600 f1), ((q0 19), zi k15 12 f15)]) [0, 1, 2] rfl
  have hDc := hD.sub (ws' := [(h0, .inr (13, mX13 q0 (upd v0 21 0))), ((q0 0), zi k1 600 f1), ((q0 19), zi k15 12 f15)]) [0, 1, 2] (by decide) rfl
  have hKc := hK.sub (tys' := [(k1, .byte), (k15, .byte)]) [0, 1] rfl
  have hFc := va_free (wc := [(h0, .inr (13, mX13 q0 (upd v0 21 0))), ((q0 0), zi k1 600 f1), ((q0 19), zi k15 12 f15)]) hD hS hA [0, 1, 2] rfl
  refine va_calli (va_runV (As := []) (rest := []) ⟨hx, hb, hml, hown, hG⟩ (sX13_takesToken_0 l dC dI adK adV h0 q0 k1 k15 H.size (upd v0 21 0) f1 f15 (zR_updF hv0 21 rfl)) (cwV 0 hG (zgV zv1951 zv1953 zv66 zv142 zv1954) rfl rfl rfl (by decide +kernel) ⟨Nat.le_of_ble_eq_true rfl, Nat.le_of_ble_eq_true rfl⟩) ⟨zPc_blind, va_recv hKc hPc (ci := 13) (q0 := 0) rfl rfl, zPc_pre hPc hKc hDc hE hS hFc hZ⟩ rfl rfl hl.1 rfl (lv_room (Nat.le_of_ble_eq_true rfl)) dX13_look_6 ⟨Nat.le_of_ble_eq_true rfl, Nat.le_of_ble_eq_true rfl⟩) hS (fun q _ h => hFc q h) hFc (fun r6_ u6_ t H1 locs ht hvm hw hB hz1 hk1 hS => ?_)
  replace hw : (0 ≤ r6_.toInt ∧ r6_.toInt ≤ 1) ∧ (0 ≤ (u6_ 0).toInt ∧ (u6_ 0).toInt ≤ 0) ∧ (0 ≤ (u6_ 1).toInt ∧ (u6_ 1).toInt ≤ 12) ∧ (r6_.toInt = 0 → ∀ i : Int, ¬ zIn f1 (v0 1).toInt i) ∧ (r6_.toInt = (u6_ 2).toInt) := hw
  obtain ⟨b_, b_, b_, hX6_0, b_⟩ := hw
  obtain ⟨w6_, a6_, b6_, hB6_0, hP1, hK1, hD1⟩ := hB
  have hB6_0 : (u6_ 2).toInt = 1 → zTw f1 (v0 1).toInt (a6_ 0) (u6_ 1).toInt := hB6_0
  rw [ht] at hP1
  obtain ⟨hP, hD⟩ := va_join (wr := [((q0 17), zi k14 12 f14), ((q0 3), zi k3 400 f3), ((q0 2), zi k2 4800 f2), ((q0 7), zi k6 120 f6), ((q0 11), zi k10 120 f10), ((q0 5), zi k4 122880 f4), ((q0 12), zi k11 120 f11)]) (w1 := [(h0, .inr (13, mX13 q0 (upd (upd (upd v0 1 (u6_ 0)) 20 (u6_ 1)) 21 0))), ((q0 0), zi k1 600 f1), ((q0 19), zi k15 12 (a6_ 0))]) hP hD [0, 1, 2] [3, 4, 5, 6, 7, 8, 9] rfl rfl (by decide) (by decide) hk1 hFc hP1 hD1
  have hP : va_P (dC, dI) vwCl [(h0, .inr (13, mX13 q0 (upd (upd (upd v0 1 (u6_ 0)) 20 (u6_ 1)) 21 0))), ((q0 0), zi k1 600 f1), ((q0 19), zi k15 12 (a6_ 0)), ((q0 17), zi k14 12 f14), ((q0 3), zi k3 400 f3), ((q0 2), zi k2 4800 f2), ((q0 7), zi k6 120 f6), ((q0 11), zi k10 120 f10), ((q0 5), zi k4 122880 f4), ((q0 12), zi k11 120 f11)] H1 := hP.sub [7, 8, 9, 0, 1, 2, 3, 4, 5, 6] rfl
  have hD : va_D A [(h0, .inr (13, mX13 q0 (upd (upd (upd v0 1 (u6_ 0)) 20 (u6_ 1)) 21 0))), ((q0 0), zi k1 600 f1), ((q0 19), zi k15 12 (a6_ 0)), ((q0 17), zi k14 12 f14), ((q0 3), zi k3 400 f3), ((q0 2), zi k2 4800 f2), ((q0 7), zi k6 120 f6), ((q0 11), zi k10 120 f10), ((q0 5), zi k4 122880 f4), ((q0 12), zi k11 120 f11)] := hD.sub [7, 8, 9, 0, 1, 2, 3, 4, 5, 6] (by decide) rfl
  generalize H1 = H at hP hS ⊢
  clear hz1
  refine lv_if_ne (tgt := 19) hx hb dX13_look_9 (by decide) (fun c_ => ?_) (fun c_ => ?_)
  · skip
    have b_ := zT_ne rfl zk_0 c_
    refine lv_aload_n hx hb dX13_look_19 rfl (lv_at hl 0 rfl) ?_
    have hPc := hP.sub (ws' := [(h0, .inr (13, mX13 q0 (upd (upd (upd v0 1 (u6_ 0)) 20 (u6_ 1)) 21 0))), ((q0 19), zi k15 12 (a6_ 0)), ((q0 17), zi k14 12 f14)]) [0, 2, 3] rfl
    have hDc := hD.sub (ws' := [(h0, .inr (13, mX13 q0 (upd (upd (upd v0 1 (u6_ 0)) 20 (u6_ 1)) 21 0))), ((q0 19), zi k15 12 (a6_ 0)), ((q0 17), zi k14 12 f14)]) [0, 2, 3] (by decide) rfl
    have hKc := hK.sub (tys' := [(k15, .byte), (k14, .byte)]) [1, 2] rfl
    have hFc := va_free (wc := [(h0, .inr (13, mX13 q0 (upd (upd (upd v0 1 (u6_ 0)) 20 (u6_ 1)) 21 0))), ((q0 19), zi k15 12 (a6_ 0)), ((q0 17), zi k14 12 f14)]) hD hS hA [0, 2, 3] rfl
    refine va_callv (va_runV (As := []) (rest := []) ⟨hx, hb, hml, hown, hG⟩ (sX13_lookAt_0 l dC dI adK adV h0 q0 k15 k14 H.size (upd (upd (upd v0 1 (u6_ 0)) 20 (u6_ 1)) 21 0) (a6_ 0) f14 (zR_updF (zR_up2 (zR_up2 hv0 1 (show (0 : Int) ≤ ((u6_ 0) : Int32).toInt ∧ ((u6_ 0) : Int32).toInt ≤ (600 : Int) from (by first | with_reducible assumption | exact ⟨by omega, by omega⟩))) 20 (show (0 : Int) ≤ ((u6_ 1) : Int32).toInt ∧ ((u6_ 1) : Int32).toInt ≤ (12 : Int) from (by first | with_reducible assumption | exact ⟨by omega, by omega⟩))) 21 rfl)) (cwV 0 hG (zgV zv1971 zv1973 zv69 zv142 zv1974) rfl rfl rfl (by decide +kernel) ⟨Nat.le_of_ble_eq_true rfl, Nat.le_of_ble_eq_true rfl⟩) ⟨zPc_blind, va_recv hKc hPc (ci := 13) (q0 := 0) rfl rfl, zPc_pre hPc hKc hDc hE hS hFc hZ⟩ rfl rfl hl.1 rfl (lv_room (Nat.le_of_ble_eq_true rfl)) dX13_look_20 ⟨Nat.le_of_ble_eq_true rfl, Nat.le_of_ble_eq_true rfl⟩) hS (fun q _ h => hFc q h) hFc (fun u20_ t H1 locs ht hvm hw hB hz1 hk1 hS => ?_)
    replace hw : (0 ≤ (u20_ 0).toInt ∧ (u20_ 0).toInt ≤ 12) := hw
    have b_ := hw
    obtain ⟨w20_, a20_, b20_, hP1, hK1, hD1⟩ := hB
    rw [ht] at hP1
    obtain ⟨hP, hD⟩ := va_join (wr := [((q0 0), zi k1 600 f1), ((q0 3), zi k3 400 f3), ((q0 2), zi k2 4800 f2), ((q0 7), zi k6 120 f6), ((q0 11), zi k10 120 f10), ((q0 5), zi k4 122880 f4), ((q0 12), zi k11 120 f11)]) (w1 := [(h0, .inr (13, mX13 q0 (upd (upd (upd (upd v0 1 (u6_ 0)) 18 (u20_ 0)) 20 (u6_ 1)) 21 0))), ((q0 19), zi k15 12 (a6_ 0)), ((q0 17), zi k14 12 (a20_ 0))]) hP hD [0, 2, 3] [1, 4, 5, 6, 7, 8, 9] rfl rfl (by decide) (by decide) hk1 hFc hP1 hD1
    have hP : va_P (dC, dI) vwCl [(h0, .inr (13, mX13 q0 (upd (upd (upd (upd v0 1 (u6_ 0)) 18 (u20_ 0)) 20 (u6_ 1)) 21 0))), ((q0 0), zi k1 600 f1), ((q0 19), zi k15 12 (a6_ 0)), ((q0 17), zi k14 12 (a20_ 0)), ((q0 3), zi k3 400 f3), ((q0 2), zi k2 4800 f2), ((q0 7), zi k6 120 f6), ((q0 11), zi k10 120 f10), ((q0 5), zi k4 122880 f4), ((q0 12), zi k11 120 f11)] H1 := hP.sub [7, 0, 8, 9, 1, 2, 3, 4, 5, 6] rfl
    have hD : va_D A [(h0, .inr (13, mX13 q0 (upd (upd (upd (upd v0 1 (u6_ 0)) 18 (u20_ 0)) 20 (u6_ 1)) 21 0))), ((q0 0), zi k1 600 f1), ((q0 19), zi k15 12 (a6_ 0)), ((q0 17), zi k14 12 (a20_ 0)), ((q0 3), zi k3 400 f3), ((q0 2), zi k2 4800 f2), ((q0 7), zi k6 120 f6), ((q0 11), zi k10 120 f10), ((q0 5), zi k4 122880 f4), ((q0 12), zi k11 120 f11)] := hD.sub [7, 0, 8, 9, 1, 2, 3, 4, 5, 6] (by decide) rfl
    generalize H1 = H at hP hS ⊢
    clear hz1
    refine lv_aload_n hx hb dX13_look_23 rfl (lv_at hl 0 rfl) ?_
    have hPc := hP.sub (ws' := [(h0, .inr (13, mX13 q0 (upd (upd (upd (upd v0 1 (u6_ 0)) 18 (u20_ 0)) 20 (u6_ 1)) 21 0))), ((q0 3), zi k3 400 f3), ((q0 2), zi k2 4800 f2), ((q0 19), zi k15 12 (a6_ 0))]) [0, 4, 5, 2] rfl
    have hDc := hD.sub (ws' := [(h0, .inr (13, mX13 q0 (upd (upd (upd (upd v0 1 (u6_ 0)) 18 (u20_ 0)) 20 (u6_ 1)) 21 0))), ((q0 3), zi k3 400 f3), ((q0 2), zi k2 4800 f2), ((q0 19), zi k15 12 (a6_ 0))]) [0, 4, 5, 2] (by decide) rfl
    have hKc := hK.sub (tys' := [(k3, .int), (k2, .byte), (k15, .byte)]) [3, 4, 1] rfl
    have hFc := va_free (wc := [(h0, .inr (13, mX13 q0 (upd (upd (upd (upd v0 1 (u6_ 0)) 18 (u20_ 0)) 20 (u6_ 1)) 21 0))), ((q0 3), zi k3 400 f3), ((q0 2), zi k2 4800 f2), ((q0 19), zi k15 12 (a6_ 0))]) hD hS hA [0, 4, 5, 2] rfl
    refine va_calli (va_runV (As := []) (rest := []) ⟨hx, hb, hml, hown, hG⟩ (sX13_find_0 l dC dI adK adV h0 q0 k3 k2 k15 H.size (upd (upd (upd (upd v0 1 (u6_ 0)) 18 (u20_ 0)) 20 (u6_ 1)) 21 0) f3 f2 (a6_ 0) (zR_updF (zR_up2 (zR_up2 (zR_up2 hv0 1 (show (0 : Int) ≤ ((u6_ 0) : Int32).toInt ∧ ((u6_ 0) : Int32).toInt ≤ (600 : Int) from (by first | with_reducible assumption | exact ⟨by omega, by omega⟩))) 18 (show ((-1) : Int) ≤ ((u20_ 0) : Int32).toInt ∧ ((u20_ 0) : Int32).toInt ≤ (12 : Int) from (by first | with_reducible assumption | exact ⟨by omega, by omega⟩))) 20 (show (0 : Int) ≤ ((u6_ 1) : Int32).toInt ∧ ((u6_ 1) : Int32).toInt ≤ (12 : Int) from (by first | with_reducible assumption | exact ⟨by omega, by omega⟩))) 21 rfl) hf3) (cwV 0 hG (zgV zv1889 zv1891 zv57 zv142 zv1892) rfl rfl rfl (by decide +kernel) ⟨Nat.le_of_ble_eq_true rfl, Nat.le_of_ble_eq_true rfl⟩) ⟨zPc_blind, va_recv hKc hPc (ci := 13) (q0 := 0) rfl rfl, zPc_pre hPc hKc hDc hE hS hFc hZ⟩ rfl rfl hl.1 rfl (lv_room (Nat.le_of_ble_eq_true rfl)) dX13_look_24 ⟨Nat.le_of_ble_eq_true rfl, Nat.le_of_ble_eq_true rfl⟩) hS (fun q _ h => hFc q h) hFc (fun r24_ u24_ t H1 locs ht hvm hw hB hz1 hk1 hS => ?_)
    replace hw : ((-1) ≤ r24_.toInt ∧ r24_.toInt ≤ 399) ∧ (r24_.toInt < (v0 4).toInt) ∧ (zFd f2 f3 (a6_ 0) (u6_ 1).toInt (v0 4).toInt r24_.toInt) := hw
    obtain ⟨b_, hX24_0, hX24_1⟩ := hw
    obtain ⟨w24_, a24_, b24_, hP1, hK1, hD1⟩ := hB
    rw [ht] at hP1
    obtain ⟨hP, hD⟩ := va_join (wr := [((q0 0), zi k1 600 f1), ((q0 17), zi k14 12 (a20_ 0)), ((q0 7), zi k6 120 f6), ((q0 11), zi k10 120 f10), ((q0 5), zi k4 122880 f4), ((q0 12), zi k11 120 f11)]) (w1 := [(h0, .inr (13, mX13 q0 (upd (upd (upd (upd v0 1 (u6_ 0)) 18 (u20_ 0)) 20 (u6_ 1)) 21 0))), ((q0 3), zi k3 400 f3), ((q0 2), zi k2 4800 f2), ((q0 19), zi k15 12 (a6_ 0))]) hP hD [0, 4, 5, 2] [1, 3, 6, 7, 8, 9] rfl rfl (by decide) (by decide) hk1 hFc hP1 hD1
    have hP : va_P (dC, dI) vwCl [(h0, .inr (13, mX13 q0 (upd (upd (upd (upd v0 1 (u6_ 0)) 18 (u20_ 0)) 20 (u6_ 1)) 21 0))), ((q0 0), zi k1 600 f1), ((q0 19), zi k15 12 (a6_ 0)), ((q0 17), zi k14 12 (a20_ 0)), ((q0 3), zi k3 400 f3), ((q0 2), zi k2 4800 f2), ((q0 7), zi k6 120 f6), ((q0 11), zi k10 120 f10), ((q0 5), zi k4 122880 f4), ((q0 12), zi k11 120 f11)] H1 := hP.sub [6, 0, 9, 1, 7, 8, 2, 3, 4, 5] rfl
    have hD : va_D A [(h0, .inr (13, mX13 q0 (upd (upd (upd (upd v0 1 (u6_ 0)) 18 (u20_ 0)) 20 (u6_ 1)) 21 0))), ((q0 0), zi k1 600 f1), ((q0 19), zi k15 12 (a6_ 0)), ((q0 17), zi k14 12 (a20_ 0)), ((q0 3), zi k3 400 f3), ((q0 2), zi k2 4800 f2), ((q0 7), zi k6 120 f6), ((q0 11), zi k10 120 f10), ((q0 5), zi k4 122880 f4), ((q0 12), zi k11 120 f11)] := hD.sub [6, 0, 9, 1, 7, 8, 2, 3, 4, 5] (by decide) rfl
    generalize H1 = H at hP hS ⊢
    clear hz1
    refine lv_istore_n (lv' := [(1, .int r24_), (0, .ref h0)]) hx hb dX13_look_27 rfl hl (by decide) rfl (fun ls hl => ?_)
    refine lv_iload_n hx hb dX13_look_28 rfl (lv_at hl 0 rfl) ?_
    refine lv_iconst (v := (-1)) hx hb dX13_look_29 (by decide) ?_
    refine lv_icmp_ne (tgt := 37) hx hb dX13_look_30 (by decide) (fun c_ => ?_) (fun c_ => ?_)
    · skip
      have b_ := zT_ne rfl zk_m1 c_
      refine lv_aload_n hx hb dX13_look_37 rfl (lv_at hl 1 rfl) ?_
      refine lv_iload_n hx hb dX13_look_38 rfl (lv_at hl 0 rfl) ?_
      have hPc := hP.sub (ws' := [(h0, .inr (13, mX13 q0 (upd (upd (upd (upd v0 1 (u6_ 0)) 18 (u20_ 0)) 20 (u6_ 1)) 21 0))), ((q0 7), zi k6 120 f6), ((q0 11), zi k10 120 f10), ((q0 5), zi k4 122880 f4), ((q0 12), zi k11 120 f11)]) [0, 6, 7, 8, 9] rfl
      have hDc := hD.sub (ws' := [(h0, .inr (13, mX13 q0 (upd (upd (upd (upd v0 1 (u6_ 0)) 18 (u20_ 0)) 20 (u6_ 1)) 21 0))), ((q0 7), zi k6 120 f6), ((q0 11), zi k10 120 f10), ((q0 5), zi k4 122880 f4), ((q0 12), zi k11 120 f11)]) [0, 6, 7, 8, 9] (by decide) rfl
      have hKc := hK.sub (tys' := [(k6, .boolean), (k10, .int), (k4, .short), (k11, .int)]) [5, 6, 7, 8] rfl
      have hFc := va_free (wc := [(h0, .inr (13, mX13 q0 (upd (upd (upd (upd v0 1 (u6_ 0)) 18 (u20_ 0)) 20 (u6_ 1)) 21 0))), ((q0 7), zi k6 120 f6), ((q0 11), zi k10 120 f10), ((q0 5), zi k4 122880 f4), ((q0 12), zi k11 120 f11)]) hD hS hA [0, 6, 7, 8, 9] rfl
      refine va_calli (va_runV (As := [.int r24_]) (rest := []) ⟨hx, hb, hml, hown, hG⟩ (sX13_keepers_0 l dC dI adK adV h0 q0 k6 k10 k4 k11 H.size (upd (upd (upd (upd v0 1 (u6_ 0)) 18 (u20_ 0)) 20 (u6_ 1)) 21 0) f6 f10 f4 f11 r24_ (zR_updF (zR_up2 (zR_up2 (zR_up2 hv0 1 (show (0 : Int) ≤ ((u6_ 0) : Int32).toInt ∧ ((u6_ 0) : Int32).toInt ≤ (600 : Int) from (by first | with_reducible assumption | exact ⟨by omega, by omega⟩))) 18 (show ((-1) : Int) ≤ ((u20_ 0) : Int32).toInt ∧ ((u20_ 0) : Int32).toInt ≤ (12 : Int) from (by first | with_reducible assumption | exact ⟨by omega, by omega⟩))) 20 (show (0 : Int) ≤ ((u6_ 1) : Int32).toInt ∧ ((u6_ 1) : Int32).toInt ≤ (12 : Int) from (by first | with_reducible assumption | exact ⟨by omega, by omega⟩))) 21 rfl) hf10 hf4 hf11 (show (0 : Int) ≤ (r24_ : Int32).toInt ∧ (r24_ : Int32).toInt ≤ (399 : Int) from (by first | with_reducible assumption | exact ⟨by omega, by omega⟩))) (cwV 1 hG (zgV zv1975 zv1977 zv70 zv142 zv1978) rfl rfl rfl (by decide +kernel) ⟨Nat.le_of_ble_eq_true rfl, Nat.le_of_ble_eq_true rfl⟩) ⟨zPc_blind, va_recv hKc hPc (ci := 13) (q0 := 0) rfl rfl, zPc_pre hPc hKc hDc hE hS hFc hZ⟩ rfl rfl hl.1 rfl (lv_room (Nat.le_of_ble_eq_true rfl)) dX13_look_39 ⟨Nat.le_of_ble_eq_true rfl, Nat.le_of_ble_eq_true rfl⟩) hS (fun q _ h => hFc q h) hFc (fun r39_ u39_ t H1 locs ht hvm hw hB hz1 hk1 hS => ?_)
      obtain ⟨w39_, a39_, b39_, hP1, hK1, hD1⟩ := hB
      rw [ht] at hP1
      obtain ⟨hP, hD⟩ := va_join (wr := [((q0 0), zi k1 600 f1), ((q0 19), zi k15 12 (a6_ 0)), ((q0 17), zi k14 12 (a20_ 0)), ((q0 3), zi k3 400 f3), ((q0 2), zi k2 4800 f2)]) (w1 := [(h0, .inr (13, mX13 q0 (upd (upd (upd (upd v0 1 (u6_ 0)) 18 (u20_ 0)) 20 (u6_ 1)) 21 0))), ((q0 7), zi k6 120 f6), ((q0 11), zi k10 120 f10), ((q0 5), zi k4 122880 f4), ((q0 12), zi k11 120 f11)]) hP hD [0, 6, 7, 8, 9] [1, 2, 3, 4, 5] rfl rfl (by decide) (by decide) hk1 hFc hP1 hD1
      have hP : va_P (dC, dI) vwCl [(h0, .inr (13, mX13 q0 (upd (upd (upd (upd v0 1 (u6_ 0)) 18 (u20_ 0)) 20 (u6_ 1)) 21 0))), ((q0 0), zi k1 600 f1), ((q0 19), zi k15 12 (a6_ 0)), ((q0 17), zi k14 12 (a20_ 0)), ((q0 3), zi k3 400 f3), ((q0 2), zi k2 4800 f2), ((q0 7), zi k6 120 f6), ((q0 11), zi k10 120 f10), ((q0 5), zi k4 122880 f4), ((q0 12), zi k11 120 f11)] H1 := hP.sub [5, 0, 1, 2, 3, 4, 6, 7, 8, 9] rfl
      have hD : va_D A [(h0, .inr (13, mX13 q0 (upd (upd (upd (upd v0 1 (u6_ 0)) 18 (u20_ 0)) 20 (u6_ 1)) 21 0))), ((q0 0), zi k1 600 f1), ((q0 19), zi k15 12 (a6_ 0)), ((q0 17), zi k14 12 (a20_ 0)), ((q0 3), zi k3 400 f3), ((q0 2), zi k2 4800 f2), ((q0 7), zi k6 120 f6), ((q0 11), zi k10 120 f10), ((q0 5), zi k4 122880 f4), ((q0 12), zi k11 120 f11)] := hD.sub [5, 0, 1, 2, 3, 4, 6, 7, 8, 9] (by decide) rfl
      generalize H1 = H at hP hS ⊢
      clear hz1
      refine W.widen (k := 0) (n := 0) (by decide) (by decide) ?_
      have b_ : -2147483648 ≤ r39_.toInt ∧ r39_.toInt ≤ 2147483647 := ⟨zlo _, zhi _⟩
      have hpost : (0 ≤ (u6_ 0).toInt ∧ (u6_ 0).toInt ≤ 0) ∧ (0 ≤ (u20_ 0).toInt ∧ (u20_ 0).toInt ≤ 12) ∧ (0 ≤ (u6_ 1).toInt ∧ (u6_ 1).toInt ≤ 12) ∧ (0 ≤ (0 : Int32).toInt ∧ (0 : Int32).toInt ≤ 0) := ⟨(by first | with_reducible assumption | exact ⟨by omega, by omega⟩), (by first | with_reducible assumption | exact ⟨by omega, by omega⟩), (by first | with_reducible assumption | exact ⟨by omega, by omega⟩), (by first | with_reducible assumption | exact ⟨by omega, by omega⟩)⟩
      have hP9 : va_P (dC, dI) vwCl [(h0, .inr (13, mX13 q0 (upd (upd (upd (upd v0 1 (u6_ 0)) 18 (u20_ 0)) 20 (u6_ 1)) 21 0))), ((q0 0), zi k1 600 f1), ((q0 19), zi k15 12 (a6_ 0)), ((q0 17), zi k14 12 (a20_ 0)), ((q0 3), zi k3 400 f3), ((q0 2), zi k2 4800 f2), ((q0 7), zi k6 120 f6), ((q0 11), zi k10 120 f10), ((q0 5), zi k4 122880 f4), ((q0 12), zi k11 120 f11)] H := hP
      have hD9 : va_D A [(h0, .inr (13, mX13 q0 (upd (upd (upd (upd v0 1 (u6_ 0)) 18 (u20_ 0)) 20 (u6_ 1)) 21 0))), ((q0 0), zi k1 600 f1), ((q0 19), zi k15 12 (a6_ 0)), ((q0 17), zi k14 12 (a20_ 0)), ((q0 3), zi k3 400 f3), ((q0 2), zi k2 4800 f2), ((q0 7), zi k6 120 f6), ((q0 11), zi k10 120 f10), ((q0 5), zi k4 122880 f4), ((q0 12), zi k11 120 f11)] := hD
      exact W.iret (v := r39_) hx hb hr (fun t ht hW => ⟨⟨r39_, (fun i => ([(u6_ 0), (u20_ 0), (u6_ 1), 0] : List (Int32)).getD i 0), rfl, hpost, (fun _ => 0), (fun i => ([(a6_ 0), (a20_ 0)] : List (Nat → Int32)).getD i (fun _ => 0)), (fun _ => (fun _ => 0)), by rw [ht]; exact hP9, va_K.moved hW.alike hK, hD9⟩, hS.F ht⟩) hS.2.2 dX13_look_42
    · skip
      have b_ := zF_ne rfl zk_m1 c_
      refine lv_iconst (v := 0) hx hb dX13_look_33 (by decide) ?_
      refine lv_goto (tgt := 42) hx hb dX13_look_34 (by decide) ?_
      refine W.widen (k := 0) (n := 0) (by decide) (by decide) ?_
      have hpost : (0 ≤ (u6_ 0).toInt ∧ (u6_ 0).toInt ≤ 0) ∧ (0 ≤ (u20_ 0).toInt ∧ (u20_ 0).toInt ≤ 12) ∧ (0 ≤ (u6_ 1).toInt ∧ (u6_ 1).toInt ≤ 12) ∧ (0 ≤ (0 : Int32).toInt ∧ (0 : Int32).toInt ≤ 0) := ⟨(by first | with_reducible assumption | exact ⟨by omega, by omega⟩), (by first | with_reducible assumption | exact ⟨by omega, by omega⟩), (by first | with_reducible assumption | exact ⟨by omega, by omega⟩), (by first | with_reducible assumption | exact ⟨by omega, by omega⟩)⟩
      have hP9 : va_P (dC, dI) vwCl [(h0, .inr (13, mX13 q0 (upd (upd (upd (upd v0 1 (u6_ 0)) 18 (u20_ 0)) 20 (u6_ 1)) 21 0))), ((q0 0), zi k1 600 f1), ((q0 19), zi k15 12 (a6_ 0)), ((q0 17), zi k14 12 (a20_ 0)), ((q0 3), zi k3 400 f3), ((q0 2), zi k2 4800 f2), ((q0 7), zi k6 120 f6), ((q0 11), zi k10 120 f10), ((q0 5), zi k4 122880 f4), ((q0 12), zi k11 120 f11)] H := hP
      have hD9 : va_D A [(h0, .inr (13, mX13 q0 (upd (upd (upd (upd v0 1 (u6_ 0)) 18 (u20_ 0)) 20 (u6_ 1)) 21 0))), ((q0 0), zi k1 600 f1), ((q0 19), zi k15 12 (a6_ 0)), ((q0 17), zi k14 12 (a20_ 0)), ((q0 3), zi k3 400 f3), ((q0 2), zi k2 4800 f2), ((q0 7), zi k6 120 f6), ((q0 11), zi k10 120 f10), ((q0 5), zi k4 122880 f4), ((q0 12), zi k11 120 f11)] := hD
      exact W.iret (v := 0) hx hb hr (fun t ht hW => ⟨⟨0, (fun i => ([(u6_ 0), (u20_ 0), (u6_ 1), 0] : List (Int32)).getD i 0), rfl, hpost, (fun _ => 0), (fun i => ([(a6_ 0), (a20_ 0)] : List (Nat → Int32)).getD i (fun _ => 0)), (fun _ => (fun _ => 0)), by rw [ht]; exact hP9, va_K.moved hW.alike hK, hD9⟩, hS.F ht⟩) hS.2.2 dX13_look_42
  · skip
    have b_ := zF_ne rfl zk_0 c_
    refine lv_aload_n hx hb dX13_look_12 rfl (lv_at hl 0 rfl) ?_
    refine lv_iconst (v := 0) hx hb dX13_look_13 (by decide) ?_
    refine va_put (D := (dC, dI)) (ci := 13) (v := .int 0) (ty := .int) (C := RX13) (T := TX13) (N := 75) hx hb hG zuX13 tyX13 tyX13_ok nmX13 hown hK hP hD hS 0 rfl rfl 18 (by decide) (hG _ zv1622) (fun _ h9 => h9) rfl (by decide +kernel) rfl rfl (Nat.le_of_ble_eq_true rfl) dX13_look_14 (fun H locs hP hD hS => ?_)
    have hP : va_P (dC, dI) vwCl [(h0, .inr (13, mX13 q0 (upd (upd (upd (upd v0 1 (u6_ 0)) 18 0) 20 (u6_ 1)) 21 0))), ((q0 0), zi k1 600 f1), ((q0 19), zi k15 12 (a6_ 0)), ((q0 17), zi k14 12 f14), ((q0 3), zi k3 400 f3), ((q0 2), zi k2 4800 f2), ((q0 7), zi k6 120 f6), ((q0 11), zi k10 120 f10), ((q0 5), zi k4 122880 f4), ((q0 12), zi k11 120 f11)] H := hP
    have hD : va_D A [(h0, .inr (13, mX13 q0 (upd (upd (upd (upd v0 1 (u6_ 0)) 18 0) 20 (u6_ 1)) 21 0))), ((q0 0), zi k1 600 f1), ((q0 19), zi k15 12 (a6_ 0)), ((q0 17), zi k14 12 f14), ((q0 3), zi k3 400 f3), ((q0 2), zi k2 4800 f2), ((q0 7), zi k6 120 f6), ((q0 11), zi k10 120 f10), ((q0 5), zi k4 122880 f4), ((q0 12), zi k11 120 f11)] := hD
    refine lv_iconst (v := 0) hx hb dX13_look_17 (by decide) ?_
    refine W.widen (k := 0) (n := 0) (by decide) (by decide) ?_
    have hpost : (0 ≤ (u6_ 0).toInt ∧ (u6_ 0).toInt ≤ 0) ∧ (0 ≤ (0 : Int32).toInt ∧ (0 : Int32).toInt ≤ 12) ∧ (0 ≤ (u6_ 1).toInt ∧ (u6_ 1).toInt ≤ 12) ∧ (0 ≤ (0 : Int32).toInt ∧ (0 : Int32).toInt ≤ 0) := ⟨(by first | with_reducible assumption | exact ⟨by omega, by omega⟩), (by first | with_reducible assumption | exact ⟨by omega, by omega⟩), (by first | with_reducible assumption | exact ⟨by omega, by omega⟩), (by first | with_reducible assumption | exact ⟨by omega, by omega⟩)⟩
    have hP9 : va_P (dC, dI) vwCl [(h0, .inr (13, mX13 q0 (upd (upd (upd (upd v0 1 (u6_ 0)) 18 0) 20 (u6_ 1)) 21 0))), ((q0 0), zi k1 600 f1), ((q0 19), zi k15 12 (a6_ 0)), ((q0 17), zi k14 12 f14), ((q0 3), zi k3 400 f3), ((q0 2), zi k2 4800 f2), ((q0 7), zi k6 120 f6), ((q0 11), zi k10 120 f10), ((q0 5), zi k4 122880 f4), ((q0 12), zi k11 120 f11)] H := hP
    have hD9 : va_D A [(h0, .inr (13, mX13 q0 (upd (upd (upd (upd v0 1 (u6_ 0)) 18 0) 20 (u6_ 1)) 21 0))), ((q0 0), zi k1 600 f1), ((q0 19), zi k15 12 (a6_ 0)), ((q0 17), zi k14 12 f14), ((q0 3), zi k3 400 f3), ((q0 2), zi k2 4800 f2), ((q0 7), zi k6 120 f6), ((q0 11), zi k10 120 f10), ((q0 5), zi k4 122880 f4), ((q0 12), zi k11 120 f11)] := hD
    exact W.iret (v := 0) hx hb hr (fun t ht hW => ⟨⟨0, (fun i => ([(u6_ 0), 0, (u6_ 1), 0] : List (Int32)).getD i 0), rfl, hpost, (fun _ => 0), (fun i => ([(a6_ 0), f14] : List (Nat → Int32)).getD i (fun _ => 0)), (fun _ => (fun _ => 0)), by rw [ht]; exact hP9, va_K.moved hW.alike hK, hD9⟩, hS.F ht⟩) hS.2.2 dX13_look_18
set_option maxHeartbeats 8000000 in
set_option maxRecDepth 100000 in
theorem sX13_allBits_0 (l : Launch) (dC : Nat → ClassId) (dI : Nat → Nat → Nat) (adK adV : Nat → Nat) (h0 : Nat) (q0 : Nat → Nat) (k17 : ClassId) (k18 : ClassId) (k4 : ClassId) (k6 : ClassId) (k20 : ClassId) (k19 : ClassId) (sz : Nat) (v0 : Nat → Int32) (f17 : Nat → Int32) (f18 : Nat → Int32) (f4 : Nat → Int32) (f6 : Nat → Int32) (f20 : Nat → Int32) (f19 : Nat → Int32) (hv0 : zR rg_Model v0) (hf18 : zA (-1) 119 f18) (hf4 : zA 0 400 f4) (hf19 : zA (-1) 1023 f19) : Met l yX13_allBits (zw yX13_allBits cX13_allBits 3 (some .int)) { frames := 3, cells := 0, slots := 0, locals := 65 } (zPc dC dI adK adV [.ref h0] sz [(h0, .inr (13, mX13 q0 v0)), ((q0 25), zi k17 400 f17), ((q0 26), zi k18 400 f18), ((q0 5), zi k4 122880 f4), ((q0 7), zi k6 120 f6), ((q0 28), zi k20 400 f20), ((q0 27), zi k19 400 f19)] [(k17, .int), (k18, .int), (k4, .short), (k6, .boolean), (k20, .int), (k19, .int)]) (va_Qi (fun (r : Int32) (u : Nat → Int32) => True) (fun (u : Nat → Int32) (t : State) => ∃ (ww : Nat → Int64) (aa : Nat → Nat → Int32) (bb : Nat → Nat → Int64), zA (-1) 119 (aa 1) ∧ zA (-1) 1023 (aa 3) ∧ va_P (dC, dI) vwCl [(h0, .inr (13, mX13 q0 v0)), ((q0 25), zi k17 400 (aa 0)), ((q0 26), zi k18 400 (aa 1)), ((q0 5), zi k4 122880 f4), ((q0 7), zi k6 120 f6), ((q0 28), zi k20 400 (aa 2)), ((q0 27), zi k19 400 (aa 3))] t.heap ∧ va_K (dC, dI) vwCl [(k17, .int), (k18, .int), (k4, .short), (k6, .boolean), (k20, .int), (k19, .int)] t ∧ va_D (va_A [(h0, .inr (13, mX13 q0 v0)), ((q0 25), zi k17 400 f17), ((q0 26), zi k18 400 f18), ((q0 5), zi k4 122880 f4), ((q0 7), zi k6 120 f6), ((q0 28), zi k20 400 f20), ((q0 27), zi k19 400 f19)] sz) [(h0, .inr (13, mX13 q0 v0)), ((q0 25), zi k17 400 (aa 0)), ((q0 26), zi k18 400 (aa 1)), ((q0 5), zi k4 122880 f4), ((q0 7), zi k6 120 f6), ((q0 28), zi k20 400 (aa 2)), ((q0 27), zi k19 400 (aa 3))]) (va_A [(h0, .inr (13, mX13 q0 v0)), ((q0 25), zi k17 400 f17), ((q0 26), zi k18 400 f18), ((q0 5), zi k4 122880 f4), ((q0 7), zi k6 120 f6), ((q0 28), zi k20 400 f20), ((q0 27), zi k19 400 f19)] sz)) 0 0 (va_A [(h0, .inr (13, mX13 q0 v0)), ((q0 25), zi k17 400 f17), ((q0 26), zi k18 400 f18), ((q0 5), zi k4 122880 f4), ((q0 7), zi k6 120 f6), ((q0 28), zi k20 400 f20), ((q0 27), zi k19 400 f19)] sz) := by
  refine Met.ofW (cc := cX13_allBits) (maxL := 3) (ret := (some .int)) (by decide) rfl ?_
  intro p e s m args below meth c s₁ B hml hv
  obtain ⟨rfl, hsz, hP, hK, hD0, hE, hZ⟩ := hv
  have hx := B.exec
  have hb := B.bytes
  have hr := B.returns
  have hG : ∀ w ∈ zG, w.before _ s = true := fun w h => atoms_spec (ws := (zw yX13_allBits cX13_allBits 3 (some .int))) B.pre w (List.mem_cons_of_mem _ h)
  have hown : s.vm.findClass RX13 = some m.cls := findClass_of_methodNamed B.named
  have hlocks := B.notSynchronized

  subst hsz
  have hD := hD0.self (sz := s.heap.size)
  generalize hAe : va_A [(h0, .inr (13, mX13 q0 v0)), ((q0 25), zi k17 400 f17), ((q0 26), zi k18 400 f18), ((q0 5), zi k4 122880 f4), ((q0 7), zi k6 120 f6), ((q0 28), zi k20 400 f20), ((q0 27), zi k19 400 f19)] s.heap.size = A at hD hZ ⊢
  have hA : ∀ q : Nat, s.heap.size ≤ q → A q := fun q h => by rw [← hAe]; exact Or.inr h
  have hS : va_S A s.heap s.heap [] := va_S.rf
  have hl := lv_entry ([.ref h0]) (n := 3) (Nat.le_of_ble_eq_true rfl)
  rw [lg_entry_eq]
  generalize (lg_sl ([.ref h0]) ++ List.replicate (3 - (lg_sl ([.ref h0])).length) Slot.unset).toArray = ls at hl ⊢
  have hl : lv_has ls 3 [(0, .ref h0)] := hl
  have b_ := zk_0
  refine lv_aload_n hx hb dX13_allBits_0 rfl (lv_at hl 0 rfl) ?_
  have hPc := hP.sub (ws' := [(h0, .inr (13, mX13 q0 v0)), ((q0 25), zi k17 400 f17), ((q0 26), zi k18 400 f18), ((q0 5), zi k4 122880 f4), ((q0 7), zi k6 120 f6), ((q0 28), zi k20 400 f20), ((q0 27), zi k19 400 f19)]) [0, 1, 2, 3, 4, 5, 6] rfl
  have hDc := hD.sub (ws' := [(h0, .inr (13, mX13 q0 v0)), ((q0 25), zi k17 400 f17), ((q0 26), zi k18 400 f18), ((q0 5), zi k4 122880 f4), ((q0 7), zi k6 120 f6), ((q0 28), zi k20 400 f20), ((q0 27), zi k19 400 f19)]) [0, 1, 2, 3, 4, 5, 6] (by decide) rfl
  have hKc := hK.sub (tys' := [(k17, .int), (k18, .int), (k4, .short), (k6, .boolean), (k20, .int), (k19, .int)]) [0, 1, 2, 3, 4, 5] rfl
  have hFc := va_free (wc := [(h0, .inr (13, mX13 q0 v0)), ((q0 25), zi k17 400 f17), ((q0 26), zi k18 400 f18), ((q0 5), zi k4 122880 f4), ((q0 7), zi k6 120 f6), ((q0 28), zi k20 400 f20), ((q0 27), zi k19 400 f19)]) hD hS hA [0, 1, 2, 3, 4, 5, 6] rfl
  refine va_callv (va_runV (As := []) (rest := []) ⟨hx, hb, hml, hown, hG⟩ (sX13_measure_0 l dC dI adK adV h0 q0 k17 k18 k4 k6 k20 k19 s.heap.size v0 f17 f18 f4 f6 f20 f19 hv0 hf18 hf4 hf19) (cwV 0 hG (zgV zv1902 zv1904 zv60 zv142 zv1905) rfl rfl rfl (by decide +kernel) ⟨Nat.le_of_ble_eq_true rfl, Nat.le_of_ble_eq_true rfl⟩) ⟨zPc_blind, va_recv hKc hPc (ci := 13) (q0 := 0) rfl rfl, zPc_pre hPc hKc hDc hE hS hFc hZ⟩ rfl rfl hl.1 rfl (lv_room (Nat.le_of_ble_eq_true rfl)) dX13_allBits_1 ⟨Nat.le_of_ble_eq_true rfl, Nat.le_of_ble_eq_true rfl⟩) hS (fun q _ h => hFc q h) hFc (fun u1_ t H1 locs ht hvm hw hB hz1 hk1 hS => ?_)
  obtain ⟨w1_, a1_, b1_, ha1_1, ha1_3, hB1_0, hP1, hK1, hD1⟩ := hB
  have hB1_0 : zM1 (a1_ 0) (a1_ 1) f4 f6 (v0 4).toInt (v0 13).toInt := hB1_0
  rw [ht] at hP1
  obtain ⟨hP, hD⟩ := va_join (wr := []) (w1 := [(h0, .inr (13, mX13 q0 v0)), ((q0 25), zi k17 400 (a1_ 0)), ((q0 26), zi k18 400 (a1_ 1)), ((q0 5), zi k4 122880 f4), ((q0 7), zi k6 120 f6), ((q0 28), zi k20 400 (a1_ 2)), ((q0 27), zi k19 400 (a1_ 3))]) hP hD [0, 1, 2, 3, 4, 5, 6] [] rfl rfl (by decide) (by decide) hk1 hFc hP1 hD1
  have hP : va_P (dC, dI) vwCl [(h0, .inr (13, mX13 q0 v0)), ((q0 25), zi k17 400 (a1_ 0)), ((q0 26), zi k18 400 (a1_ 1)), ((q0 5), zi k4 122880 f4), ((q0 7), zi k6 120 f6), ((q0 28), zi k20 400 (a1_ 2)), ((q0 27), zi k19 400 (a1_ 3))] H1 := hP.sub [0, 1, 2, 3, 4, 5, 6] rfl
  have hD : va_D A [(h0, .inr (13, mX13 q0 v0)), ((q0 25), zi k17 400 (a1_ 0)), ((q0 26), zi k18 400 (a1_ 1)), ((q0 5), zi k4 122880 f4), ((q0 7), zi k6 120 f6), ((q0 28), zi k20 400 (a1_ 2)), ((q0 27), zi k19 400 (a1_ 3))] := hD.sub [0, 1, 2, 3, 4, 5, 6] (by decide) rfl
  generalize H1 = H at hP hS ⊢
  clear hz1
  refine lv_iconst (v := 0) hx hb dX13_allBits_4 (by decide) ?_
  refine lv_istore_n (lv' := [(1, .int 0), (0, .ref h0)]) hx hb dX13_allBits_5 rfl hl (by decide) rfl (fun ls hl => ?_)
  refine lv_iconst (v := 0) hx hb dX13_allBits_6 (by decide) ?_
  refine lv_istore_n (lv' := [(2, .int 0), (1, .int 0), (0, .ref h0)]) hx hb dX13_allBits_7 rfl hl (by decide) rfl (fun ls hl => ?_)
  refine zcutL (fun u8_ => (400 - (u8_ 1).toInt).toNat) (fun H locs ls u8_ w8_ a8_ b8_ => va_P (dC, dI) vwCl [(h0, .inr (13, mX13 q0 v0)), ((q0 25), zi k17 400 (a1_ 0)), ((q0 26), zi k18 400 (a1_ 1)), ((q0 5), zi k4 122880 f4), ((q0 7), zi k6 120 f6), ((q0 28), zi k20 400 (a1_ 2)), ((q0 27), zi k19 400 (a1_ 3))] H ∧ va_D A [(h0, .inr (13, mX13 q0 v0)), ((q0 25), zi k17 400 (a1_ 0)), ((q0 26), zi k18 400 (a1_ 1)), ((q0 5), zi k4 122880 f4), ((q0 7), zi k6 120 f6), ((q0 28), zi k20 400 (a1_ 2)), ((q0 27), zi k19 400 (a1_ 3))] ∧ va_S A s.heap H locs ∧ lv_has ls 3 [(0, .ref h0), (1, .int (u8_ 0)), (2, .int (u8_ 1))] ∧ (0 ≤ (u8_ 1).toInt ∧ (u8_ 1).toInt ≤ 400)) (fun ls u8_ w8_ => F0 m 8 ls []) 0 0 ?_ (fun hJ8 => ?_)
  · skip
    intro H locs ls u8_ w8_ a8_ b8_ hc hJ8
    obtain ⟨hP, hD, hS, hl, b_⟩ := hc
    refine lv_iload_n hx hb dX13_allBits_8 rfl (lv_at hl 2 rfl) ?_
    refine lv_aload_n hx hb dX13_allBits_9 rfl (lv_at hl 0 rfl) ?_
    have b_ : 0 ≤ (v0 4).toInt ∧ (v0 4).toInt ≤ 400 := hv0 4
    refine va_get (D := (dC, dI)) (ci := 13) (v := .int (v0 4)) (C := RX13) (T := TX13) (N := 75) hx hb hG zuX13 hown hK hP 0 rfl rfl 4 (by decide) (hG _ zv1608) (fun _ h9 => h9) rfl dX13_allBits_10 ?_
    refine lv_icmp_ge (tgt := 31) hx hb dX13_allBits_13 (by decide) (fun c_ => ?_) (fun c_ => ?_)
    · skip
      have b_ := zT_ge rfl rfl c_
      refine lv_iload_n hx hb dX13_allBits_31 rfl (lv_at hl 1 rfl) ?_
      refine W.widen (k := 0) (n := 0) (by decide) (by decide) ?_
      have b_ : -2147483648 ≤ (u8_ 0).toInt ∧ (u8_ 0).toInt ≤ 2147483647 := ⟨zlo _, zhi _⟩
      have hpost : True := trivial
      have hP9 : va_P (dC, dI) vwCl [(h0, .inr (13, mX13 q0 v0)), ((q0 25), zi k17 400 (a1_ 0)), ((q0 26), zi k18 400 (a1_ 1)), ((q0 5), zi k4 122880 f4), ((q0 7), zi k6 120 f6), ((q0 28), zi k20 400 (a1_ 2)), ((q0 27), zi k19 400 (a1_ 3))] H := hP
      have hD9 : va_D A [(h0, .inr (13, mX13 q0 v0)), ((q0 25), zi k17 400 (a1_ 0)), ((q0 26), zi k18 400 (a1_ 1)), ((q0 5), zi k4 122880 f4), ((q0 7), zi k6 120 f6), ((q0 28), zi k20 400 (a1_ 2)), ((q0 27), zi k19 400 (a1_ 3))] := hD
      exact W.iret (v := (u8_ 0)) hx hb hr (fun t ht hW => ⟨⟨(u8_ 0), (fun _ => 0), rfl, hpost, (fun _ => 0), (fun i => ([(a1_ 0), (a1_ 1), (a1_ 2), (a1_ 3)] : List (Nat → Int32)).getD i (fun _ => 0)), (fun _ => (fun _ => 0)), ha1_1, ha1_3, by rw [ht]; exact hP9, va_K.moved hW.alike hK, hD9⟩, hS.F ht⟩) hS.2.2 dX13_allBits_32
    · skip
      have b_ := zF_ge rfl rfl c_
      refine lv_iload_n hx hb dX13_allBits_16 rfl (lv_at hl 1 rfl) ?_
      refine lv_aload_n hx hb dX13_allBits_17 rfl (lv_at hl 0 rfl) ?_
      refine va_get (D := (dC, dI)) (ci := 13) (v := .ref (q0 25)) (C := RX13) (T := TX13) (N := 75) hx hb hG zuX13 hown hK hP 0 rfl rfl 25 (by decide) (hG _ zv1629) (fun _ h9 => h9) rfl dX13_allBits_18 ?_
      refine lv_iload_n hx hb dX13_allBits_21 rfl (lv_at hl 2 rfl) ?_
      refine va_iald hx hb hK hP 1 0 rfl rfl (zin_lit ⟨by omega, by omega⟩) dX13_allBits_22 ?_
      refine lv_topi (fun z22 e_z22 => ?_)
      have b_ : -2147483648 ≤ (u8_ 0).toInt ∧ (u8_ 0).toInt ≤ 2147483647 := ⟨zlo _, zhi _⟩
      have b_ : -2147483648 ≤ z22.toInt ∧ z22.toInt ≤ 2147483647 := ⟨zlo _, zhi _⟩
      refine lv_iadd hx hb dX13_allBits_23 ?_
      refine lv_topi (fun z23 e_z23 => ?_)
      refine lv_istore_n (lv' := [(1, .int z23), (0, .ref h0), (2, .int (u8_ 1))]) hx hb dX13_allBits_24 rfl hl (by decide) rfl (fun ls hl => ?_)
      obtain ⟨z25, e_z25⟩ : ∃ z : Int32, z = (u8_ 1) + Int32.ofInt 1 := ⟨_, rfl⟩
      have b_ := zadd (x := (u8_ 1)) (y := Int32.ofInt 1) rfl (show (Int32.ofInt 1).toInt = 1 from by decide) e_z25 (by omega) (by omega)
      refine lv_iinc (v := z25) (lv' := [(2, .int z25), (1, .int z23), (0, .ref h0)]) hx hb dX13_allBits_25 hl (k := 2) rfl e_z25.symm (by decide) rfl (fun ls hl => ?_)
      refine lv_goto (tgt := 8) hx hb dX13_allBits_28 (by decide) ?_
      have b_ : -2147483648 ≤ z23.toInt ∧ z23.toInt ≤ 2147483647 := ⟨zlo _, zhi _⟩
      have hc : va_P (dC, dI) vwCl [(h0, .inr (13, mX13 q0 v0)), ((q0 25), zi k17 400 (a1_ 0)), ((q0 26), zi k18 400 (a1_ 1)), ((q0 5), zi k4 122880 f4), ((q0 7), zi k6 120 f6), ((q0 28), zi k20 400 (a1_ 2)), ((q0 27), zi k19 400 (a1_ 3))] H ∧ va_D A [(h0, .inr (13, mX13 q0 v0)), ((q0 25), zi k17 400 (a1_ 0)), ((q0 26), zi k18 400 (a1_ 1)), ((q0 5), zi k4 122880 f4), ((q0 7), zi k6 120 f6), ((q0 28), zi k20 400 (a1_ 2)), ((q0 27), zi k19 400 (a1_ 3))] ∧ va_S A s.heap H locs ∧ lv_has ls 3 [(0, .ref h0), (1, .int z23), (2, .int z25)] ∧ (0 ≤ z25.toInt ∧ z25.toInt ≤ 400) := ⟨hP, hD, hS, lv_sub hl [2, 1, 0] rfl, (by first | with_reducible assumption | exact ⟨by omega, by omega⟩)⟩
      exact hJ8 H locs ls (fun i => ([z23, z25] : List (Int32)).getD i 0) (fun _ => 0) (fun _ => (fun _ => 0)) (fun _ => (fun _ => 0)) hc (show (400 - z25.toInt).toNat < (400 - (u8_ 1).toInt).toNat from by omega)
  · skip
    have hc : va_P (dC, dI) vwCl [(h0, .inr (13, mX13 q0 v0)), ((q0 25), zi k17 400 (a1_ 0)), ((q0 26), zi k18 400 (a1_ 1)), ((q0 5), zi k4 122880 f4), ((q0 7), zi k6 120 f6), ((q0 28), zi k20 400 (a1_ 2)), ((q0 27), zi k19 400 (a1_ 3))] H ∧ va_D A [(h0, .inr (13, mX13 q0 v0)), ((q0 25), zi k17 400 (a1_ 0)), ((q0 26), zi k18 400 (a1_ 1)), ((q0 5), zi k4 122880 f4), ((q0 7), zi k6 120 f6), ((q0 28), zi k20 400 (a1_ 2)), ((q0 27), zi k19 400 (a1_ 3))] ∧ va_S A s.heap H locs ∧ lv_has ls 3 [(0, .ref h0), (1, .int 0), (2, .int 0)] ∧ (0 ≤ (0 : Int32).toInt ∧ (0 : Int32).toInt ≤ 400) := ⟨hP, hD, hS, lv_sub hl [2, 1, 0] rfl, (by first | with_reducible assumption | exact ⟨by omega, by omega⟩)⟩
    exact hJ8 H locs ls (fun i => ([0, 0] : List (Int32)).getD i 0) (fun _ => 0) (fun _ => (fun _ => 0)) (fun _ => (fun _ => 0)) hc
set_option maxHeartbeats 8000000 in
set_option maxRecDepth 100000 in
theorem sX13_count_0 (l : Launch) (dC : Nat → ClassId) (dI : Nat → Nat → Nat) (adK adV : Nat → Nat) (h0 : Nat) (q0 : Nat → Nat) (k5 : ClassId) (k17 : ClassId) (k18 : ClassId) (k4 : ClassId) (k6 : ClassId) (k20 : ClassId) (k19 : ClassId) (k2 : ClassId) (k3 : ClassId) (sz : Nat) (v0 : Nat → Int32) (f5 : Nat → Int32) (f17 : Nat → Int32) (f18 : Nat → Int32) (f4 : Nat → Int32) (f6 : Nat → Int32) (f20 : Nat → Int32) (f19 : Nat → Int32) (f2 : Nat → Int32) (f3 : Nat → Int32) (x1 : Int32) (hv0 : zR rg_Model v0) (hf18 : zA (-1) 119 f18) (hf4 : zA 0 400 f4) (hf19 : zA (-1) 1023 f19) (hf3 : zA 0 12 f3) : Met l yX13_count (zw yX13_count cX13_count 2 (some .int)) { frames := 4, cells := 0, slots := 0, locals := 87 } (zPc dC dI adK adV [.ref h0, .int x1] sz [(h0, .inr (13, mX13 q0 v0)), ((q0 6), zi k5 120 f5), ((q0 25), zi k17 400 f17), ((q0 26), zi k18 400 f18), ((q0 5), zi k4 122880 f4), ((q0 7), zi k6 120 f6), ((q0 28), zi k20 400 f20), ((q0 27), zi k19 400 f19), ((q0 2), zi k2 4800 f2), ((q0 3), zi k3 400 f3)] [(k5, .boolean), (k17, .int), (k18, .int), (k4, .short), (k6, .boolean), (k20, .int), (k19, .int), (k2, .byte), (k3, .int)]) (va_Qi (fun (r : Int32) (u : Nat → Int32) => (0 ≤ (u 0).toInt ∧ (u 0).toInt ≤ 0)) (fun (u : Nat → Int32) (t : State) => ∃ (ww : Nat → Int64) (aa : Nat → Nat → Int32) (bb : Nat → Nat → Int64), zA (-1) 119 (aa 1) ∧ zA (-1) 1023 (aa 3) ∧ va_P (dC, dI) vwCl [(h0, .inr (13, mX13 q0 (upd v0 21 (u 0)))), ((q0 6), zi k5 120 f5), ((q0 25), zi k17 400 (aa 0)), ((q0 26), zi k18 400 (aa 1)), ((q0 5), zi k4 122880 f4), ((q0 7), zi k6 120 f6), ((q0 28), zi k20 400 (aa 2)), ((q0 27), zi k19 400 (aa 3)), ((q0 2), zi k2 4800 f2), ((q0 3), zi k3 400 f3)] t.heap ∧ va_K (dC, dI) vwCl [(k5, .boolean), (k17, .int), (k18, .int), (k4, .short), (k6, .boolean), (k20, .int), (k19, .int), (k2, .byte), (k3, .int)] t ∧ va_D (va_A [(h0, .inr (13, mX13 q0 v0)), ((q0 6), zi k5 120 f5), ((q0 25), zi k17 400 f17), ((q0 26), zi k18 400 f18), ((q0 5), zi k4 122880 f4), ((q0 7), zi k6 120 f6), ((q0 28), zi k20 400 f20), ((q0 27), zi k19 400 f19), ((q0 2), zi k2 4800 f2), ((q0 3), zi k3 400 f3)] sz) [(h0, .inr (13, mX13 q0 (upd v0 21 (u 0)))), ((q0 6), zi k5 120 f5), ((q0 25), zi k17 400 (aa 0)), ((q0 26), zi k18 400 (aa 1)), ((q0 5), zi k4 122880 f4), ((q0 7), zi k6 120 f6), ((q0 28), zi k20 400 (aa 2)), ((q0 27), zi k19 400 (aa 3)), ((q0 2), zi k2 4800 f2), ((q0 3), zi k3 400 f3)]) (va_A [(h0, .inr (13, mX13 q0 v0)), ((q0 6), zi k5 120 f5), ((q0 25), zi k17 400 f17), ((q0 26), zi k18 400 f18), ((q0 5), zi k4 122880 f4), ((q0 7), zi k6 120 f6), ((q0 28), zi k20 400 f20), ((q0 27), zi k19 400 f19), ((q0 2), zi k2 4800 f2), ((q0 3), zi k3 400 f3)] sz)) 0 0 (va_A [(h0, .inr (13, mX13 q0 v0)), ((q0 6), zi k5 120 f5), ((q0 25), zi k17 400 f17), ((q0 26), zi k18 400 f18), ((q0 5), zi k4 122880 f4), ((q0 7), zi k6 120 f6), ((q0 28), zi k20 400 f20), ((q0 27), zi k19 400 f19), ((q0 2), zi k2 4800 f2), ((q0 3), zi k3 400 f3)] sz) := by
  refine Met.ofW (cc := cX13_count) (maxL := 2) (ret := (some .int)) (by decide) rfl ?_
  intro p e s m args below meth c s₁ B hml hv
  obtain ⟨rfl, hsz, hP, hK, hD0, hE, hZ⟩ := hv
  have hx := B.exec
  have hb := B.bytes
  have hr := B.returns
  have hG : ∀ w ∈ zG, w.before _ s = true := fun w h => atoms_spec (ws := (zw yX13_count cX13_count 2 (some .int))) B.pre w (List.mem_cons_of_mem _ h)
  have hown : s.vm.findClass RX13 = some m.cls := findClass_of_methodNamed B.named
  have hlocks := B.notSynchronized

  subst hsz
  have hD := hD0.self (sz := s.heap.size)
  generalize hAe : va_A [(h0, .inr (13, mX13 q0 v0)), ((q0 6), zi k5 120 f5), ((q0 25), zi k17 400 f17), ((q0 26), zi k18 400 f18), ((q0 5), zi k4 122880 f4), ((q0 7), zi k6 120 f6), ((q0 28), zi k20 400 f20), ((q0 27), zi k19 400 f19), ((q0 2), zi k2 4800 f2), ((q0 3), zi k3 400 f3)] s.heap.size = A at hD hZ ⊢
  have hA : ∀ q : Nat, s.heap.size ≤ q → A q := fun q h => by rw [← hAe]; exact Or.inr h
  have hS : va_S A s.heap s.heap [] := va_S.rf
  have hl := lv_entry ([.ref h0, .int x1]) (n := 2) (Nat.le_of_ble_eq_true rfl)
  rw [lg_entry_eq]
  generalize (lg_sl ([.ref h0, .int x1]) ++ List.replicate (2 - (lg_sl ([.ref h0, .int x1])).length) Slot.unset).toArray = ls at hl ⊢
  have hl : lv_has ls 2 [(0, .ref h0), (1, .int x1)] := hl
  have b_ := zk_0
  have b_ := zk_1
  have b_ := zk_2
  have b_ := zk_3
  have b_ := zk_4
  have b_ := zk_5
  have b_ := zk_6
  refine lv_aload_n hx hb dX13_count_0 rfl (lv_at hl 0 rfl) ?_
  refine lv_iconst (v := 0) hx hb dX13_count_1 (by decide) ?_
  refine va_put (D := (dC, dI)) (ci := 13) (v := .int 0) (ty := .int) (C := RX13) (T := TX13) (N := 75) hx hb hG zuX13 tyX13 tyX13_ok nmX13 hown hK hP hD hS 0 rfl rfl 21 (by decide) (hG _ zv1625) (fun _ h9 => h9) rfl (by decide +kernel) rfl rfl (Nat.le_of_ble_eq_true rfl) dX13_count_2 (fun H locs hP hD hS => ?_)
  have hP : va_P (dC, dI) vwCl [(h0, .inr (13, mX13 q0 (upd v0 21 0))), ((q0 6), zi k5 120 f5), ((q0 25), zi k17 400 f17), ((q0 26), zi k18 400 f18), ((q0 5), zi k4 122880 f4), ((q0 7), zi k6 120 f6), ((q0 28), zi k20 400 f20), ((q0 27), zi k19 400 f19), ((q0 2), zi k2 4800 f2), ((q0 3), zi k3 400 f3)] H := hP
  have hD : va_D A [(h0, .inr (13, mX13 q0 (upd v0 21 0))), ((q0 6), zi k5 120 f5), ((q0 25), zi k17 400 f17), ((q0 26), zi k18 400 f18), ((q0 5), zi k4 122880 f4), ((q0 7), zi k6 120 f6), ((q0 28), zi k20 400 f20), ((q0 27), zi k19 400 f19), ((q0 2), zi k2 4800 f2), ((q0 3), zi k3 400 f3)] := hD
  refine lv_iload_n hx hb dX13_count_5 rfl (lv_at hl 1 rfl) ?_
  rcases Classical.em (x1 = (0 : Int32)) with c_ | c_
  · skip
    have b_ : x1.toInt = 0 := by rw [c_]; exact zk_0
    refine lv_tableIn (off := 42) (tgt := 48) hx hb dX13_count_6 (by omega) (by omega) (by rw [b_]; decide) (by decide) ?_
    refine lv_aload_n hx hb dX13_count_48 rfl (lv_at hl 0 rfl) ?_
    have b_ : 0 ≤ (v0 13).toInt ∧ (v0 13).toInt ≤ 120 := hv0 13
    refine va_get (D := (dC, dI)) (ci := 13) (v := .int (v0 13)) (C := RX13) (T := TX13) (N := 75) hx hb hG zuX13 hown hK hP 0 rfl rfl 13 (by decide) (hG _ zv1617) (fun _ h9 => h9) rfl dX13_count_49 ?_
    refine W.widen (k := 0) (n := 0) (by decide) (by decide) ?_
    have hpost : (0 ≤ (0 : Int32).toInt ∧ (0 : Int32).toInt ≤ 0) := (by first | with_reducible assumption | exact ⟨by omega, by omega⟩)
    have hP9 : va_P (dC, dI) vwCl [(h0, .inr (13, mX13 q0 (upd v0 21 0))), ((q0 6), zi k5 120 f5), ((q0 25), zi k17 400 f17), ((q0 26), zi k18 400 f18), ((q0 5), zi k4 122880 f4), ((q0 7), zi k6 120 f6), ((q0 28), zi k20 400 f20), ((q0 27), zi k19 400 f19), ((q0 2), zi k2 4800 f2), ((q0 3), zi k3 400 f3)] H := hP
    have hD9 : va_D A [(h0, .inr (13, mX13 q0 (upd v0 21 0))), ((q0 6), zi k5 120 f5), ((q0 25), zi k17 400 f17), ((q0 26), zi k18 400 f18), ((q0 5), zi k4 122880 f4), ((q0 7), zi k6 120 f6), ((q0 28), zi k20 400 f20), ((q0 27), zi k19 400 f19), ((q0 2), zi k2 4800 f2), ((q0 3), zi k3 400 f3)] := hD
    exact W.iret (v := (v0 13)) hx hb hr (fun t ht hW => ⟨⟨(v0 13), (fun i => ([0] : List (Int32)).getD i 0), rfl, hpost, (fun _ => 0), (fun i => ([f17, f18, f20, f19] : List (Nat → Int32)).getD i (fun _ => 0)), (fun _ => (fun _ => 0)), hf18, hf19, by rw [ht]; exact hP9, va_K.moved hW.alike hK, hD9⟩, hS.F ht⟩) hS.2.2 dX13_count_52
  · skip
    have b_ : x1.toInt ≠ 0 := fun h => c_ (zeqi.mpr (h.trans zk_0.symm))
    rcases Classical.em (x1 = (1 : Int32)) with c_ | c_
    · skip
      have b_ : x1.toInt = 1 := by rw [c_]; exact zk_1
      refine lv_tableIn (off := 47) (tgt := 53) hx hb dX13_count_6 (by omega) (by omega) (by rw [b_]; decide) (by decide) ?_
      refine lv_aload_n hx hb dX13_count_53 rfl (lv_at hl 0 rfl) ?_
      have hPc := hP.sub (ws' := [(h0, .inr (13, mX13 q0 (upd v0 21 0))), ((q0 6), zi k5 120 f5)]) [0, 1] rfl
      have hDc := hD.sub (ws' := [(h0, .inr (13, mX13 q0 (upd v0 21 0))), ((q0 6), zi k5 120 f5)]) [0, 1] (by decide) rfl
      have hKc := hK.sub (tys' := [(k5, .boolean)]) [0] rfl
      have hFc := va_free (wc := [(h0, .inr (13, mX13 q0 (upd v0 21 0))), ((q0 6), zi k5 120 f5)]) hD hS hA [0, 1] rfl
      refine va_calli (va_runV (As := []) (rest := []) ⟨hx, hb, hml, hown, hG⟩ (sX13_standing_0 l dC dI adK adV h0 q0 k5 H.size (upd v0 21 0) f5 (zR_updF hv0 21 rfl)) (cwV 0 hG (zgV zv2022 zv2024 zv78 zv142 zv2025) rfl rfl rfl (by decide +kernel) ⟨Nat.le_of_ble_eq_true rfl, Nat.le_of_ble_eq_true rfl⟩) ⟨zPc_blind, va_recv hKc hPc (ci := 13) (q0 := 0) rfl rfl, zPc_pre hPc hKc hDc hE hS hFc hZ⟩ rfl rfl hl.1 rfl (lv_room (Nat.le_of_ble_eq_true rfl)) dX13_count_54 ⟨Nat.le_of_ble_eq_true rfl, Nat.le_of_ble_eq_true rfl⟩) hS (fun q _ h => hFc q h) hFc (fun r54_ u54_ t H1 locs ht hvm hw hB hz1 hk1 hS => ?_)
      replace hw : (0 ≤ r54_.toInt ∧ r54_.toInt ≤ 120) ∧ (zStn f5 (v0 13).toInt r54_.toInt) := hw
      obtain ⟨b_, hX54_0⟩ := hw
      obtain ⟨w54_, a54_, b54_, hP1, hK1, hD1⟩ := hB
      rw [ht] at hP1
      obtain ⟨hP, hD⟩ := va_join (wr := [((q0 25), zi k17 400 f17), ((q0 26), zi k18 400 f18), ((q0 5), zi k4 122880 f4), ((q0 7), zi k6 120 f6), ((q0 28), zi k20 400 f20), ((q0 27), zi k19 400 f19), ((q0 2), zi k2 4800 f2), ((q0 3), zi k3 400 f3)]) (w1 := [(h0, .inr (13, mX13 q0 (upd v0 21 0))), ((q0 6), zi k5 120 f5)]) hP hD [0, 1] [2, 3, 4, 5, 6, 7, 8, 9] rfl rfl (by decide) (by decide) hk1 hFc hP1 hD1
      have hP : va_P (dC, dI) vwCl [(h0, .inr (13, mX13 q0 (upd v0 21 0))), ((q0 6), zi k5 120 f5), ((q0 25), zi k17 400 f17), ((q0 26), zi k18 400 f18), ((q0 5), zi k4 122880 f4), ((q0 7), zi k6 120 f6), ((q0 28), zi k20 400 f20), ((q0 27), zi k19 400 f19), ((q0 2), zi k2 4800 f2), ((q0 3), zi k3 400 f3)] H1 := hP.sub [8, 9, 0, 1, 2, 3, 4, 5, 6, 7] rfl
      have hD : va_D A [(h0, .inr (13, mX13 q0 (upd v0 21 0))), ((q0 6), zi k5 120 f5), ((q0 25), zi k17 400 f17), ((q0 26), zi k18 400 f18), ((q0 5), zi k4 122880 f4), ((q0 7), zi k6 120 f6), ((q0 28), zi k20 400 f20), ((q0 27), zi k19 400 f19), ((q0 2), zi k2 4800 f2), ((q0 3), zi k3 400 f3)] := hD.sub [8, 9, 0, 1, 2, 3, 4, 5, 6, 7] (by decide) rfl
      generalize H1 = H at hP hS ⊢
      clear hz1
      refine W.widen (k := 0) (n := 0) (by decide) (by decide) ?_
      have hpost : (0 ≤ (0 : Int32).toInt ∧ (0 : Int32).toInt ≤ 0) := (by first | with_reducible assumption | exact ⟨by omega, by omega⟩)
      have hP9 : va_P (dC, dI) vwCl [(h0, .inr (13, mX13 q0 (upd v0 21 0))), ((q0 6), zi k5 120 f5), ((q0 25), zi k17 400 f17), ((q0 26), zi k18 400 f18), ((q0 5), zi k4 122880 f4), ((q0 7), zi k6 120 f6), ((q0 28), zi k20 400 f20), ((q0 27), zi k19 400 f19), ((q0 2), zi k2 4800 f2), ((q0 3), zi k3 400 f3)] H := hP
      have hD9 : va_D A [(h0, .inr (13, mX13 q0 (upd v0 21 0))), ((q0 6), zi k5 120 f5), ((q0 25), zi k17 400 f17), ((q0 26), zi k18 400 f18), ((q0 5), zi k4 122880 f4), ((q0 7), zi k6 120 f6), ((q0 28), zi k20 400 f20), ((q0 27), zi k19 400 f19), ((q0 2), zi k2 4800 f2), ((q0 3), zi k3 400 f3)] := hD
      exact W.iret (v := r54_) hx hb hr (fun t ht hW => ⟨⟨r54_, (fun i => ([0] : List (Int32)).getD i 0), rfl, hpost, (fun _ => 0), (fun i => ([f17, f18, f20, f19] : List (Nat → Int32)).getD i (fun _ => 0)), (fun _ => (fun _ => 0)), hf18, hf19, by rw [ht]; exact hP9, va_K.moved hW.alike hK, hD9⟩, hS.F ht⟩) hS.2.2 dX13_count_57
    · skip
      have b_ : x1.toInt ≠ 1 := fun h => c_ (zeqi.mpr (h.trans zk_1.symm))
      rcases Classical.em (x1 = (2 : Int32)) with c_ | c_
      · skip
        have b_ : x1.toInt = 2 := by rw [c_]; exact zk_2
        refine lv_tableIn (off := 52) (tgt := 58) hx hb dX13_count_6 (by omega) (by omega) (by rw [b_]; decide) (by decide) ?_
        refine lv_aload_n hx hb dX13_count_58 rfl (lv_at hl 0 rfl) ?_
        have b_ : 0 ≤ (v0 4).toInt ∧ (v0 4).toInt ≤ 400 := hv0 4
        refine va_get (D := (dC, dI)) (ci := 13) (v := .int (v0 4)) (C := RX13) (T := TX13) (N := 75) hx hb hG zuX13 hown hK hP 0 rfl rfl 4 (by decide) (hG _ zv1608) (fun _ h9 => h9) rfl dX13_count_59 ?_
        refine W.widen (k := 0) (n := 0) (by decide) (by decide) ?_
        have hpost : (0 ≤ (0 : Int32).toInt ∧ (0 : Int32).toInt ≤ 0) := (by first | with_reducible assumption | exact ⟨by omega, by omega⟩)
        have hP9 : va_P (dC, dI) vwCl [(h0, .inr (13, mX13 q0 (upd v0 21 0))), ((q0 6), zi k5 120 f5), ((q0 25), zi k17 400 f17), ((q0 26), zi k18 400 f18), ((q0 5), zi k4 122880 f4), ((q0 7), zi k6 120 f6), ((q0 28), zi k20 400 f20), ((q0 27), zi k19 400 f19), ((q0 2), zi k2 4800 f2), ((q0 3), zi k3 400 f3)] H := hP
        have hD9 : va_D A [(h0, .inr (13, mX13 q0 (upd v0 21 0))), ((q0 6), zi k5 120 f5), ((q0 25), zi k17 400 f17), ((q0 26), zi k18 400 f18), ((q0 5), zi k4 122880 f4), ((q0 7), zi k6 120 f6), ((q0 28), zi k20 400 f20), ((q0 27), zi k19 400 f19), ((q0 2), zi k2 4800 f2), ((q0 3), zi k3 400 f3)] := hD
        exact W.iret (v := (v0 4)) hx hb hr (fun t ht hW => ⟨⟨(v0 4), (fun i => ([0] : List (Int32)).getD i 0), rfl, hpost, (fun _ => 0), (fun i => ([f17, f18, f20, f19] : List (Nat → Int32)).getD i (fun _ => 0)), (fun _ => (fun _ => 0)), hf18, hf19, by rw [ht]; exact hP9, va_K.moved hW.alike hK, hD9⟩, hS.F ht⟩) hS.2.2 dX13_count_62
      · skip
        have b_ : x1.toInt ≠ 2 := fun h => c_ (zeqi.mpr (h.trans zk_2.symm))
        rcases Classical.em (x1 = (3 : Int32)) with c_ | c_
        · skip
          have b_ : x1.toInt = 3 := by rw [c_]; exact zk_3
          refine lv_tableIn (off := 57) (tgt := 63) hx hb dX13_count_6 (by omega) (by omega) (by rw [b_]; decide) (by decide) ?_
          refine lv_aload_n hx hb dX13_count_63 rfl (lv_at hl 0 rfl) ?_
          have hPc := hP.sub (ws' := [(h0, .inr (13, mX13 q0 (upd v0 21 0))), ((q0 25), zi k17 400 f17), ((q0 26), zi k18 400 f18), ((q0 5), zi k4 122880 f4), ((q0 7), zi k6 120 f6), ((q0 28), zi k20 400 f20), ((q0 27), zi k19 400 f19), ((q0 2), zi k2 4800 f2), ((q0 3), zi k3 400 f3)]) [0, 2, 3, 4, 5, 6, 7, 8, 9] rfl
          have hDc := hD.sub (ws' := [(h0, .inr (13, mX13 q0 (upd v0 21 0))), ((q0 25), zi k17 400 f17), ((q0 26), zi k18 400 f18), ((q0 5), zi k4 122880 f4), ((q0 7), zi k6 120 f6), ((q0 28), zi k20 400 f20), ((q0 27), zi k19 400 f19), ((q0 2), zi k2 4800 f2), ((q0 3), zi k3 400 f3)]) [0, 2, 3, 4, 5, 6, 7, 8, 9] (by decide) rfl
          have hKc := hK.sub (tys' := [(k17, .int), (k18, .int), (k4, .short), (k6, .boolean), (k20, .int), (k19, .int), (k2, .byte), (k3, .int)]) [1, 2, 3, 4, 5, 6, 7, 8] rfl
          have hFc := va_free (wc := [(h0, .inr (13, mX13 q0 (upd v0 21 0))), ((q0 25), zi k17 400 f17), ((q0 26), zi k18 400 f18), ((q0 5), zi k4 122880 f4), ((q0 7), zi k6 120 f6), ((q0 28), zi k20 400 f20), ((q0 27), zi k19 400 f19), ((q0 2), zi k2 4800 f2), ((q0 3), zi k3 400 f3)]) hD hS hA [0, 2, 3, 4, 5, 6, 7, 8, 9] rfl
          refine va_calli (va_runV (As := []) (rest := []) ⟨hx, hb, hml, hown, hG⟩ (sX13_taken_0 l dC dI adK adV h0 q0 k17 k18 k4 k6 k20 k19 k2 k3 H.size (upd v0 21 0) f17 f18 f4 f6 f20 f19 f2 f3 (zR_updF hv0 21 rfl) hf18 hf4 hf19 hf3) (cwV 0 hG (zgV zv1898 zv1900 zv59 zv142 zv1901) rfl rfl rfl (by decide +kernel) ⟨Nat.le_of_ble_eq_true rfl, Nat.le_of_ble_eq_true rfl⟩) ⟨zPc_blind, va_recv hKc hPc (ci := 13) (q0 := 0) rfl rfl, zPc_pre hPc hKc hDc hE hS hFc hZ⟩ rfl rfl hl.1 rfl (lv_room (Nat.le_of_ble_eq_true rfl)) dX13_count_64 ⟨Nat.le_of_ble_eq_true rfl, Nat.le_of_ble_eq_true rfl⟩) hS (fun q _ h => hFc q h) hFc (fun r64_ u64_ t H1 locs ht hvm hw hB hz1 hk1 hS => ?_)
          replace hw : (0 ≤ r64_.toInt ∧ r64_.toInt ≤ 1551465600) ∧ (r64_.toInt = (u64_ 0).toInt) := hw
          obtain ⟨b_, b_⟩ := hw
          obtain ⟨w64_, a64_, b64_, ha64_1, ha64_3, hB64_0, hB64_1, hP1, hK1, hD1⟩ := hB
          have hB64_0 : zTk f4 f6 (v0 4).toInt (v0 13).toInt (u64_ 0).toInt := hB64_0
          have hB64_1 : zTn f2 f3 (v0 4).toInt f4 f6 (v0 13).toInt (u64_ 0).toInt := hB64_1
          rw [ht] at hP1
          obtain ⟨hP, hD⟩ := va_join (wr := [((q0 6), zi k5 120 f5)]) (w1 := [(h0, .inr (13, mX13 q0 (upd v0 21 0))), ((q0 25), zi k17 400 (a64_ 0)), ((q0 26), zi k18 400 (a64_ 1)), ((q0 5), zi k4 122880 f4), ((q0 7), zi k6 120 f6), ((q0 28), zi k20 400 (a64_ 2)), ((q0 27), zi k19 400 (a64_ 3)), ((q0 2), zi k2 4800 f2), ((q0 3), zi k3 400 f3)]) hP hD [0, 2, 3, 4, 5, 6, 7, 8, 9] [1] rfl rfl (by decide) (by decide) hk1 hFc hP1 hD1
          have hP : va_P (dC, dI) vwCl [(h0, .inr (13, mX13 q0 (upd v0 21 0))), ((q0 6), zi k5 120 f5), ((q0 25), zi k17 400 (a64_ 0)), ((q0 26), zi k18 400 (a64_ 1)), ((q0 5), zi k4 122880 f4), ((q0 7), zi k6 120 f6), ((q0 28), zi k20 400 (a64_ 2)), ((q0 27), zi k19 400 (a64_ 3)), ((q0 2), zi k2 4800 f2), ((q0 3), zi k3 400 f3)] H1 := hP.sub [1, 0, 2, 3, 4, 5, 6, 7, 8, 9] rfl
          have hD : va_D A [(h0, .inr (13, mX13 q0 (upd v0 21 0))), ((q0 6), zi k5 120 f5), ((q0 25), zi k17 400 (a64_ 0)), ((q0 26), zi k18 400 (a64_ 1)), ((q0 5), zi k4 122880 f4), ((q0 7), zi k6 120 f6), ((q0 28), zi k20 400 (a64_ 2)), ((q0 27), zi k19 400 (a64_ 3)), ((q0 2), zi k2 4800 f2), ((q0 3), zi k3 400 f3)] := hD.sub [1, 0, 2, 3, 4, 5, 6, 7, 8, 9] (by decide) rfl
          generalize H1 = H at hP hS ⊢
          clear hz1
          refine W.widen (k := 0) (n := 0) (by decide) (by decide) ?_
          have hpost : (0 ≤ (0 : Int32).toInt ∧ (0 : Int32).toInt ≤ 0) := (by first | with_reducible assumption | exact ⟨by omega, by omega⟩)
          have hP9 : va_P (dC, dI) vwCl [(h0, .inr (13, mX13 q0 (upd v0 21 0))), ((q0 6), zi k5 120 f5), ((q0 25), zi k17 400 (a64_ 0)), ((q0 26), zi k18 400 (a64_ 1)), ((q0 5), zi k4 122880 f4), ((q0 7), zi k6 120 f6), ((q0 28), zi k20 400 (a64_ 2)), ((q0 27), zi k19 400 (a64_ 3)), ((q0 2), zi k2 4800 f2), ((q0 3), zi k3 400 f3)] H := hP
          have hD9 : va_D A [(h0, .inr (13, mX13 q0 (upd v0 21 0))), ((q0 6), zi k5 120 f5), ((q0 25), zi k17 400 (a64_ 0)), ((q0 26), zi k18 400 (a64_ 1)), ((q0 5), zi k4 122880 f4), ((q0 7), zi k6 120 f6), ((q0 28), zi k20 400 (a64_ 2)), ((q0 27), zi k19 400 (a64_ 3)), ((q0 2), zi k2 4800 f2), ((q0 3), zi k3 400 f3)] := hD
          exact W.iret (v := r64_) hx hb hr (fun t ht hW => ⟨⟨r64_, (fun i => ([0] : List (Int32)).getD i 0), rfl, hpost, (fun _ => 0), (fun i => ([(a64_ 0), (a64_ 1), (a64_ 2), (a64_ 3)] : List (Nat → Int32)).getD i (fun _ => 0)), (fun _ => (fun _ => 0)), ha64_1, ha64_3, by rw [ht]; exact hP9, va_K.moved hW.alike hK, hD9⟩, hS.F ht⟩) hS.2.2 dX13_count_67
        · skip
          have b_ : x1.toInt ≠ 3 := fun h => c_ (zeqi.mpr (h.trans zk_3.symm))
          rcases Classical.em (x1 = (4 : Int32)) with c_ | c_
          · skip
            have b_ : x1.toInt = 4 := by rw [c_]; exact zk_4
            refine lv_tableIn (off := 62) (tgt := 68) hx hb dX13_count_6 (by omega) (by omega) (by rw [b_]; decide) (by decide) ?_
            refine lv_aload_n hx hb dX13_count_68 rfl (lv_at hl 0 rfl) ?_
            have hPc := hP.sub (ws' := [(h0, .inr (13, mX13 q0 (upd v0 21 0))), ((q0 25), zi k17 400 f17), ((q0 26), zi k18 400 f18), ((q0 5), zi k4 122880 f4), ((q0 7), zi k6 120 f6), ((q0 28), zi k20 400 f20), ((q0 27), zi k19 400 f19)]) [0, 2, 3, 4, 5, 6, 7] rfl
            have hDc := hD.sub (ws' := [(h0, .inr (13, mX13 q0 (upd v0 21 0))), ((q0 25), zi k17 400 f17), ((q0 26), zi k18 400 f18), ((q0 5), zi k4 122880 f4), ((q0 7), zi k6 120 f6), ((q0 28), zi k20 400 f20), ((q0 27), zi k19 400 f19)]) [0, 2, 3, 4, 5, 6, 7] (by decide) rfl
            have hKc := hK.sub (tys' := [(k17, .int), (k18, .int), (k4, .short), (k6, .boolean), (k20, .int), (k19, .int)]) [1, 2, 3, 4, 5, 6] rfl
            have hFc := va_free (wc := [(h0, .inr (13, mX13 q0 (upd v0 21 0))), ((q0 25), zi k17 400 f17), ((q0 26), zi k18 400 f18), ((q0 5), zi k4 122880 f4), ((q0 7), zi k6 120 f6), ((q0 28), zi k20 400 f20), ((q0 27), zi k19 400 f19)]) hD hS hA [0, 2, 3, 4, 5, 6, 7] rfl
            refine va_calli (va_runV (As := []) (rest := []) ⟨hx, hb, hml, hown, hG⟩ (sX13_allBits_0 l dC dI adK adV h0 q0 k17 k18 k4 k6 k20 k19 H.size (upd v0 21 0) f17 f18 f4 f6 f20 f19 (zR_updF hv0 21 rfl) hf18 hf4 hf19) (cwV 0 hG (zgV zv2026 zv2028 zv79 zv142 zv2029) rfl rfl rfl (by decide +kernel) ⟨Nat.le_of_ble_eq_true rfl, Nat.le_of_ble_eq_true rfl⟩) ⟨zPc_blind, va_recv hKc hPc (ci := 13) (q0 := 0) rfl rfl, zPc_pre hPc hKc hDc hE hS hFc hZ⟩ rfl rfl hl.1 rfl (lv_room (Nat.le_of_ble_eq_true rfl)) dX13_count_69 ⟨Nat.le_of_ble_eq_true rfl, Nat.le_of_ble_eq_true rfl⟩) hS (fun q _ h => hFc q h) hFc (fun r69_ u69_ t H1 locs ht hvm hw hB hz1 hk1 hS => ?_)
            obtain ⟨w69_, a69_, b69_, ha69_1, ha69_3, hP1, hK1, hD1⟩ := hB
            rw [ht] at hP1
            obtain ⟨hP, hD⟩ := va_join (wr := [((q0 6), zi k5 120 f5), ((q0 2), zi k2 4800 f2), ((q0 3), zi k3 400 f3)]) (w1 := [(h0, .inr (13, mX13 q0 (upd v0 21 0))), ((q0 25), zi k17 400 (a69_ 0)), ((q0 26), zi k18 400 (a69_ 1)), ((q0 5), zi k4 122880 f4), ((q0 7), zi k6 120 f6), ((q0 28), zi k20 400 (a69_ 2)), ((q0 27), zi k19 400 (a69_ 3))]) hP hD [0, 2, 3, 4, 5, 6, 7] [1, 8, 9] rfl rfl (by decide) (by decide) hk1 hFc hP1 hD1
            have hP : va_P (dC, dI) vwCl [(h0, .inr (13, mX13 q0 (upd v0 21 0))), ((q0 6), zi k5 120 f5), ((q0 25), zi k17 400 (a69_ 0)), ((q0 26), zi k18 400 (a69_ 1)), ((q0 5), zi k4 122880 f4), ((q0 7), zi k6 120 f6), ((q0 28), zi k20 400 (a69_ 2)), ((q0 27), zi k19 400 (a69_ 3)), ((q0 2), zi k2 4800 f2), ((q0 3), zi k3 400 f3)] H1 := hP.sub [3, 0, 4, 5, 6, 7, 8, 9, 1, 2] rfl
            have hD : va_D A [(h0, .inr (13, mX13 q0 (upd v0 21 0))), ((q0 6), zi k5 120 f5), ((q0 25), zi k17 400 (a69_ 0)), ((q0 26), zi k18 400 (a69_ 1)), ((q0 5), zi k4 122880 f4), ((q0 7), zi k6 120 f6), ((q0 28), zi k20 400 (a69_ 2)), ((q0 27), zi k19 400 (a69_ 3)), ((q0 2), zi k2 4800 f2), ((q0 3), zi k3 400 f3)] := hD.sub [3, 0, 4, 5, 6, 7, 8, 9, 1, 2] (by decide) rfl
            generalize H1 = H at hP hS ⊢
            clear hz1
            refine W.widen (k := 0) (n := 0) (by decide) (by decide) ?_
            have b_ : -2147483648 ≤ r69_.toInt ∧ r69_.toInt ≤ 2147483647 := ⟨zlo _, zhi _⟩
            have hpost : (0 ≤ (0 : Int32).toInt ∧ (0 : Int32).toInt ≤ 0) := (by first | with_reducible assumption | exact ⟨by omega, by omega⟩)
            have hP9 : va_P (dC, dI) vwCl [(h0, .inr (13, mX13 q0 (upd v0 21 0))), ((q0 6), zi k5 120 f5), ((q0 25), zi k17 400 (a69_ 0)), ((q0 26), zi k18 400 (a69_ 1)), ((q0 5), zi k4 122880 f4), ((q0 7), zi k6 120 f6), ((q0 28), zi k20 400 (a69_ 2)), ((q0 27), zi k19 400 (a69_ 3)), ((q0 2), zi k2 4800 f2), ((q0 3), zi k3 400 f3)] H := hP
            have hD9 : va_D A [(h0, .inr (13, mX13 q0 (upd v0 21 0))), ((q0 6), zi k5 120 f5), ((q0 25), zi k17 400 (a69_ 0)), ((q0 26), zi k18 400 (a69_ 1)), ((q0 5), zi k4 122880 f4), ((q0 7), zi k6 120 f6), ((q0 28), zi k20 400 (a69_ 2)), ((q0 27), zi k19 400 (a69_ 3)), ((q0 2), zi k2 4800 f2), ((q0 3), zi k3 400 f3)] := hD
            exact W.iret (v := r69_) hx hb hr (fun t ht hW => ⟨⟨r69_, (fun i => ([0] : List (Int32)).getD i 0), rfl, hpost, (fun _ => 0), (fun i => ([(a69_ 0), (a69_ 1), (a69_ 2), (a69_ 3)] : List (Nat → Int32)).getD i (fun _ => 0)), (fun _ => (fun _ => 0)), ha69_1, ha69_3, by rw [ht]; exact hP9, va_K.moved hW.alike hK, hD9⟩, hS.F ht⟩) hS.2.2 dX13_count_72
          · skip
            have b_ : x1.toInt ≠ 4 := fun h => c_ (zeqi.mpr (h.trans zk_4.symm))
            rcases Classical.em (x1 = (5 : Int32)) with c_ | c_
            · skip
              have b_ : x1.toInt = 5 := by rw [c_]; exact zk_5
              refine lv_tableIn (off := 67) (tgt := 73) hx hb dX13_count_6 (by omega) (by omega) (by rw [b_]; decide) (by decide) ?_
              refine lv_aload_n hx hb dX13_count_73 rfl (lv_at hl 0 rfl) ?_
              have b_ : 0 ≤ (v0 16).toInt ∧ (v0 16).toInt ≤ 10 := hv0 16
              refine va_get (D := (dC, dI)) (ci := 13) (v := .int (v0 16)) (C := RX13) (T := TX13) (N := 75) hx hb hG zuX13 hown hK hP 0 rfl rfl 16 (by decide) (hG _ zv1620) (fun _ h9 => h9) rfl dX13_count_74 ?_
              refine W.widen (k := 0) (n := 0) (by decide) (by decide) ?_
              have hpost : (0 ≤ (0 : Int32).toInt ∧ (0 : Int32).toInt ≤ 0) := (by first | with_reducible assumption | exact ⟨by omega, by omega⟩)
              have hP9 : va_P (dC, dI) vwCl [(h0, .inr (13, mX13 q0 (upd v0 21 0))), ((q0 6), zi k5 120 f5), ((q0 25), zi k17 400 f17), ((q0 26), zi k18 400 f18), ((q0 5), zi k4 122880 f4), ((q0 7), zi k6 120 f6), ((q0 28), zi k20 400 f20), ((q0 27), zi k19 400 f19), ((q0 2), zi k2 4800 f2), ((q0 3), zi k3 400 f3)] H := hP
              have hD9 : va_D A [(h0, .inr (13, mX13 q0 (upd v0 21 0))), ((q0 6), zi k5 120 f5), ((q0 25), zi k17 400 f17), ((q0 26), zi k18 400 f18), ((q0 5), zi k4 122880 f4), ((q0 7), zi k6 120 f6), ((q0 28), zi k20 400 f20), ((q0 27), zi k19 400 f19), ((q0 2), zi k2 4800 f2), ((q0 3), zi k3 400 f3)] := hD
              exact W.iret (v := (v0 16)) hx hb hr (fun t ht hW => ⟨⟨(v0 16), (fun i => ([0] : List (Int32)).getD i 0), rfl, hpost, (fun _ => 0), (fun i => ([f17, f18, f20, f19] : List (Nat → Int32)).getD i (fun _ => 0)), (fun _ => (fun _ => 0)), hf18, hf19, by rw [ht]; exact hP9, va_K.moved hW.alike hK, hD9⟩, hS.F ht⟩) hS.2.2 dX13_count_77
            · skip
              have b_ : x1.toInt ≠ 5 := fun h => c_ (zeqi.mpr (h.trans zk_5.symm))
              rcases Classical.em (x1 = (6 : Int32)) with c_ | c_
              · skip
                have b_ : x1.toInt = 6 := by rw [c_]; exact zk_6
                refine lv_tableIn (off := 72) (tgt := 78) hx hb dX13_count_6 (by omega) (by omega) (by rw [b_]; decide) (by decide) ?_
                refine lv_aload_n hx hb dX13_count_78 rfl (lv_at hl 0 rfl) ?_
                have b_ : 0 ≤ (v0 1).toInt ∧ (v0 1).toInt ≤ 600 := hv0 1
                refine va_get (D := (dC, dI)) (ci := 13) (v := .int (v0 1)) (C := RX13) (T := TX13) (N := 75) hx hb hG zuX13 hown hK hP 0 rfl rfl 1 (by decide) (hG _ zv1605) (fun _ h9 => h9) rfl dX13_count_79 ?_
                refine W.widen (k := 0) (n := 0) (by decide) (by decide) ?_
                have hpost : (0 ≤ (0 : Int32).toInt ∧ (0 : Int32).toInt ≤ 0) := (by first | with_reducible assumption | exact ⟨by omega, by omega⟩)
                have hP9 : va_P (dC, dI) vwCl [(h0, .inr (13, mX13 q0 (upd v0 21 0))), ((q0 6), zi k5 120 f5), ((q0 25), zi k17 400 f17), ((q0 26), zi k18 400 f18), ((q0 5), zi k4 122880 f4), ((q0 7), zi k6 120 f6), ((q0 28), zi k20 400 f20), ((q0 27), zi k19 400 f19), ((q0 2), zi k2 4800 f2), ((q0 3), zi k3 400 f3)] H := hP
                have hD9 : va_D A [(h0, .inr (13, mX13 q0 (upd v0 21 0))), ((q0 6), zi k5 120 f5), ((q0 25), zi k17 400 f17), ((q0 26), zi k18 400 f18), ((q0 5), zi k4 122880 f4), ((q0 7), zi k6 120 f6), ((q0 28), zi k20 400 f20), ((q0 27), zi k19 400 f19), ((q0 2), zi k2 4800 f2), ((q0 3), zi k3 400 f3)] := hD
                exact W.iret (v := (v0 1)) hx hb hr (fun t ht hW => ⟨⟨(v0 1), (fun i => ([0] : List (Int32)).getD i 0), rfl, hpost, (fun _ => 0), (fun i => ([f17, f18, f20, f19] : List (Nat → Int32)).getD i (fun _ => 0)), (fun _ => (fun _ => 0)), hf18, hf19, by rw [ht]; exact hP9, va_K.moved hW.alike hK, hD9⟩, hS.F ht⟩) hS.2.2 dX13_count_82
              · skip
                have b_ : x1.toInt ≠ 6 := fun h => c_ (zeqi.mpr (h.trans zk_6.symm))
                refine lv_tableOut (tgt := 83) hx hb dX13_count_6 (by omega) (by decide) ?_
                refine lv_iconst (v := (-1)) hx hb dX13_count_83 (by decide) ?_
                refine W.widen (k := 0) (n := 0) (by decide) (by decide) ?_
                have hpost : (0 ≤ (0 : Int32).toInt ∧ (0 : Int32).toInt ≤ 0) := (by first | with_reducible assumption | exact ⟨by omega, by omega⟩)
                have hP9 : va_P (dC, dI) vwCl [(h0, .inr (13, mX13 q0 (upd v0 21 0))), ((q0 6), zi k5 120 f5), ((q0 25), zi k17 400 f17), ((q0 26), zi k18 400 f18), ((q0 5), zi k4 122880 f4), ((q0 7), zi k6 120 f6), ((q0 28), zi k20 400 f20), ((q0 27), zi k19 400 f19), ((q0 2), zi k2 4800 f2), ((q0 3), zi k3 400 f3)] H := hP
                have hD9 : va_D A [(h0, .inr (13, mX13 q0 (upd v0 21 0))), ((q0 6), zi k5 120 f5), ((q0 25), zi k17 400 f17), ((q0 26), zi k18 400 f18), ((q0 5), zi k4 122880 f4), ((q0 7), zi k6 120 f6), ((q0 28), zi k20 400 f20), ((q0 27), zi k19 400 f19), ((q0 2), zi k2 4800 f2), ((q0 3), zi k3 400 f3)] := hD
                exact W.iret (v := (-1)) hx hb hr (fun t ht hW => ⟨⟨(-1), (fun i => ([0] : List (Int32)).getD i 0), rfl, hpost, (fun _ => 0), (fun i => ([f17, f18, f20, f19] : List (Nat → Int32)).getD i (fun _ => 0)), (fun _ => (fun _ => 0)), hf18, hf19, by rw [ht]; exact hP9, va_K.moved hW.alike hK, hD9⟩, hS.F ht⟩) hS.2.2 dX13_count_84
