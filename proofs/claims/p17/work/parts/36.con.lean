set_option maxHeartbeats 8000000 in
set_option maxRecDepth 100000 in
theorem sX9_hasRoom_0 (l : Launch) (dC : Nat → ClassId) (dI : Nat → Nat → Nat) (adK adV : Nat → Nat) (h0 : Nat) (h1 : Nat) (h2 : Nat) (sz : Nat) (v0 : Nat → Int32) (x1 : Int32) (hv0 : zR rg_Tape v0) (hx1 : 0 ≤ x1.toInt ∧ x1.toInt ≤ 1000) : Met l yX9_hasRoom (zw yX9_hasRoom cX9_hasRoom 2 (some .boolean)) { frames := 0, cells := 0, slots := 0, locals := 0 } (zPc dC dI adK adV [.ref h0, .int x1] sz [(h0, .inr (9, mX9 h1 h2 v0))] []) (va_Qi (fun (r : Int32) (u : Nat → Int32) => (0 ≤ r.toInt ∧ r.toInt ≤ 1) ∧ (r.toInt = 1 → (v0 2).toInt + x1.toInt ≤ 600) ∧ (r.toInt = 0 → 600 < (v0 2).toInt + x1.toInt)) (fun (u : Nat → Int32) (t : State) => ∃ (ww : Nat → Int64) (aa : Nat → Nat → Int32) (bb : Nat → Nat → Int64), va_P (dC, dI) vwCl [(h0, .inr (9, mX9 h1 h2 v0))] t.heap ∧ va_K (dC, dI) vwCl [] t ∧ va_D (va_A [(h0, .inr (9, mX9 h1 h2 v0))] sz) [(h0, .inr (9, mX9 h1 h2 v0))]) (va_A [(h0, .inr (9, mX9 h1 h2 v0))] sz)) 0 0 (va_A [(h0, .inr (9, mX9 h1 h2 v0))] sz) := by
  refine Met.ofW (cc := cX9_hasRoom) (maxL := 2) (ret := (some .boolean)) (by decide) rfl ?_
  intro p e s m args below meth c s₁ B hml hv
  obtain ⟨rfl, hsz, hP, hK, hD0, hE, hZ⟩ := hv
  have hx := B.exec
  have hb := B.bytes
  have hr := B.returns
  have hG : ∀ w ∈ zG, w.before _ s = true := fun w h => atoms_spec (ws := (zw yX9_hasRoom cX9_hasRoom 2 (some .boolean))) B.pre w (List.mem_cons_of_mem _ h)
  have hown : s.vm.findClass RX9 = some m.cls := findClass_of_methodNamed B.named
  have hlocks := B.notSynchronized

  subst hsz
  have hD := hD0.self (sz := s.heap.size)
  generalize hAe : va_A [(h0, .inr (9, mX9 h1 h2 v0))] s.heap.size = A at hD hZ ⊢
  have hA : ∀ q : Nat, s.heap.size ≤ q → A q := fun q h => by rw [← hAe]; exact Or.inr h
  have hS : va_S A s.heap s.heap [] := va_S.rf
  have hl := lv_entry ([.ref h0, .int x1]) (n := 2) (Nat.le_of_ble_eq_true rfl)
  rw [lg_entry_eq]
  generalize (lg_sl ([.ref h0, .int x1]) ++ List.replicate (2 - (lg_sl ([.ref h0, .int x1])).length) Slot.unset).toArray = ls at hl ⊢
  have hl : lv_has ls 2 [(0, .ref h0), (1, .int x1)] := hl
  have b_ := zk_0
  have b_ := zk_1
  have b_ : 0 ≤ (v0 2).toInt ∧ (v0 2).toInt ≤ 600 := hv0 2
  refine lv_aload_n hx hb dX9_hasRoom_0 rfl (lv_at hl 0 rfl) ?_
  refine va_get (D := (dC, dI)) (ci := 9) (v := .int (v0 2)) (C := RX9) (T := TX9) (N := 4) hx hb hG zuX9 hown hK hP 0 rfl rfl 2 (by decide) (hG _ zv171) (fun _ h9 => h9) rfl dX9_hasRoom_1 ?_
  refine lv_iload_n hx hb dX9_hasRoom_4 rfl (lv_at hl 1 rfl) ?_
  refine lv_iadd hx hb dX9_hasRoom_5 ?_
  refine lv_topi (fun z5 e_z5 => ?_)
  have b_ := zadd rfl rfl e_z5 (by omega) (by omega)
  refine lv_sipush (v := 600) hx hb dX9_hasRoom_6 (by decide) ?_
  refine lv_icmp_gt (tgt := 16) hx hb dX9_hasRoom_9 (by decide) (fun c_ => ?_) (fun c_ => ?_)
  · skip
    have b_ := zT_gt rfl zk_600 c_
    refine lv_iconst (v := 0) hx hb dX9_hasRoom_16 (by decide) ?_
    refine W.widen (k := 0) (n := 0) (by decide) (by decide) ?_
    have hpost : (0 ≤ (0 : Int32).toInt ∧ (0 : Int32).toInt ≤ 1) ∧ ((0 : Int32).toInt = 1 → (v0 2).toInt + x1.toInt ≤ 600) ∧ ((0 : Int32).toInt = 0 → 600 < (v0 2).toInt + x1.toInt) := ⟨(by first | with_reducible assumption | exact ⟨by omega, by omega⟩), by omega, by omega⟩
    have hP9 : va_P (dC, dI) vwCl [(h0, .inr (9, mX9 h1 h2 v0))] s.heap := hP
    have hD9 : va_D A [(h0, .inr (9, mX9 h1 h2 v0))] := hD
    exact W.zret (v := 0) hx hb hr rfl (fun t ht hW => ⟨⟨0, (fun _ => 0), rfl, hpost, (fun _ => 0), (fun _ => (fun _ => 0)), (fun _ => (fun _ => 0)), by rw [ht]; exact hP9, va_K.moved hW.alike hK, hD9⟩, hS.F ht⟩) hS.2.2 dX9_hasRoom_17
  · skip
    have b_ := zF_gt rfl zk_600 c_
    refine lv_iconst (v := 1) hx hb dX9_hasRoom_12 (by decide) ?_
    refine lv_goto (tgt := 17) hx hb dX9_hasRoom_13 (by decide) ?_
    refine W.widen (k := 0) (n := 0) (by decide) (by decide) ?_
    have hpost : (0 ≤ (1 : Int32).toInt ∧ (1 : Int32).toInt ≤ 1) ∧ ((1 : Int32).toInt = 1 → (v0 2).toInt + x1.toInt ≤ 600) ∧ ((1 : Int32).toInt = 0 → 600 < (v0 2).toInt + x1.toInt) := ⟨(by first | with_reducible assumption | exact ⟨by omega, by omega⟩), by omega, by omega⟩
    have hP9 : va_P (dC, dI) vwCl [(h0, .inr (9, mX9 h1 h2 v0))] s.heap := hP
    have hD9 : va_D A [(h0, .inr (9, mX9 h1 h2 v0))] := hD
    exact W.zret (v := 1) hx hb hr rfl (fun t ht hW => ⟨⟨1, (fun _ => 0), rfl, hpost, (fun _ => 0), (fun _ => (fun _ => 0)), (fun _ => (fun _ => 0)), by rw [ht]; exact hP9, va_K.moved hW.alike hK, hD9⟩, hS.F ht⟩) hS.2.2 dX9_hasRoom_17
set_option maxHeartbeats 8000000 in
set_option maxRecDepth 100000 in
theorem sX9_put_0 (l : Launch) (dC : Nat → ClassId) (dI : Nat → Nat → Nat) (adK adV : Nat → Nat) (h0 : Nat) (h1 : Nat) (h2 : Nat) (k1 : ClassId) (sz : Nat) (v0 : Nat → Int32) (f1 : Nat → Int32) (x1 : Int32) (hv0 : zR rg_Tape v0) : Met l yX9_put (zw yX9_put cX9_put 3 none) { frames := 0, cells := 0, slots := 0, locals := 0 } (zPc dC dI adK adV [.ref h0, .int x1] sz [(h0, .inr (9, mX9 h1 h2 v0)), (h1, zi k1 600 f1)] [(k1, .byte)]) (va_Qv (fun (u : Nat → Int32) => (0 ≤ (u 0).toInt ∧ (u 0).toInt ≤ 600) ∧ ((v0 2).toInt ≤ 596 → (u 0).toInt = (v0 2).toInt + 4)) (fun (u : Nat → Int32) (t : State) => ∃ (ww : Nat → Int64) (aa : Nat → Nat → Int32) (bb : Nat → Nat → Int64), ((v0 2).toInt ≤ 596 → zPut f1 (aa 0) (v0 2).toInt (x1 : Int32) (u 0).toInt) ∧ va_P (dC, dI) vwCl [(h0, .inr (9, mX9 h1 h2 (upd v0 2 (u 0)))), (h1, zi k1 600 (aa 0))] t.heap ∧ va_K (dC, dI) vwCl [(k1, .byte)] t ∧ va_D (va_A [(h0, .inr (9, mX9 h1 h2 v0)), (h1, zi k1 600 f1)] sz) [(h0, .inr (9, mX9 h1 h2 (upd v0 2 (u 0)))), (h1, zi k1 600 (aa 0))]) (va_A [(h0, .inr (9, mX9 h1 h2 v0)), (h1, zi k1 600 f1)] sz)) 0 0 (va_A [(h0, .inr (9, mX9 h1 h2 v0)), (h1, zi k1 600 f1)] sz) := by
  refine Met.ofW (cc := cX9_put) (maxL := 3) (ret := none) (by decide) rfl ?_
  intro p e s m args below meth c s₁ B hml hv
  obtain ⟨rfl, hsz, hP, hK, hD0, hE, hZ⟩ := hv
  have hx := B.exec
  have hb := B.bytes
  have hr := B.returns
  have hG : ∀ w ∈ zG, w.before _ s = true := fun w h => atoms_spec (ws := (zw yX9_put cX9_put 3 none)) B.pre w (List.mem_cons_of_mem _ h)
  have hown : s.vm.findClass RX9 = some m.cls := findClass_of_methodNamed B.named
  have hlocks := B.notSynchronized

  subst hsz
  have hD := hD0.self (sz := s.heap.size)
  generalize hAe : va_A [(h0, .inr (9, mX9 h1 h2 v0)), (h1, zi k1 600 f1)] s.heap.size = A at hD hZ ⊢
  have hA : ∀ q : Nat, s.heap.size ≤ q → A q := fun q h => by rw [← hAe]; exact Or.inr h
  have hS : va_S A s.heap s.heap [] := va_S.rf
  have hl := lv_entry ([.ref h0, .int x1]) (n := 3) (Nat.le_of_ble_eq_true rfl)
  rw [lg_entry_eq]
  generalize (lg_sl ([.ref h0, .int x1]) ++ List.replicate (3 - (lg_sl ([.ref h0, .int x1])).length) Slot.unset).toArray = ls at hl ⊢
  have hl : lv_has ls 3 [(0, .ref h0), (1, .int x1)] := hl
  have b_ := zk_24
  have b_ : 0 ≤ (v0 2).toInt ∧ (v0 2).toInt ≤ 600 := hv0 2
  refine lv_bipush (v := 24) hx hb dX9_put_0 (by decide) ?_
  refine lv_istore_n (lv' := [(2, .int 24), (0, .ref h0), (1, .int x1)]) hx hb dX9_put_2 rfl hl (by decide) rfl (fun ls hl => ?_)
  refine zcutL (fun u3_ => (600 - (u3_ 1).toInt).toNat) (fun H locs ls u3_ w3_ a3_ b3_ => va_P (dC, dI) vwCl [(h0, .inr (9, mX9 h1 h2 (upd v0 2 (u3_ 1)))), (h1, zi k1 600 (a3_ 0))] H ∧ va_D A [(h0, .inr (9, mX9 h1 h2 (upd v0 2 (u3_ 1)))), (h1, zi k1 600 (a3_ 0))] ∧ va_S A s.heap H locs ∧ lv_has ls 3 [(0, .ref h0), (1, .int x1), (2, .int (u3_ 0))] ∧ ((-8) ≤ (u3_ 0).toInt ∧ (u3_ 0).toInt ≤ 24) ∧ (0 ≤ (u3_ 1).toInt ∧ (u3_ 1).toInt ≤ 600) ∧ ((v0 2).toInt ≤ 596 → 8 * ((u3_ 1).toInt - (v0 2).toInt) = 24 - (u3_ 0).toInt) ∧ ((v0 2).toInt ≤ (u3_ 1).toInt) ∧ ((v0 2).toInt ≤ 596 → zPut f1 (a3_ 0) (v0 2).toInt (x1 : Int32) (u3_ 1).toInt)) (fun ls u3_ w3_ => F0 m 3 ls []) 0 0 ?_ (fun hJ3 => ?_)
  · skip
    intro H locs ls u3_ w3_ a3_ b3_ hc hJ3
    obtain ⟨hP, hD, hS, hl, b_, b_, b_, b_, hI3_2⟩ := hc
    refine lv_iload_n hx hb dX9_put_3 rfl (lv_at hl 2 rfl) ?_
    refine lv_if_lt (tgt := 46) hx hb dX9_put_4 (by decide) (fun c_ => ?_) (fun c_ => ?_)
    · skip
      have b_ := zT_lt rfl zk_0 c_
      refine W.widen (k := 0) (n := 0) (by decide) (by decide) ?_
      have hpost : (0 ≤ (u3_ 1).toInt ∧ (u3_ 1).toInt ≤ 600) ∧ ((v0 2).toInt ≤ 596 → (u3_ 1).toInt = (v0 2).toInt + 4) := ⟨(by first | with_reducible assumption | exact ⟨by omega, by omega⟩), by omega⟩
      have hP9 : va_P (dC, dI) vwCl [(h0, .inr (9, mX9 h1 h2 (upd v0 2 (u3_ 1)))), (h1, zi k1 600 (a3_ 0))] H := hP
      have hD9 : va_D A [(h0, .inr (9, mX9 h1 h2 (upd v0 2 (u3_ 1)))), (h1, zi k1 600 (a3_ 0))] := hD
      have hB0 : (v0 2).toInt ≤ 596 → zPut f1 (a3_ 0) (v0 2).toInt (x1 : Int32) (u3_ 1).toInt := by exact hI3_2
      exact W.vret hx hb hr (fun t ht hW => ⟨⟨(fun i => ([(u3_ 1)] : List (Int32)).getD i 0), rfl, hpost, (fun _ => 0), (fun i => ([(a3_ 0)] : List (Nat → Int32)).getD i (fun _ => 0)), (fun _ => (fun _ => 0)), hB0, by rw [ht]; exact hP9, va_K.moved hW.alike hK, hD9⟩, hS.F ht⟩) hS.2.2 dX9_put_46
    · skip
      have b_ := zF_lt rfl zk_0 c_
      refine lv_aload_n hx hb dX9_put_7 rfl (lv_at hl 0 rfl) ?_
      refine va_get (D := (dC, dI)) (ci := 9) (v := .int (u3_ 1)) (C := RX9) (T := TX9) (N := 4) hx hb hG zuX9 hown hK hP 0 rfl rfl 2 (by decide) (hG _ zv171) (fun _ h9 => h9) rfl dX9_put_8 ?_
      refine lv_sipush (v := 600) hx hb dX9_put_11 (by decide) ?_
      refine lv_icmp_ge (tgt := 46) hx hb dX9_put_14 (by decide) (fun c_ => ?_) (fun c_ => ?_)
      · skip
        have b_ := zT_ge rfl zk_600 c_
        refine W.widen (k := 0) (n := 0) (by decide) (by decide) ?_
        have hpost : (0 ≤ (u3_ 1).toInt ∧ (u3_ 1).toInt ≤ 600) ∧ ((v0 2).toInt ≤ 596 → (u3_ 1).toInt = (v0 2).toInt + 4) := ⟨(by first | with_reducible assumption | exact ⟨by omega, by omega⟩), by omega⟩
        have hP9 : va_P (dC, dI) vwCl [(h0, .inr (9, mX9 h1 h2 (upd v0 2 (u3_ 1)))), (h1, zi k1 600 (a3_ 0))] H := hP
        have hD9 : va_D A [(h0, .inr (9, mX9 h1 h2 (upd v0 2 (u3_ 1)))), (h1, zi k1 600 (a3_ 0))] := hD
        have hB0 : (v0 2).toInt ≤ 596 → zPut f1 (a3_ 0) (v0 2).toInt (x1 : Int32) (u3_ 1).toInt := by exact hI3_2
        exact W.vret hx hb hr (fun t ht hW => ⟨⟨(fun i => ([(u3_ 1)] : List (Int32)).getD i 0), rfl, hpost, (fun _ => 0), (fun i => ([(a3_ 0)] : List (Nat → Int32)).getD i (fun _ => 0)), (fun _ => (fun _ => 0)), hB0, by rw [ht]; exact hP9, va_K.moved hW.alike hK, hD9⟩, hS.F ht⟩) hS.2.2 dX9_put_46
      · skip
        have b_ := zF_ge rfl zk_600 c_
        refine lv_aload_n hx hb dX9_put_17 rfl (lv_at hl 0 rfl) ?_
        refine va_get (D := (dC, dI)) (ci := 9) (v := .ref h1) (C := RX9) (T := TX9) (N := 4) hx hb hG zuX9 hown hK hP 0 rfl rfl 0 (by decide) (hG _ zv169) (fun _ h9 => h9) rfl dX9_put_18 ?_
        refine lv_aload_n hx hb dX9_put_21 rfl (lv_at hl 0 rfl) ?_
        refine va_get (D := (dC, dI)) (ci := 9) (v := .int (u3_ 1)) (C := RX9) (T := TX9) (N := 4) hx hb hG zuX9 hown hK hP 0 rfl rfl 2 (by decide) (hG _ zv171) (fun _ h9 => h9) rfl dX9_put_22 ?_
        refine lv_iload_n hx hb dX9_put_25 rfl (lv_at hl 1 rfl) ?_
        refine lv_iload_n hx hb dX9_put_26 rfl (lv_at hl 2 rfl) ?_
        have b_ : -2147483648 ≤ x1.toInt ∧ x1.toInt ≤ 2147483647 := ⟨zlo _, zhi _⟩
        refine lv_iushr hx hb dX9_put_27 rfl ?_
        refine lv_topi (fun z27 e_z27 => ?_)
        have b_ : -2147483648 ≤ z27.toInt ∧ z27.toInt ≤ 2147483647 := ⟨zlo _, zhi _⟩
        refine lv_i2b hx hb dX9_put_28 rfl ?_
        refine lv_topi (fun z28 e_z28 => ?_)
        have b_ := zi2bB (x := z27) e_z28
        refine va_bast hx hb hK hP hD hS 1 0 rfl rfl (zin_lit ⟨by omega, by omega⟩) dX9_put_29 (fun H locs hP hD hS => ?_)
        obtain ⟨f_29, e_f_29⟩ : ∃ z : Nat → Int32, z = upd (a3_ 0) ((u3_ 1) : Int32).toNatClampNeg (vp_nar .byte z28) := ⟨_, rfl⟩
        have hP : va_P (dC, dI) vwCl [(h0, .inr (9, mX9 h1 h2 (upd v0 2 (u3_ 1)))), (h1, zi k1 600 f_29)] H := by rw [e_f_29]; exact hP
        have hD : va_D A [(h0, .inr (9, mX9 h1 h2 (upd v0 2 (u3_ 1)))), (h1, zi k1 600 f_29)] := by rw [e_f_29]; exact hD
        refine lv_aload_n hx hb dX9_put_30 rfl (lv_at hl 0 rfl) ?_
        refine lv_dup hx hb dX9_put_31 rfl ?_
        refine va_get (D := (dC, dI)) (ci := 9) (v := .int (u3_ 1)) (C := RX9) (T := TX9) (N := 4) hx hb hG zuX9 hown hK hP 0 rfl rfl 2 (by decide) (hG _ zv171) (fun _ h9 => h9) rfl dX9_put_32 ?_
        refine lv_iconst (v := 1) hx hb dX9_put_35 (by decide) ?_
        refine lv_iadd hx hb dX9_put_36 ?_
        refine lv_topi (fun z36 e_z36 => ?_)
        have b_ := zadd rfl zk_1 e_z36 (by omega) (by omega)
        refine va_put (D := (dC, dI)) (ci := 9) (v := .int z36) (ty := .int) (C := RX9) (T := TX9) (N := 4) hx hb hG zuX9 tyX9 tyX9_ok nmX9 hown hK hP hD hS 0 rfl rfl 2 (by decide) (hG _ zv171) (fun _ h9 => h9) rfl (by decide +kernel) rfl rfl (Nat.le_of_ble_eq_true rfl) dX9_put_37 (fun H locs hP hD hS => ?_)
        have hP : va_P (dC, dI) vwCl [(h0, .inr (9, mX9 h1 h2 (upd v0 2 z36))), (h1, zi k1 600 f_29)] H := hP
        have hD : va_D A [(h0, .inr (9, mX9 h1 h2 (upd v0 2 z36))), (h1, zi k1 600 f_29)] := hD
        obtain ⟨z40, e_z40⟩ : ∃ z : Int32, z = (u3_ 0) + Int32.ofInt (-8) := ⟨_, rfl⟩
        have b_ := zadd (x := (u3_ 0)) (y := Int32.ofInt (-8)) rfl (show (Int32.ofInt (-8)).toInt = (-8) from by decide) e_z40 (by omega) (by omega)
        refine lv_iinc (v := z40) (lv' := [(2, .int z40), (0, .ref h0), (1, .int x1)]) hx hb dX9_put_40 hl (k := 2) rfl e_z40.symm (by decide) rfl (fun ls hl => ?_)
        refine lv_goto (tgt := 3) hx hb dX9_put_43 (by decide) ?_
        have hc : va_P (dC, dI) vwCl [(h0, .inr (9, mX9 h1 h2 (upd v0 2 z36))), (h1, zi k1 600 f_29)] H ∧ va_D A [(h0, .inr (9, mX9 h1 h2 (upd v0 2 z36))), (h1, zi k1 600 f_29)] ∧ va_S A s.heap H locs ∧ lv_has ls 3 [(0, .ref h0), (1, .int x1), (2, .int z40)] ∧ ((-8) ≤ z40.toInt ∧ z40.toInt ≤ 24) ∧ (0 ≤ z36.toInt ∧ z36.toInt ≤ 600) ∧ ((v0 2).toInt ≤ 596 → 8 * (z36.toInt - (v0 2).toInt) = 24 - z40.toInt) ∧ ((v0 2).toInt ≤ z36.toInt) ∧ ((v0 2).toInt ≤ 596 → zPut f1 f_29 (v0 2).toInt (x1 : Int32) z36.toInt) := ⟨hP, hD, hS, lv_sub hl [1, 2, 0] rfl, (by first | with_reducible assumption | exact ⟨by omega, by omega⟩), (by first | with_reducible assumption | exact ⟨by omega, by omega⟩), by omega, by omega, by first | exact fun _ => zPut_0 (by omega) | (intro q_; rw [e_f_29]; exact zPut_s (t := (u3_ 0).toInt) (hI3_2 q_) (zclamp (by omega)) (zbyU e_z27 e_z28 rfl (by omega)) (by omega) (by omega) (by omega))⟩
        exact hJ3 H locs ls (fun i => ([z40, z36] : List (Int32)).getD i 0) (fun _ => 0) (fun i => ([f_29] : List (Nat → Int32)).getD i (fun _ => 0)) (fun _ => (fun _ => 0)) hc (show (600 - z36.toInt).toNat < (600 - (u3_ 1).toInt).toNat from by omega)
  · skip
    have b_ : -2147483648 ≤ x1.toInt ∧ x1.toInt ≤ 2147483647 := ⟨zlo _, zhi _⟩
    have hc : va_P (dC, dI) vwCl [(h0, .inr (9, mX9 h1 h2 (upd v0 2 (v0 2)))), (h1, zi k1 600 f1)] s.heap ∧ va_D A [(h0, .inr (9, mX9 h1 h2 (upd v0 2 (v0 2)))), (h1, zi k1 600 f1)] ∧ va_S A s.heap s.heap [] ∧ lv_has ls 3 [(0, .ref h0), (1, .int x1), (2, .int 24)] ∧ ((-8) ≤ (24 : Int32).toInt ∧ (24 : Int32).toInt ≤ 24) ∧ (0 ≤ (v0 2).toInt ∧ (v0 2).toInt ≤ 600) ∧ ((v0 2).toInt ≤ 596 → 8 * ((v0 2).toInt - (v0 2).toInt) = 24 - (24 : Int32).toInt) ∧ ((v0 2).toInt ≤ (v0 2).toInt) ∧ ((v0 2).toInt ≤ 596 → zPut f1 f1 (v0 2).toInt (x1 : Int32) (v0 2).toInt) := ⟨hP, hD, hS, lv_sub hl [1, 2, 0] rfl, (by first | with_reducible assumption | exact ⟨by omega, by omega⟩), (by first | with_reducible assumption | exact ⟨by omega, by omega⟩), by omega, by omega, by first | exact fun _ => zPut_0 (by omega) | (intro q_; rw [e_f_29]; exact zPut_s (t := (u3_ 0).toInt) (hI3_2 q_) (zclamp (by omega)) (zbyU e_z27 e_z28 rfl (by omega)) (by omega) (by omega) (by omega))⟩
    exact hJ3 s.heap [] ls (fun i => ([24, (v0 2)] : List (Int32)).getD i 0) (fun _ => 0) (fun i => ([f1] : List (Nat → Int32)).getD i (fun _ => 0)) (fun _ => (fun _ => 0)) hc
set_option maxHeartbeats 8000000 in
set_option maxRecDepth 100000 in
theorem sX9_size_0 (l : Launch) (dC : Nat → ClassId) (dI : Nat → Nat → Nat) (adK adV : Nat → Nat) (h0 : Nat) (h1 : Nat) (h2 : Nat) (sz : Nat) (v0 : Nat → Int32) (hv0 : zR rg_Tape v0) : Met l yX9_size (zw yX9_size cX9_size 1 (some .int)) { frames := 0, cells := 0, slots := 0, locals := 0 } (zPc dC dI adK adV [.ref h0] sz [(h0, .inr (9, mX9 h1 h2 v0))] []) (va_Qi (fun (r : Int32) (u : Nat → Int32) => (0 ≤ r.toInt ∧ r.toInt ≤ 600) ∧ (r.toInt = (v0 2).toInt)) (fun (u : Nat → Int32) (t : State) => ∃ (ww : Nat → Int64) (aa : Nat → Nat → Int32) (bb : Nat → Nat → Int64), va_P (dC, dI) vwCl [(h0, .inr (9, mX9 h1 h2 v0))] t.heap ∧ va_K (dC, dI) vwCl [] t ∧ va_D (va_A [(h0, .inr (9, mX9 h1 h2 v0))] sz) [(h0, .inr (9, mX9 h1 h2 v0))]) (va_A [(h0, .inr (9, mX9 h1 h2 v0))] sz)) 0 0 (va_A [(h0, .inr (9, mX9 h1 h2 v0))] sz) := by
  refine Met.ofW (cc := cX9_size) (maxL := 1) (ret := (some .int)) (by decide) rfl ?_
  intro p e s m args below meth c s₁ B hml hv
  obtain ⟨rfl, hsz, hP, hK, hD0, hE, hZ⟩ := hv
  have hx := B.exec
  have hb := B.bytes
  have hr := B.returns
  have hG : ∀ w ∈ zG, w.before _ s = true := fun w h => atoms_spec (ws := (zw yX9_size cX9_size 1 (some .int))) B.pre w (List.mem_cons_of_mem _ h)
  have hown : s.vm.findClass RX9 = some m.cls := findClass_of_methodNamed B.named
  have hlocks := B.notSynchronized

  subst hsz
  have hD := hD0.self (sz := s.heap.size)
  generalize hAe : va_A [(h0, .inr (9, mX9 h1 h2 v0))] s.heap.size = A at hD hZ ⊢
  have hA : ∀ q : Nat, s.heap.size ≤ q → A q := fun q h => by rw [← hAe]; exact Or.inr h
  have hS : va_S A s.heap s.heap [] := va_S.rf
  have hl := lv_entry ([.ref h0]) (n := 1) (Nat.le_of_ble_eq_true rfl)
  rw [lg_entry_eq]
  generalize (lg_sl ([.ref h0]) ++ List.replicate (1 - (lg_sl ([.ref h0])).length) Slot.unset).toArray = ls at hl ⊢
  have hl : lv_has ls 1 [(0, .ref h0)] := hl
  have b_ : 0 ≤ (v0 2).toInt ∧ (v0 2).toInt ≤ 600 := hv0 2
  refine lv_aload_n hx hb dX9_size_0 rfl (lv_at hl 0 rfl) ?_
  refine va_get (D := (dC, dI)) (ci := 9) (v := .int (v0 2)) (C := RX9) (T := TX9) (N := 4) hx hb hG zuX9 hown hK hP 0 rfl rfl 2 (by decide) (hG _ zv171) (fun _ h9 => h9) rfl dX9_size_1 ?_
  refine W.widen (k := 0) (n := 0) (by decide) (by decide) ?_
  have hpost : (0 ≤ (v0 2).toInt ∧ (v0 2).toInt ≤ 600) ∧ ((v0 2).toInt = (v0 2).toInt) := ⟨(by first | with_reducible assumption | exact ⟨by omega, by omega⟩), by omega⟩
  have hP9 : va_P (dC, dI) vwCl [(h0, .inr (9, mX9 h1 h2 v0))] s.heap := hP
  have hD9 : va_D A [(h0, .inr (9, mX9 h1 h2 v0))] := hD
  exact W.iret (v := (v0 2)) hx hb hr (fun t ht hW => ⟨⟨(v0 2), (fun _ => 0), rfl, hpost, (fun _ => 0), (fun _ => (fun _ => 0)), (fun _ => (fun _ => 0)), by rw [ht]; exact hP9, va_K.moved hW.alike hK, hD9⟩, hS.F ht⟩) hS.2.2 dX9_size_4
set_option maxHeartbeats 8000000 in
set_option maxRecDepth 100000 in
theorem sX11_feed_0 (l : Launch) (dC : Nat → ClassId) (dI : Nat → Nat → Nat) (adK adV : Nat → Nat) (h0 : Nat) (h1 : Nat) (h2 : Nat) (h4 : Nat) (h11 : Nat) (h18 : Nat) (h23 : Nat) (h32 : Nat) (h33 : Nat) (h40 : Nat) (h48 : Nat) (h49 : Nat) (h3 : Nat) (k2 : ClassId) (sz : Nat) (sp0 : Value) (lw0 : Int64) (v1 : Nat → Int32) (f2 : Nat → Int32) (x1 : Int32) (x2 : Int32) (x3 : Int32) (x4 : Int32) (x5 : Int32) (hv1 : zR rg_Tape v1) : Met l yX11_feed (zw yX11_feed cX11_feed 6 (some .int)) { frames := 1, cells := 0, slots := 0, locals := 22 } (zPc dC dI adK adV [.ref h0, .int x1, .int x2, .int x3, .int x4, .int x5] sz [(h0, .inr (11, mX11 h1 h4 h11 h18 h23 h32 h33 h40 h48 h49 sp0 lw0)), (h1, .inr (9, mX9 h2 h3 v1)), (h2, zi k2 600 f2)] [(k2, .byte)]) (va_Qi (fun (r : Int32) (u : Nat → Int32) => ((-2) ≤ r.toInt ∧ r.toInt ≤ 600) ∧ (0 ≤ (u 0).toInt ∧ (u 0).toInt ≤ 600) ∧ ((v1 2).toInt ≤ 580 → r.toInt = (v1 2).toInt + 20 ∧ (u 0).toInt = (v1 2).toInt + 20) ∧ (580 < (v1 2).toInt → r.toInt = -2 ∧ (u 0).toInt = (v1 2).toInt)) (fun (u : Nat → Int32) (t : State) => ∃ (ww : Nat → Int64) (aa : Nat → Nat → Int32) (bb : Nat → Nat → Int64), ((v1 2).toInt ≤ 580 → zFed f2 (aa 0) (v1 2).toInt (x1 : Int32) (x2 : Int32) (x3 : Int32) (x4 : Int32) (x5 : Int32)) ∧ (580 < (v1 2).toInt → ∀ j : Nat, (aa 0) j = f2 j) ∧ va_P (dC, dI) vwCl [(h0, .inr (11, mX11 h1 h4 h11 h18 h23 h32 h33 h40 h48 h49 sp0 lw0)), (h1, .inr (9, mX9 h2 h3 (upd v1 2 (u 0)))), (h2, zi k2 600 (aa 0))] t.heap ∧ va_K (dC, dI) vwCl [(k2, .byte)] t ∧ va_D (va_A [(h0, .inr (11, mX11 h1 h4 h11 h18 h23 h32 h33 h40 h48 h49 sp0 lw0)), (h1, .inr (9, mX9 h2 h3 v1)), (h2, zi k2 600 f2)] sz) [(h0, .inr (11, mX11 h1 h4 h11 h18 h23 h32 h33 h40 h48 h49 sp0 lw0)), (h1, .inr (9, mX9 h2 h3 (upd v1 2 (u 0)))), (h2, zi k2 600 (aa 0))]) (va_A [(h0, .inr (11, mX11 h1 h4 h11 h18 h23 h32 h33 h40 h48 h49 sp0 lw0)), (h1, .inr (9, mX9 h2 h3 v1)), (h2, zi k2 600 f2)] sz)) 0 0 (va_A [(h0, .inr (11, mX11 h1 h4 h11 h18 h23 h32 h33 h40 h48 h49 sp0 lw0)), (h1, .inr (9, mX9 h2 h3 v1)), (h2, zi k2 600 f2)] sz) := by
  refine Met.ofW (cc := cX11_feed) (maxL := 6) (ret := (some .int)) (by decide) rfl ?_
  intro p e s m args below meth c s₁ B hml hv
  obtain ⟨rfl, hsz, hP, hK, hD0, hE, hZ⟩ := hv
  have hx := B.exec
  have hb := B.bytes
  have hr := B.returns
  have hG : ∀ w ∈ zG, w.before _ s = true := fun w h => atoms_spec (ws := (zw yX11_feed cX11_feed 6 (some .int))) B.pre w (List.mem_cons_of_mem _ h)
  have hown : s.vm.findClass RX11 = some m.cls := findClass_of_methodNamed B.named
  have hlocks := B.notSynchronized

  subst hsz
  have hD := hD0.self (sz := s.heap.size)
  generalize hAe : va_A [(h0, .inr (11, mX11 h1 h4 h11 h18 h23 h32 h33 h40 h48 h49 sp0 lw0)), (h1, .inr (9, mX9 h2 h3 v1)), (h2, zi k2 600 f2)] s.heap.size = A at hD hZ ⊢
  have hA : ∀ q : Nat, s.heap.size ≤ q → A q := fun q h => by rw [← hAe]; exact Or.inr h
  have hS : va_S A s.heap s.heap [] := va_S.rf
  have hl := lv_entry ([.ref h0, .int x1, .int x2, .int x3, .int x4, .int x5]) (n := 6) (Nat.le_of_ble_eq_true rfl)
  rw [lg_entry_eq]
  generalize (lg_sl ([.ref h0, .int x1, .int x2, .int x3, .int x4, .int x5]) ++ List.replicate (6 - (lg_sl ([.ref h0, .int x1, .int x2, .int x3, .int x4, .int x5])).length) Slot.unset).toArray = ls at hl ⊢
  have hl : lv_has ls 6 [(0, .ref h0), (1, .int x1), (2, .int x2), (3, .int x3), (4, .int x4), (5, .int x5)] := hl
  have b_ := zk_m2
  have b_ := zk_20
  have b_ : 0 ≤ (v1 2).toInt ∧ (v1 2).toInt ≤ 600 := hv1 2
  refine lv_aload_n hx hb dX11_feed_0 rfl (lv_at hl 0 rfl) ?_
  refine va_get (D := (dC, dI)) (ci := 11) (v := .ref h1) (C := RX11) (T := TX11) (N := 12) hx hb hG zuX11 hown hK hP 0 rfl rfl 0 (by decide) (hG _ zv557) (fun _ h9 => h9) rfl dX11_feed_1 ?_
  refine lv_bipush (v := 20) hx hb dX11_feed_4 (by decide) ?_
  have hPc := hP.sub (ws' := [(h1, .inr (9, mX9 h2 h3 v1))]) [1] rfl
  have hDc := hD.sub (ws' := [(h1, .inr (9, mX9 h2 h3 v1))]) [1] (by decide) rfl
  have hKc := hK.sub (tys' := []) [] rfl
  have hFc := va_free (wc := [(h1, .inr (9, mX9 h2 h3 v1))]) hD hS hA [1] rfl
  refine va_calli (va_runV (As := [.int 20]) (rest := []) ⟨hx, hb, hml, hown, hG⟩ (sX9_hasRoom_0 l dC dI adK adV h1 h2 h3 s.heap.size v1 20 hv1 ⟨show (0 : Int) ≤ (20 : Int32).toInt from by decide, show (20 : Int32).toInt ≤ (1000 : Int) from by decide⟩) (cwV 1 hG (zgV zv598 zv599 zv600 zv130 zv601) rfl rfl rfl (by decide +kernel) ⟨Nat.le_of_ble_eq_true rfl, Nat.le_of_ble_eq_true rfl⟩) ⟨zPc_blind, va_recv hKc hPc (ci := 9) (q0 := 0) rfl rfl, zPc_pre hPc hKc hDc hE hS hFc hZ⟩ rfl rfl hl.1 rfl (lv_room (Nat.le_of_ble_eq_true rfl)) dX11_feed_6 ⟨Nat.le_of_ble_eq_true rfl, Nat.le_of_ble_eq_true rfl⟩) hS (fun q _ h => hFc q h) hFc (fun r6_ u6_ t H1 locs ht hvm hw hB hz1 hk1 hS => ?_)
  replace hw : (0 ≤ r6_.toInt ∧ r6_.toInt ≤ 1) ∧ (r6_.toInt = 1 → (v1 2).toInt + (20 : Int32).toInt ≤ 600) ∧ (r6_.toInt = 0 → 600 < (v1 2).toInt + (20 : Int32).toInt) := hw
  obtain ⟨b_, hX6_0, hX6_1⟩ := hw
  obtain ⟨w6_, a6_, b6_, hP1, hK1, hD1⟩ := hB
  rw [ht] at hP1
  obtain ⟨hP, hD⟩ := va_join (wr := [(h0, .inr (11, mX11 h1 h4 h11 h18 h23 h32 h33 h40 h48 h49 sp0 lw0)), (h2, zi k2 600 f2)]) (w1 := [(h1, .inr (9, mX9 h2 h3 v1))]) hP hD [1] [0, 2] rfl rfl (by decide) (by decide) hk1 hFc hP1 hD1
  have hP : va_P (dC, dI) vwCl [(h0, .inr (11, mX11 h1 h4 h11 h18 h23 h32 h33 h40 h48 h49 sp0 lw0)), (h1, .inr (9, mX9 h2 h3 v1)), (h2, zi k2 600 f2)] H1 := hP.sub [0, 2, 1] rfl
  have hD : va_D A [(h0, .inr (11, mX11 h1 h4 h11 h18 h23 h32 h33 h40 h48 h49 sp0 lw0)), (h1, .inr (9, mX9 h2 h3 v1)), (h2, zi k2 600 f2)] := hD.sub [0, 2, 1] (by decide) rfl
  generalize H1 = H at hP hS ⊢
  clear hz1
  refine lv_if_ne (tgt := 15) hx hb dX11_feed_9 (by decide) (fun c_ => ?_) (fun c_ => ?_)
  · skip
    have b_ := zT_ne rfl zk_0 c_
    refine lv_aload_n hx hb dX11_feed_15 rfl (lv_at hl 0 rfl) ?_
    refine va_get (D := (dC, dI)) (ci := 11) (v := .ref h1) (C := RX11) (T := TX11) (N := 12) hx hb hG zuX11 hown hK hP 0 rfl rfl 0 (by decide) (hG _ zv557) (fun _ h9 => h9) rfl dX11_feed_16 ?_
    refine lv_iload_n hx hb dX11_feed_19 rfl (lv_at hl 1 rfl) ?_
    have hPc := hP.sub (ws' := [(h1, .inr (9, mX9 h2 h3 v1)), (h2, zi k2 600 f2)]) [1, 2] rfl
    have hDc := hD.sub (ws' := [(h1, .inr (9, mX9 h2 h3 v1)), (h2, zi k2 600 f2)]) [1, 2] (by decide) rfl
    have hKc := hK.sub (tys' := [(k2, .byte)]) [0] rfl
    have hFc := va_free (wc := [(h1, .inr (9, mX9 h2 h3 v1)), (h2, zi k2 600 f2)]) hD hS hA [1, 2] rfl
    refine va_callv (va_runV (As := [.int x1]) (rest := []) ⟨hx, hb, hml, hown, hG⟩ (sX9_put_0 l dC dI adK adV h1 h2 h3 k2 H.size v1 f2 x1 hv1) (cwV 1 hG (zgV zv602 zv603 zv604 zv130 zv605) rfl rfl rfl (by decide +kernel) ⟨Nat.le_of_ble_eq_true rfl, Nat.le_of_ble_eq_true rfl⟩) ⟨zPc_blind, va_recv hKc hPc (ci := 9) (q0 := 0) rfl rfl, zPc_pre hPc hKc hDc hE hS hFc hZ⟩ rfl rfl hl.1 rfl (lv_room (Nat.le_of_ble_eq_true rfl)) dX11_feed_20 ⟨Nat.le_of_ble_eq_true rfl, Nat.le_of_ble_eq_true rfl⟩) hS (fun q _ h => hFc q h) hFc (fun u20_ t H1 locs ht hvm hw hB hz1 hk1 hS => ?_)
    replace hw : (0 ≤ (u20_ 0).toInt ∧ (u20_ 0).toInt ≤ 600) ∧ ((v1 2).toInt ≤ 596 → (u20_ 0).toInt = (v1 2).toInt + 4) := hw
    obtain ⟨b_, hX20_0⟩ := hw
    obtain ⟨w20_, a20_, b20_, hB20_0, hP1, hK1, hD1⟩ := hB
    have hB20_0 : (v1 2).toInt ≤ 596 → zPut f2 (a20_ 0) (v1 2).toInt (x1 : Int32) (u20_ 0).toInt := hB20_0
    rw [ht] at hP1
    obtain ⟨hP, hD⟩ := va_join (wr := [(h0, .inr (11, mX11 h1 h4 h11 h18 h23 h32 h33 h40 h48 h49 sp0 lw0))]) (w1 := [(h1, .inr (9, mX9 h2 h3 (upd v1 2 (u20_ 0)))), (h2, zi k2 600 (a20_ 0))]) hP hD [1, 2] [0] rfl rfl (by decide) (by decide) hk1 hFc hP1 hD1
    have hP : va_P (dC, dI) vwCl [(h0, .inr (11, mX11 h1 h4 h11 h18 h23 h32 h33 h40 h48 h49 sp0 lw0)), (h1, .inr (9, mX9 h2 h3 (upd v1 2 (u20_ 0)))), (h2, zi k2 600 (a20_ 0))] H1 := hP.sub [0, 1, 2] rfl
    have hD : va_D A [(h0, .inr (11, mX11 h1 h4 h11 h18 h23 h32 h33 h40 h48 h49 sp0 lw0)), (h1, .inr (9, mX9 h2 h3 (upd v1 2 (u20_ 0)))), (h2, zi k2 600 (a20_ 0))] := hD.sub [0, 1, 2] (by decide) rfl
    generalize H1 = H at hP hS ⊢
    clear hz1
    replace hX20_0 := hX20_0 (by omega)
    replace hB20_0 := hB20_0 (by omega)
    refine lv_aload_n hx hb dX11_feed_23 rfl (lv_at hl 0 rfl) ?_
    refine va_get (D := (dC, dI)) (ci := 11) (v := .ref h1) (C := RX11) (T := TX11) (N := 12) hx hb hG zuX11 hown hK hP 0 rfl rfl 0 (by decide) (hG _ zv557) (fun _ h9 => h9) rfl dX11_feed_24 ?_
    refine lv_iload_n hx hb dX11_feed_27 rfl (lv_at hl 2 rfl) ?_
    have hPc := hP.sub (ws' := [(h1, .inr (9, mX9 h2 h3 (upd v1 2 (u20_ 0)))), (h2, zi k2 600 (a20_ 0))]) [1, 2] rfl
    have hDc := hD.sub (ws' := [(h1, .inr (9, mX9 h2 h3 (upd v1 2 (u20_ 0)))), (h2, zi k2 600 (a20_ 0))]) [1, 2] (by decide) rfl
    have hKc := hK.sub (tys' := [(k2, .byte)]) [0] rfl
    have hFc := va_free (wc := [(h1, .inr (9, mX9 h2 h3 (upd v1 2 (u20_ 0)))), (h2, zi k2 600 (a20_ 0))]) hD hS hA [1, 2] rfl
    refine va_callv (va_runV (As := [.int x2]) (rest := []) ⟨hx, hb, hml, hown, hG⟩ (sX9_put_0 l dC dI adK adV h1 h2 h3 k2 H.size (upd v1 2 (u20_ 0)) (a20_ 0) x2 (zR_up2 hv1 2 (show (0 : Int) ≤ ((u20_ 0) : Int32).toInt ∧ ((u20_ 0) : Int32).toInt ≤ (600 : Int) from (by first | with_reducible assumption | exact ⟨by omega, by omega⟩)))) (cwV 1 hG (zgV zv602 zv603 zv604 zv130 zv605) rfl rfl rfl (by decide +kernel) ⟨Nat.le_of_ble_eq_true rfl, Nat.le_of_ble_eq_true rfl⟩) ⟨zPc_blind, va_recv hKc hPc (ci := 9) (q0 := 0) rfl rfl, zPc_pre hPc hKc hDc hE hS hFc hZ⟩ rfl rfl hl.1 rfl (lv_room (Nat.le_of_ble_eq_true rfl)) dX11_feed_28 ⟨Nat.le_of_ble_eq_true rfl, Nat.le_of_ble_eq_true rfl⟩) hS (fun q _ h => hFc q h) hFc (fun u28_ t H1 locs ht hvm hw hB hz1 hk1 hS => ?_)
    replace hw : (0 ≤ (u28_ 0).toInt ∧ (u28_ 0).toInt ≤ 600) ∧ ((u20_ 0).toInt ≤ 596 → (u28_ 0).toInt = (u20_ 0).toInt + 4) := hw
    obtain ⟨b_, hX28_0⟩ := hw
    obtain ⟨w28_, a28_, b28_, hB28_0, hP1, hK1, hD1⟩ := hB
    have hB28_0 : (u20_ 0).toInt ≤ 596 → zPut (a20_ 0) (a28_ 0) (u20_ 0).toInt (x2 : Int32) (u28_ 0).toInt := hB28_0
    rw [ht] at hP1
    obtain ⟨hP, hD⟩ := va_join (wr := [(h0, .inr (11, mX11 h1 h4 h11 h18 h23 h32 h33 h40 h48 h49 sp0 lw0))]) (w1 := [(h1, .inr (9, mX9 h2 h3 (upd v1 2 (u28_ 0)))), (h2, zi k2 600 (a28_ 0))]) hP hD [1, 2] [0] rfl rfl (by decide) (by decide) hk1 hFc hP1 hD1
    have hP : va_P (dC, dI) vwCl [(h0, .inr (11, mX11 h1 h4 h11 h18 h23 h32 h33 h40 h48 h49 sp0 lw0)), (h1, .inr (9, mX9 h2 h3 (upd v1 2 (u28_ 0)))), (h2, zi k2 600 (a28_ 0))] H1 := hP.sub [0, 1, 2] rfl
    have hD : va_D A [(h0, .inr (11, mX11 h1 h4 h11 h18 h23 h32 h33 h40 h48 h49 sp0 lw0)), (h1, .inr (9, mX9 h2 h3 (upd v1 2 (u28_ 0)))), (h2, zi k2 600 (a28_ 0))] := hD.sub [0, 1, 2] (by decide) rfl
    generalize H1 = H at hP hS ⊢
    clear hz1
    replace hX28_0 := hX28_0 (by omega)
    replace hB28_0 := hB28_0 (by omega)
    refine lv_aload_n hx hb dX11_feed_31 rfl (lv_at hl 0 rfl) ?_
    refine va_get (D := (dC, dI)) (ci := 11) (v := .ref h1) (C := RX11) (T := TX11) (N := 12) hx hb hG zuX11 hown hK hP 0 rfl rfl 0 (by decide) (hG _ zv557) (fun _ h9 => h9) rfl dX11_feed_32 ?_
    refine lv_iload_n hx hb dX11_feed_35 rfl (lv_at hl 3 rfl) ?_
    have hPc := hP.sub (ws' := [(h1, .inr (9, mX9 h2 h3 (upd v1 2 (u28_ 0)))), (h2, zi k2 600 (a28_ 0))]) [1, 2] rfl
    have hDc := hD.sub (ws' := [(h1, .inr (9, mX9 h2 h3 (upd v1 2 (u28_ 0)))), (h2, zi k2 600 (a28_ 0))]) [1, 2] (by decide) rfl
    have hKc := hK.sub (tys' := [(k2, .byte)]) [0] rfl
    have hFc := va_free (wc := [(h1, .inr (9, mX9 h2 h3 (upd v1 2 (u28_ 0)))), (h2, zi k2 600 (a28_ 0))]) hD hS hA [1, 2] rfl
    refine va_callv (va_runV (As := [.int x3]) (rest := []) ⟨hx, hb, hml, hown, hG⟩ (sX9_put_0 l dC dI adK adV h1 h2 h3 k2 H.size (upd v1 2 (u28_ 0)) (a28_ 0) x3 (zR_up2 hv1 2 (show (0 : Int) ≤ ((u28_ 0) : Int32).toInt ∧ ((u28_ 0) : Int32).toInt ≤ (600 : Int) from (by first | with_reducible assumption | exact ⟨by omega, by omega⟩)))) (cwV 1 hG (zgV zv602 zv603 zv604 zv130 zv605) rfl rfl rfl (by decide +kernel) ⟨Nat.le_of_ble_eq_true rfl, Nat.le_of_ble_eq_true rfl⟩) ⟨zPc_blind, va_recv hKc hPc (ci := 9) (q0 := 0) rfl rfl, zPc_pre hPc hKc hDc hE hS hFc hZ⟩ rfl rfl hl.1 rfl (lv_room (Nat.le_of_ble_eq_true rfl)) dX11_feed_36 ⟨Nat.le_of_ble_eq_true rfl, Nat.le_of_ble_eq_true rfl⟩) hS (fun q _ h => hFc q h) hFc (fun u36_ t H1 locs ht hvm hw hB hz1 hk1 hS => ?_)
    replace hw : (0 ≤ (u36_ 0).toInt ∧ (u36_ 0).toInt ≤ 600) ∧ ((u28_ 0).toInt ≤ 596 → (u36_ 0).toInt = (u28_ 0).toInt + 4) := hw
    obtain ⟨b_, hX36_0⟩ := hw
    obtain ⟨w36_, a36_, b36_, hB36_0, hP1, hK1, hD1⟩ := hB
    have hB36_0 : (u28_ 0).toInt ≤ 596 → zPut (a28_ 0) (a36_ 0) (u28_ 0).toInt (x3 : Int32) (u36_ 0).toInt := hB36_0
    rw [ht] at hP1
    obtain ⟨hP, hD⟩ := va_join (wr := [(h0, .inr (11, mX11 h1 h4 h11 h18 h23 h32 h33 h40 h48 h49 sp0 lw0))]) (w1 := [(h1, .inr (9, mX9 h2 h3 (upd v1 2 (u36_ 0)))), (h2, zi k2 600 (a36_ 0))]) hP hD [1, 2] [0] rfl rfl (by decide) (by decide) hk1 hFc hP1 hD1
    have hP : va_P (dC, dI) vwCl [(h0, .inr (11, mX11 h1 h4 h11 h18 h23 h32 h33 h40 h48 h49 sp0 lw0)), (h1, .inr (9, mX9 h2 h3 (upd v1 2 (u36_ 0)))), (h2, zi k2 600 (a36_ 0))] H1 := hP.sub [0, 1, 2] rfl
    have hD : va_D A [(h0, .inr (11, mX11 h1 h4 h11 h18 h23 h32 h33 h40 h48 h49 sp0 lw0)), (h1, .inr (9, mX9 h2 h3 (upd v1 2 (u36_ 0)))), (h2, zi k2 600 (a36_ 0))] := hD.sub [0, 1, 2] (by decide) rfl
    generalize H1 = H at hP hS ⊢
    clear hz1
    replace hX36_0 := hX36_0 (by omega)
    replace hB36_0 := hB36_0 (by omega)
    refine lv_aload_n hx hb dX11_feed_39 rfl (lv_at hl 0 rfl) ?_
    refine va_get (D := (dC, dI)) (ci := 11) (v := .ref h1) (C := RX11) (T := TX11) (N := 12) hx hb hG zuX11 hown hK hP 0 rfl rfl 0 (by decide) (hG _ zv557) (fun _ h9 => h9) rfl dX11_feed_40 ?_
    refine lv_iload hx hb dX11_feed_43 (lv_at hl 4 rfl) ?_
    have hPc := hP.sub (ws' := [(h1, .inr (9, mX9 h2 h3 (upd v1 2 (u36_ 0)))), (h2, zi k2 600 (a36_ 0))]) [1, 2] rfl
    have hDc := hD.sub (ws' := [(h1, .inr (9, mX9 h2 h3 (upd v1 2 (u36_ 0)))), (h2, zi k2 600 (a36_ 0))]) [1, 2] (by decide) rfl
    have hKc := hK.sub (tys' := [(k2, .byte)]) [0] rfl
    have hFc := va_free (wc := [(h1, .inr (9, mX9 h2 h3 (upd v1 2 (u36_ 0)))), (h2, zi k2 600 (a36_ 0))]) hD hS hA [1, 2] rfl
    refine va_callv (va_runV (As := [.int x4]) (rest := []) ⟨hx, hb, hml, hown, hG⟩ (sX9_put_0 l dC dI adK adV h1 h2 h3 k2 H.size (upd v1 2 (u36_ 0)) (a36_ 0) x4 (zR_up2 hv1 2 (show (0 : Int) ≤ ((u36_ 0) : Int32).toInt ∧ ((u36_ 0) : Int32).toInt ≤ (600 : Int) from (by first | with_reducible assumption | exact ⟨by omega, by omega⟩)))) (cwV 1 hG (zgV zv602 zv603 zv604 zv130 zv605) rfl rfl rfl (by decide +kernel) ⟨Nat.le_of_ble_eq_true rfl, Nat.le_of_ble_eq_true rfl⟩) ⟨zPc_blind, va_recv hKc hPc (ci := 9) (q0 := 0) rfl rfl, zPc_pre hPc hKc hDc hE hS hFc hZ⟩ rfl rfl hl.1 rfl (lv_room (Nat.le_of_ble_eq_true rfl)) dX11_feed_45 ⟨Nat.le_of_ble_eq_true rfl, Nat.le_of_ble_eq_true rfl⟩) hS (fun q _ h => hFc q h) hFc (fun u45_ t H1 locs ht hvm hw hB hz1 hk1 hS => ?_)
    replace hw : (0 ≤ (u45_ 0).toInt ∧ (u45_ 0).toInt ≤ 600) ∧ ((u36_ 0).toInt ≤ 596 → (u45_ 0).toInt = (u36_ 0).toInt + 4) := hw
    obtain ⟨b_, hX45_0⟩ := hw
    obtain ⟨w45_, a45_, b45_, hB45_0, hP1, hK1, hD1⟩ := hB
    have hB45_0 : (u36_ 0).toInt ≤ 596 → zPut (a36_ 0) (a45_ 0) (u36_ 0).toInt (x4 : Int32) (u45_ 0).toInt := hB45_0
    rw [ht] at hP1
    obtain ⟨hP, hD⟩ := va_join (wr := [(h0, .inr (11, mX11 h1 h4 h11 h18 h23 h32 h33 h40 h48 h49 sp0 lw0))]) (w1 := [(h1, .inr (9, mX9 h2 h3 (upd v1 2 (u45_ 0)))), (h2, zi k2 600 (a45_ 0))]) hP hD [1, 2] [0] rfl rfl (by decide) (by decide) hk1 hFc hP1 hD1
    have hP : va_P (dC, dI) vwCl [(h0, .inr (11, mX11 h1 h4 h11 h18 h23 h32 h33 h40 h48 h49 sp0 lw0)), (h1, .inr (9, mX9 h2 h3 (upd v1 2 (u45_ 0)))), (h2, zi k2 600 (a45_ 0))] H1 := hP.sub [0, 1, 2] rfl
    have hD : va_D A [(h0, .inr (11, mX11 h1 h4 h11 h18 h23 h32 h33 h40 h48 h49 sp0 lw0)), (h1, .inr (9, mX9 h2 h3 (upd v1 2 (u45_ 0)))), (h2, zi k2 600 (a45_ 0))] := hD.sub [0, 1, 2] (by decide) rfl
    generalize H1 = H at hP hS ⊢
    clear hz1
    replace hX45_0 := hX45_0 (by omega)
    replace hB45_0 := hB45_0 (by omega)
    refine lv_aload_n hx hb dX11_feed_48 rfl (lv_at hl 0 rfl) ?_
    refine va_get (D := (dC, dI)) (ci := 11) (v := .ref h1) (C := RX11) (T := TX11) (N := 12) hx hb hG zuX11 hown hK hP 0 rfl rfl 0 (by decide) (hG _ zv557) (fun _ h9 => h9) rfl dX11_feed_49 ?_
    refine lv_iload hx hb dX11_feed_52 (lv_at hl 5 rfl) ?_
    have hPc := hP.sub (ws' := [(h1, .inr (9, mX9 h2 h3 (upd v1 2 (u45_ 0)))), (h2, zi k2 600 (a45_ 0))]) [1, 2] rfl
    have hDc := hD.sub (ws' := [(h1, .inr (9, mX9 h2 h3 (upd v1 2 (u45_ 0)))), (h2, zi k2 600 (a45_ 0))]) [1, 2] (by decide) rfl
    have hKc := hK.sub (tys' := [(k2, .byte)]) [0] rfl
    have hFc := va_free (wc := [(h1, .inr (9, mX9 h2 h3 (upd v1 2 (u45_ 0)))), (h2, zi k2 600 (a45_ 0))]) hD hS hA [1, 2] rfl
    refine va_callv (va_runV (As := [.int x5]) (rest := []) ⟨hx, hb, hml, hown, hG⟩ (sX9_put_0 l dC dI adK adV h1 h2 h3 k2 H.size (upd v1 2 (u45_ 0)) (a45_ 0) x5 (zR_up2 hv1 2 (show (0 : Int) ≤ ((u45_ 0) : Int32).toInt ∧ ((u45_ 0) : Int32).toInt ≤ (600 : Int) from (by first | with_reducible assumption | exact ⟨by omega, by omega⟩)))) (cwV 1 hG (zgV zv602 zv603 zv604 zv130 zv605) rfl rfl rfl (by decide +kernel) ⟨Nat.le_of_ble_eq_true rfl, Nat.le_of_ble_eq_true rfl⟩) ⟨zPc_blind, va_recv hKc hPc (ci := 9) (q0 := 0) rfl rfl, zPc_pre hPc hKc hDc hE hS hFc hZ⟩ rfl rfl hl.1 rfl (lv_room (Nat.le_of_ble_eq_true rfl)) dX11_feed_54 ⟨Nat.le_of_ble_eq_true rfl, Nat.le_of_ble_eq_true rfl⟩) hS (fun q _ h => hFc q h) hFc (fun u54_ t H1 locs ht hvm hw hB hz1 hk1 hS => ?_)
    replace hw : (0 ≤ (u54_ 0).toInt ∧ (u54_ 0).toInt ≤ 600) ∧ ((u45_ 0).toInt ≤ 596 → (u54_ 0).toInt = (u45_ 0).toInt + 4) := hw
    obtain ⟨b_, hX54_0⟩ := hw
    obtain ⟨w54_, a54_, b54_, hB54_0, hP1, hK1, hD1⟩ := hB
    have hB54_0 : (u45_ 0).toInt ≤ 596 → zPut (a45_ 0) (a54_ 0) (u45_ 0).toInt (x5 : Int32) (u54_ 0).toInt := hB54_0
    rw [ht] at hP1
    obtain ⟨hP, hD⟩ := va_join (wr := [(h0, .inr (11, mX11 h1 h4 h11 h18 h23 h32 h33 h40 h48 h49 sp0 lw0))]) (w1 := [(h1, .inr (9, mX9 h2 h3 (upd v1 2 (u54_ 0)))), (h2, zi k2 600 (a54_ 0))]) hP hD [1, 2] [0] rfl rfl (by decide) (by decide) hk1 hFc hP1 hD1
    have hP : va_P (dC, dI) vwCl [(h0, .inr (11, mX11 h1 h4 h11 h18 h23 h32 h33 h40 h48 h49 sp0 lw0)), (h1, .inr (9, mX9 h2 h3 (upd v1 2 (u54_ 0)))), (h2, zi k2 600 (a54_ 0))] H1 := hP.sub [0, 1, 2] rfl
    have hD : va_D A [(h0, .inr (11, mX11 h1 h4 h11 h18 h23 h32 h33 h40 h48 h49 sp0 lw0)), (h1, .inr (9, mX9 h2 h3 (upd v1 2 (u54_ 0)))), (h2, zi k2 600 (a54_ 0))] := hD.sub [0, 1, 2] (by decide) rfl
    generalize H1 = H at hP hS ⊢
    clear hz1
    replace hX54_0 := hX54_0 (by omega)
    replace hB54_0 := hB54_0 (by omega)
    refine lv_aload_n hx hb dX11_feed_57 rfl (lv_at hl 0 rfl) ?_
    refine va_get (D := (dC, dI)) (ci := 11) (v := .ref h1) (C := RX11) (T := TX11) (N := 12) hx hb hG zuX11 hown hK hP 0 rfl rfl 0 (by decide) (hG _ zv557) (fun _ h9 => h9) rfl dX11_feed_58 ?_
    have hPc := hP.sub (ws' := [(h1, .inr (9, mX9 h2 h3 (upd v1 2 (u54_ 0))))]) [1] rfl
    have hDc := hD.sub (ws' := [(h1, .inr (9, mX9 h2 h3 (upd v1 2 (u54_ 0))))]) [1] (by decide) rfl
    have hKc := hK.sub (tys' := []) [] rfl
    have hFc := va_free (wc := [(h1, .inr (9, mX9 h2 h3 (upd v1 2 (u54_ 0))))]) hD hS hA [1] rfl
    refine va_calli (va_runV (As := []) (rest := []) ⟨hx, hb, hml, hown, hG⟩ (sX9_size_0 l dC dI adK adV h1 h2 h3 H.size (upd v1 2 (u54_ 0)) (zR_up2 hv1 2 (show (0 : Int) ≤ ((u54_ 0) : Int32).toInt ∧ ((u54_ 0) : Int32).toInt ≤ (600 : Int) from (by first | with_reducible assumption | exact ⟨by omega, by omega⟩)))) (cwV 0 hG (zgV zv606 zv607 zv608 zv130 zv609) rfl rfl rfl (by decide +kernel) ⟨Nat.le_of_ble_eq_true rfl, Nat.le_of_ble_eq_true rfl⟩) ⟨zPc_blind, va_recv hKc hPc (ci := 9) (q0 := 0) rfl rfl, zPc_pre hPc hKc hDc hE hS hFc hZ⟩ rfl rfl hl.1 rfl (lv_room (Nat.le_of_ble_eq_true rfl)) dX11_feed_61 ⟨Nat.le_of_ble_eq_true rfl, Nat.le_of_ble_eq_true rfl⟩) hS (fun q _ h => hFc q h) hFc (fun r61_ u61_ t H1 locs ht hvm hw hB hz1 hk1 hS => ?_)
    replace hw : (0 ≤ r61_.toInt ∧ r61_.toInt ≤ 600) ∧ (r61_.toInt = (u54_ 0).toInt) := hw
    obtain ⟨b_, hX61_0⟩ := hw
    obtain ⟨w61_, a61_, b61_, hP1, hK1, hD1⟩ := hB
    rw [ht] at hP1
    obtain ⟨hP, hD⟩ := va_join (wr := [(h0, .inr (11, mX11 h1 h4 h11 h18 h23 h32 h33 h40 h48 h49 sp0 lw0)), (h2, zi k2 600 (a54_ 0))]) (w1 := [(h1, .inr (9, mX9 h2 h3 (upd v1 2 (u54_ 0))))]) hP hD [1] [0, 2] rfl rfl (by decide) (by decide) hk1 hFc hP1 hD1
    have hP : va_P (dC, dI) vwCl [(h0, .inr (11, mX11 h1 h4 h11 h18 h23 h32 h33 h40 h48 h49 sp0 lw0)), (h1, .inr (9, mX9 h2 h3 (upd v1 2 (u54_ 0)))), (h2, zi k2 600 (a54_ 0))] H1 := hP.sub [0, 2, 1] rfl
    have hD : va_D A [(h0, .inr (11, mX11 h1 h4 h11 h18 h23 h32 h33 h40 h48 h49 sp0 lw0)), (h1, .inr (9, mX9 h2 h3 (upd v1 2 (u54_ 0)))), (h2, zi k2 600 (a54_ 0))] := hD.sub [0, 2, 1] (by decide) rfl
    generalize H1 = H at hP hS ⊢
    clear hz1
    refine W.widen (k := 0) (n := 0) (by decide) (by decide) ?_
    have hpost : ((-2) ≤ r61_.toInt ∧ r61_.toInt ≤ 600) ∧ (0 ≤ (u54_ 0).toInt ∧ (u54_ 0).toInt ≤ 600) ∧ ((v1 2).toInt ≤ 580 → r61_.toInt = (v1 2).toInt + 20 ∧ (u54_ 0).toInt = (v1 2).toInt + 20) ∧ (580 < (v1 2).toInt → r61_.toInt = -2 ∧ (u54_ 0).toInt = (v1 2).toInt) := ⟨(by first | with_reducible assumption | exact ⟨by omega, by omega⟩), (by first | with_reducible assumption | exact ⟨by omega, by omega⟩), by omega, by omega⟩
    have hP9 : va_P (dC, dI) vwCl [(h0, .inr (11, mX11 h1 h4 h11 h18 h23 h32 h33 h40 h48 h49 sp0 lw0)), (h1, .inr (9, mX9 h2 h3 (upd v1 2 (u54_ 0)))), (h2, zi k2 600 (a54_ 0))] H := hP
    have hD9 : va_D A [(h0, .inr (11, mX11 h1 h4 h11 h18 h23 h32 h33 h40 h48 h49 sp0 lw0)), (h1, .inr (9, mX9 h2 h3 (upd v1 2 (u54_ 0)))), (h2, zi k2 600 (a54_ 0))] := hD
    have hB0 : (v1 2).toInt ≤ 580 → zFed f2 (a54_ 0) (v1 2).toInt (x1 : Int32) (x2 : Int32) (x3 : Int32) (x4 : Int32) (x5 : Int32) := by first | exact fun _ => zFed_5 hB20_0 hB28_0 hB36_0 hB45_0 hB54_0 (by omega) (by omega) (by omega) (by omega) (by omega) (by omega) (by omega) (by omega) (by omega) | (intro q; omega)
    have hB1 : 580 < (v1 2).toInt → ∀ j : Nat, (a54_ 0) j = f2 j := by first | exact fun _ _ => rfl | exact fun q => absurd q (by omega)
    exact W.iret (v := r61_) hx hb hr (fun t ht hW => ⟨⟨r61_, (fun i => ([(u54_ 0)] : List (Int32)).getD i 0), rfl, hpost, (fun _ => 0), (fun i => ([(a54_ 0)] : List (Nat → Int32)).getD i (fun _ => 0)), (fun _ => (fun _ => 0)), hB0, hB1, by rw [ht]; exact hP9, va_K.moved hW.alike hK, hD9⟩, hS.F ht⟩) hS.2.2 dX11_feed_64
  · skip
    have b_ := zF_ne rfl zk_0 c_
    refine lv_bipush (v := (-2)) hx hb dX11_feed_12 (by decide) ?_
    refine W.widen (k := 0) (n := 0) (by decide) (by decide) ?_
    have hpost : ((-2) ≤ ((-2) : Int32).toInt ∧ ((-2) : Int32).toInt ≤ 600) ∧ (0 ≤ (v1 2).toInt ∧ (v1 2).toInt ≤ 600) ∧ ((v1 2).toInt ≤ 580 → ((-2) : Int32).toInt = (v1 2).toInt + 20 ∧ (v1 2).toInt = (v1 2).toInt + 20) ∧ (580 < (v1 2).toInt → ((-2) : Int32).toInt = -2 ∧ (v1 2).toInt = (v1 2).toInt) := ⟨(by first | with_reducible assumption | exact ⟨by omega, by omega⟩), (by first | with_reducible assumption | exact ⟨by omega, by omega⟩), by omega, by omega⟩
    have hP9 : va_P (dC, dI) vwCl [(h0, .inr (11, mX11 h1 h4 h11 h18 h23 h32 h33 h40 h48 h49 sp0 lw0)), (h1, .inr (9, mX9 h2 h3 (upd v1 2 (v1 2)))), (h2, zi k2 600 f2)] H := hP
    have hD9 : va_D A [(h0, .inr (11, mX11 h1 h4 h11 h18 h23 h32 h33 h40 h48 h49 sp0 lw0)), (h1, .inr (9, mX9 h2 h3 (upd v1 2 (v1 2)))), (h2, zi k2 600 f2)] := hD
    have hB0 : (v1 2).toInt ≤ 580 → zFed f2 f2 (v1 2).toInt (x1 : Int32) (x2 : Int32) (x3 : Int32) (x4 : Int32) (x5 : Int32) := by first | exact fun _ => zFed_5 hB20_0 hB28_0 hB36_0 hB45_0 hB54_0 (by omega) (by omega) (by omega) (by omega) (by omega) (by omega) (by omega) (by omega) (by omega) | (intro q; omega)
    have hB1 : 580 < (v1 2).toInt → ∀ j : Nat, f2 j = f2 j := by first | exact fun _ _ => rfl | exact fun q => absurd q (by omega)
    exact W.iret (v := (-2)) hx hb hr (fun t ht hW => ⟨⟨(-2), (fun i => ([(v1 2)] : List (Int32)).getD i 0), rfl, hpost, (fun _ => 0), (fun i => ([f2] : List (Nat → Int32)).getD i (fun _ => 0)), (fun _ => (fun _ => 0)), hB0, hB1, by rw [ht]; exact hP9, va_K.moved hW.alike hK, hD9⟩, hS.F ht⟩) hS.2.2 dX11_feed_14
set_option maxHeartbeats 8000000 in
set_option maxRecDepth 100000 in
theorem sX9_cut_0 (l : Launch) (dC : Nat → ClassId) (dI : Nat → Nat → Nat) (adK adV : Nat → Nat) (h0 : Nat) (h1 : Nat) (h2 : Nat) (sz : Nat) (v0 : Nat → Int32) (x1 : Int32) (hv0 : zR rg_Tape v0) : Met l yX9_cut (zw yX9_cut cX9_cut 2 (some .boolean)) { frames := 0, cells := 0, slots := 0, locals := 0 } (zPc dC dI adK adV [.ref h0, .int x1] sz [(h0, .inr (9, mX9 h1 h2 v0))] []) (va_Qi (fun (r : Int32) (u : Nat → Int32) => (0 ≤ r.toInt ∧ r.toInt ≤ 1) ∧ (0 ≤ (u 0).toInt ∧ (u 0).toInt ≤ 600) ∧ (r.toInt = 1 → 0 ≤ x1.toInt ∧ x1.toInt ≤ (v0 2).toInt ∧ (u 0).toInt = x1.toInt) ∧ (r.toInt = 0 → (x1.toInt < 0 ∨ (v0 2).toInt < x1.toInt) ∧ (u 0).toInt = (v0 2).toInt)) (fun (u : Nat → Int32) (t : State) => ∃ (ww : Nat → Int64) (aa : Nat → Nat → Int32) (bb : Nat → Nat → Int64), va_P (dC, dI) vwCl [(h0, .inr (9, mX9 h1 h2 (upd v0 2 (u 0))))] t.heap ∧ va_K (dC, dI) vwCl [] t ∧ va_D (va_A [(h0, .inr (9, mX9 h1 h2 v0))] sz) [(h0, .inr (9, mX9 h1 h2 (upd v0 2 (u 0))))]) (va_A [(h0, .inr (9, mX9 h1 h2 v0))] sz)) 0 0 (va_A [(h0, .inr (9, mX9 h1 h2 v0))] sz) := by
  refine Met.ofW (cc := cX9_cut) (maxL := 2) (ret := (some .boolean)) (by decide) rfl ?_
  intro p e s m args below meth c s₁ B hml hv
  obtain ⟨rfl, hsz, hP, hK, hD0, hE, hZ⟩ := hv
  have hx := B.exec
  have hb := B.bytes
  have hr := B.returns
  have hG : ∀ w ∈ zG, w.before _ s = true := fun w h => atoms_spec (ws := (zw yX9_cut cX9_cut 2 (some .boolean))) B.pre w (List.mem_cons_of_mem _ h)
  have hown : s.vm.findClass RX9 = some m.cls := findClass_of_methodNamed B.named
  have hlocks := B.notSynchronized

  subst hsz
  have hD := hD0.self (sz := s.heap.size)
  generalize hAe : va_A [(h0, .inr (9, mX9 h1 h2 v0))] s.heap.size = A at hD hZ ⊢
  have hA : ∀ q : Nat, s.heap.size ≤ q → A q := fun q h => by rw [← hAe]; exact Or.inr h
  have hS : va_S A s.heap s.heap [] := va_S.rf
  have hl := lv_entry ([.ref h0, .int x1]) (n := 2) (Nat.le_of_ble_eq_true rfl)
  rw [lg_entry_eq]
  generalize (lg_sl ([.ref h0, .int x1]) ++ List.replicate (2 - (lg_sl ([.ref h0, .int x1])).length) Slot.unset).toArray = ls at hl ⊢
  have hl : lv_has ls 2 [(0, .ref h0), (1, .int x1)] := hl
  have b_ := zk_0
  have b_ := zk_1
  have b_ : 0 ≤ (v0 2).toInt ∧ (v0 2).toInt ≤ 600 := hv0 2
  refine lv_iload_n hx hb dX9_cut_0 rfl (lv_at hl 1 rfl) ?_
  have b_ : -2147483648 ≤ x1.toInt ∧ x1.toInt ≤ 2147483647 := ⟨zlo _, zhi _⟩
  refine lv_if_lt (tgt := 12) hx hb dX9_cut_1 (by decide) (fun c_ => ?_) (fun c_ => ?_)
  · skip
    have b_ := zT_lt rfl zk_0 c_
    refine lv_iconst (v := 0) hx hb dX9_cut_12 (by decide) ?_
    refine W.widen (k := 0) (n := 0) (by decide) (by decide) ?_
    have hpost : (0 ≤ (0 : Int32).toInt ∧ (0 : Int32).toInt ≤ 1) ∧ (0 ≤ (v0 2).toInt ∧ (v0 2).toInt ≤ 600) ∧ ((0 : Int32).toInt = 1 → 0 ≤ x1.toInt ∧ x1.toInt ≤ (v0 2).toInt ∧ (v0 2).toInt = x1.toInt) ∧ ((0 : Int32).toInt = 0 → (x1.toInt < 0 ∨ (v0 2).toInt < x1.toInt) ∧ (v0 2).toInt = (v0 2).toInt) := ⟨(by first | with_reducible assumption | exact ⟨by omega, by omega⟩), (by first | with_reducible assumption | exact ⟨by omega, by omega⟩), by omega, by omega⟩
    have hP9 : va_P (dC, dI) vwCl [(h0, .inr (9, mX9 h1 h2 (upd v0 2 (v0 2))))] s.heap := hP
    have hD9 : va_D A [(h0, .inr (9, mX9 h1 h2 (upd v0 2 (v0 2))))] := hD
    exact W.zret (v := 0) hx hb hr rfl (fun t ht hW => ⟨⟨0, (fun i => ([(v0 2)] : List (Int32)).getD i 0), rfl, hpost, (fun _ => 0), (fun _ => (fun _ => 0)), (fun _ => (fun _ => 0)), by rw [ht]; exact hP9, va_K.moved hW.alike hK, hD9⟩, hS.F ht⟩) hS.2.2 dX9_cut_13
  · skip
    have b_ := zF_lt rfl zk_0 c_
    refine lv_iload_n hx hb dX9_cut_4 rfl (lv_at hl 1 rfl) ?_
    refine lv_aload_n hx hb dX9_cut_5 rfl (lv_at hl 0 rfl) ?_
    refine va_get (D := (dC, dI)) (ci := 9) (v := .int (v0 2)) (C := RX9) (T := TX9) (N := 4) hx hb hG zuX9 hown hK hP 0 rfl rfl 2 (by decide) (hG _ zv171) (fun _ h9 => h9) rfl dX9_cut_6 ?_
    refine lv_icmp_le (tgt := 14) hx hb dX9_cut_9 (by decide) (fun c_ => ?_) (fun c_ => ?_)
    · skip
      have b_ := zT_le rfl rfl c_
      refine lv_aload_n hx hb dX9_cut_14 rfl (lv_at hl 0 rfl) ?_
      refine lv_iload_n hx hb dX9_cut_15 rfl (lv_at hl 1 rfl) ?_
      refine va_put (D := (dC, dI)) (ci := 9) (v := .int x1) (ty := .int) (C := RX9) (T := TX9) (N := 4) hx hb hG zuX9 tyX9 tyX9_ok nmX9 hown hK hP hD hS 0 rfl rfl 2 (by decide) (hG _ zv171) (fun _ h9 => h9) rfl (by decide +kernel) rfl rfl (Nat.le_of_ble_eq_true rfl) dX9_cut_16 (fun H locs hP hD hS => ?_)
      have hP : va_P (dC, dI) vwCl [(h0, .inr (9, mX9 h1 h2 (upd v0 2 x1)))] H := hP
      have hD : va_D A [(h0, .inr (9, mX9 h1 h2 (upd v0 2 x1)))] := hD
      refine lv_iconst (v := 1) hx hb dX9_cut_19 (by decide) ?_
      refine W.widen (k := 0) (n := 0) (by decide) (by decide) ?_
      have hpost : (0 ≤ (1 : Int32).toInt ∧ (1 : Int32).toInt ≤ 1) ∧ (0 ≤ x1.toInt ∧ x1.toInt ≤ 600) ∧ ((1 : Int32).toInt = 1 → 0 ≤ x1.toInt ∧ x1.toInt ≤ (v0 2).toInt ∧ x1.toInt = x1.toInt) ∧ ((1 : Int32).toInt = 0 → (x1.toInt < 0 ∨ (v0 2).toInt < x1.toInt) ∧ x1.toInt = (v0 2).toInt) := ⟨(by first | with_reducible assumption | exact ⟨by omega, by omega⟩), (by first | with_reducible assumption | exact ⟨by omega, by omega⟩), by omega, by omega⟩
      have hP9 : va_P (dC, dI) vwCl [(h0, .inr (9, mX9 h1 h2 (upd v0 2 x1)))] H := hP
      have hD9 : va_D A [(h0, .inr (9, mX9 h1 h2 (upd v0 2 x1)))] := hD
      exact W.zret (v := 1) hx hb hr rfl (fun t ht hW => ⟨⟨1, (fun i => ([x1] : List (Int32)).getD i 0), rfl, hpost, (fun _ => 0), (fun _ => (fun _ => 0)), (fun _ => (fun _ => 0)), by rw [ht]; exact hP9, va_K.moved hW.alike hK, hD9⟩, hS.F ht⟩) hS.2.2 dX9_cut_20
    · skip
      have b_ := zF_le rfl rfl c_
      refine lv_iconst (v := 0) hx hb dX9_cut_12 (by decide) ?_
      refine W.widen (k := 0) (n := 0) (by decide) (by decide) ?_
      have hpost : (0 ≤ (0 : Int32).toInt ∧ (0 : Int32).toInt ≤ 1) ∧ (0 ≤ (v0 2).toInt ∧ (v0 2).toInt ≤ 600) ∧ ((0 : Int32).toInt = 1 → 0 ≤ x1.toInt ∧ x1.toInt ≤ (v0 2).toInt ∧ (v0 2).toInt = x1.toInt) ∧ ((0 : Int32).toInt = 0 → (x1.toInt < 0 ∨ (v0 2).toInt < x1.toInt) ∧ (v0 2).toInt = (v0 2).toInt) := ⟨(by first | with_reducible assumption | exact ⟨by omega, by omega⟩), (by first | with_reducible assumption | exact ⟨by omega, by omega⟩), by omega, by omega⟩
      have hP9 : va_P (dC, dI) vwCl [(h0, .inr (9, mX9 h1 h2 (upd v0 2 (v0 2))))] s.heap := hP
      have hD9 : va_D A [(h0, .inr (9, mX9 h1 h2 (upd v0 2 (v0 2))))] := hD
      exact W.zret (v := 0) hx hb hr rfl (fun t ht hW => ⟨⟨0, (fun i => ([(v0 2)] : List (Int32)).getD i 0), rfl, hpost, (fun _ => 0), (fun _ => (fun _ => 0)), (fun _ => (fun _ => 0)), by rw [ht]; exact hP9, va_K.moved hW.alike hK, hD9⟩, hS.F ht⟩) hS.2.2 dX9_cut_13
set_option maxHeartbeats 8000000 in
set_option maxRecDepth 100000 in
theorem sX11_end_0 (l : Launch) (dC : Nat → ClassId) (dI : Nat → Nat → Nat) (adK adV : Nat → Nat) (h0 : Nat) (h1 : Nat) (h4 : Nat) (h11 : Nat) (h18 : Nat) (h23 : Nat) (h32 : Nat) (h33 : Nat) (h40 : Nat) (h48 : Nat) (h49 : Nat) (h2 : Nat) (h3 : Nat) (sz : Nat) (sp0 : Value) (lw0 : Int64) (v1 : Nat → Int32) (x1 : Int32) (hv1 : zR rg_Tape v1) : Met l yX11_end (zw yX11_end cX11_end 2 (some .int)) { frames := 1, cells := 0, slots := 0, locals := 21 } (zPc dC dI adK adV [.ref h0, .int x1] sz [(h0, .inr (11, mX11 h1 h4 h11 h18 h23 h32 h33 h40 h48 h49 sp0 lw0)), (h1, .inr (9, mX9 h2 h3 v1))] []) (va_Qi (fun (r : Int32) (u : Nat → Int32) => (0 ≤ (u 0).toInt ∧ (u 0).toInt ≤ 600) ∧ ((0 ≤ x1.toInt ∧ x1.toInt ≤ (v1 2).toInt) → r.toInt = x1.toInt ∧ (u 0).toInt = x1.toInt) ∧ ((x1.toInt < 0 ∨ (v1 2).toInt < x1.toInt) → r.toInt = -1 ∧ (u 0).toInt = (v1 2).toInt)) (fun (u : Nat → Int32) (t : State) => ∃ (ww : Nat → Int64) (aa : Nat → Nat → Int32) (bb : Nat → Nat → Int64), va_P (dC, dI) vwCl [(h0, .inr (11, mX11 h1 h4 h11 h18 h23 h32 h33 h40 h48 h49 sp0 lw0)), (h1, .inr (9, mX9 h2 h3 (upd v1 2 (u 0))))] t.heap ∧ va_K (dC, dI) vwCl [] t ∧ va_D (va_A [(h0, .inr (11, mX11 h1 h4 h11 h18 h23 h32 h33 h40 h48 h49 sp0 lw0)), (h1, .inr (9, mX9 h2 h3 v1))] sz) [(h0, .inr (11, mX11 h1 h4 h11 h18 h23 h32 h33 h40 h48 h49 sp0 lw0)), (h1, .inr (9, mX9 h2 h3 (upd v1 2 (u 0))))]) (va_A [(h0, .inr (11, mX11 h1 h4 h11 h18 h23 h32 h33 h40 h48 h49 sp0 lw0)), (h1, .inr (9, mX9 h2 h3 v1))] sz)) 0 0 (va_A [(h0, .inr (11, mX11 h1 h4 h11 h18 h23 h32 h33 h40 h48 h49 sp0 lw0)), (h1, .inr (9, mX9 h2 h3 v1))] sz) := by
  refine Met.ofW (cc := cX11_end) (maxL := 2) (ret := (some .int)) (by decide) rfl ?_
  intro p e s m args below meth c s₁ B hml hv
  obtain ⟨rfl, hsz, hP, hK, hD0, hE, hZ⟩ := hv
  have hx := B.exec
  have hb := B.bytes
  have hr := B.returns
  have hG : ∀ w ∈ zG, w.before _ s = true := fun w h => atoms_spec (ws := (zw yX11_end cX11_end 2 (some .int))) B.pre w (List.mem_cons_of_mem _ h)
  have hown : s.vm.findClass RX11 = some m.cls := findClass_of_methodNamed B.named
  have hlocks := B.notSynchronized

  subst hsz
  have hD := hD0.self (sz := s.heap.size)
  generalize hAe : va_A [(h0, .inr (11, mX11 h1 h4 h11 h18 h23 h32 h33 h40 h48 h49 sp0 lw0)), (h1, .inr (9, mX9 h2 h3 v1))] s.heap.size = A at hD hZ ⊢
  have hA : ∀ q : Nat, s.heap.size ≤ q → A q := fun q h => by rw [← hAe]; exact Or.inr h
  have hS : va_S A s.heap s.heap [] := va_S.rf
  have hl := lv_entry ([.ref h0, .int x1]) (n := 2) (Nat.le_of_ble_eq_true rfl)
  rw [lg_entry_eq]
  generalize (lg_sl ([.ref h0, .int x1]) ++ List.replicate (2 - (lg_sl ([.ref h0, .int x1])).length) Slot.unset).toArray = ls at hl ⊢
  have hl : lv_has ls 2 [(0, .ref h0), (1, .int x1)] := hl
  have b_ := zk_m1
  have b_ : 0 ≤ (v1 2).toInt ∧ (v1 2).toInt ≤ 600 := hv1 2
  refine lv_aload_n hx hb dX11_end_0 rfl (lv_at hl 0 rfl) ?_
  refine va_get (D := (dC, dI)) (ci := 11) (v := .ref h1) (C := RX11) (T := TX11) (N := 12) hx hb hG zuX11 hown hK hP 0 rfl rfl 0 (by decide) (hG _ zv557) (fun _ h9 => h9) rfl dX11_end_1 ?_
  refine lv_iload_n hx hb dX11_end_4 rfl (lv_at hl 1 rfl) ?_
  have hPc := hP.sub (ws' := [(h1, .inr (9, mX9 h2 h3 v1))]) [1] rfl
  have hDc := hD.sub (ws' := [(h1, .inr (9, mX9 h2 h3 v1))]) [1] (by decide) rfl
  have hKc := hK.sub (tys' := []) [] rfl
  have hFc := va_free (wc := [(h1, .inr (9, mX9 h2 h3 v1))]) hD hS hA [1] rfl
  refine va_calli (va_runV (As := [.int x1]) (rest := []) ⟨hx, hb, hml, hown, hG⟩ (sX9_cut_0 l dC dI adK adV h1 h2 h3 s.heap.size v1 x1 hv1) (cwV 1 hG (zgV zv614 zv615 zv616 zv130 zv617) rfl rfl rfl (by decide +kernel) ⟨Nat.le_of_ble_eq_true rfl, Nat.le_of_ble_eq_true rfl⟩) ⟨zPc_blind, va_recv hKc hPc (ci := 9) (q0 := 0) rfl rfl, zPc_pre hPc hKc hDc hE hS hFc hZ⟩ rfl rfl hl.1 rfl (lv_room (Nat.le_of_ble_eq_true rfl)) dX11_end_5 ⟨Nat.le_of_ble_eq_true rfl, Nat.le_of_ble_eq_true rfl⟩) hS (fun q _ h => hFc q h) hFc (fun r5_ u5_ t H1 locs ht hvm hw hB hz1 hk1 hS => ?_)
  replace hw : (0 ≤ r5_.toInt ∧ r5_.toInt ≤ 1) ∧ (0 ≤ (u5_ 0).toInt ∧ (u5_ 0).toInt ≤ 600) ∧ (r5_.toInt = 1 → 0 ≤ x1.toInt ∧ x1.toInt ≤ (v1 2).toInt ∧ (u5_ 0).toInt = x1.toInt) ∧ (r5_.toInt = 0 → (x1.toInt < 0 ∨ (v1 2).toInt < x1.toInt) ∧ (u5_ 0).toInt = (v1 2).toInt) := hw
  obtain ⟨b_, b_, hX5_0, hX5_1⟩ := hw
  obtain ⟨w5_, a5_, b5_, hP1, hK1, hD1⟩ := hB
  rw [ht] at hP1
  obtain ⟨hP, hD⟩ := va_join (wr := [(h0, .inr (11, mX11 h1 h4 h11 h18 h23 h32 h33 h40 h48 h49 sp0 lw0))]) (w1 := [(h1, .inr (9, mX9 h2 h3 (upd v1 2 (u5_ 0))))]) hP hD [1] [0] rfl rfl (by decide) (by decide) hk1 hFc hP1 hD1
  have hP : va_P (dC, dI) vwCl [(h0, .inr (11, mX11 h1 h4 h11 h18 h23 h32 h33 h40 h48 h49 sp0 lw0)), (h1, .inr (9, mX9 h2 h3 (upd v1 2 (u5_ 0))))] H1 := hP.sub [0, 1] rfl
  have hD : va_D A [(h0, .inr (11, mX11 h1 h4 h11 h18 h23 h32 h33 h40 h48 h49 sp0 lw0)), (h1, .inr (9, mX9 h2 h3 (upd v1 2 (u5_ 0))))] := hD.sub [0, 1] (by decide) rfl
  generalize H1 = H at hP hS ⊢
  clear hz1
  refine lv_if_eq (tgt := 15) hx hb dX11_end_8 (by decide) (fun c_ => ?_) (fun c_ => ?_)
  · skip
    have b_ := zT_eq rfl zk_0 c_
    refine lv_iconst (v := (-1)) hx hb dX11_end_15 (by decide) ?_
    refine W.widen (k := 0) (n := 0) (by decide) (by decide) ?_
    have hpost : (0 ≤ (u5_ 0).toInt ∧ (u5_ 0).toInt ≤ 600) ∧ ((0 ≤ x1.toInt ∧ x1.toInt ≤ (v1 2).toInt) → ((-1) : Int32).toInt = x1.toInt ∧ (u5_ 0).toInt = x1.toInt) ∧ ((x1.toInt < 0 ∨ (v1 2).toInt < x1.toInt) → ((-1) : Int32).toInt = -1 ∧ (u5_ 0).toInt = (v1 2).toInt) := ⟨(by first | with_reducible assumption | exact ⟨by omega, by omega⟩), by omega, by omega⟩
    have hP9 : va_P (dC, dI) vwCl [(h0, .inr (11, mX11 h1 h4 h11 h18 h23 h32 h33 h40 h48 h49 sp0 lw0)), (h1, .inr (9, mX9 h2 h3 (upd v1 2 (u5_ 0))))] H := hP
    have hD9 : va_D A [(h0, .inr (11, mX11 h1 h4 h11 h18 h23 h32 h33 h40 h48 h49 sp0 lw0)), (h1, .inr (9, mX9 h2 h3 (upd v1 2 (u5_ 0))))] := hD
    exact W.iret (v := (-1)) hx hb hr (fun t ht hW => ⟨⟨(-1), (fun i => ([(u5_ 0)] : List (Int32)).getD i 0), rfl, hpost, (fun _ => 0), (fun _ => (fun _ => 0)), (fun _ => (fun _ => 0)), by rw [ht]; exact hP9, va_K.moved hW.alike hK, hD9⟩, hS.F ht⟩) hS.2.2 dX11_end_16
  · skip
    have b_ := zF_eq rfl zk_0 c_
    refine lv_iload_n hx hb dX11_end_11 rfl (lv_at hl 1 rfl) ?_
    refine lv_goto (tgt := 16) hx hb dX11_end_12 (by decide) ?_
    refine W.widen (k := 0) (n := 0) (by decide) (by decide) ?_
    have b_ : -2147483648 ≤ x1.toInt ∧ x1.toInt ≤ 2147483647 := ⟨zlo _, zhi _⟩
    have hpost : (0 ≤ (u5_ 0).toInt ∧ (u5_ 0).toInt ≤ 600) ∧ ((0 ≤ x1.toInt ∧ x1.toInt ≤ (v1 2).toInt) → x1.toInt = x1.toInt ∧ (u5_ 0).toInt = x1.toInt) ∧ ((x1.toInt < 0 ∨ (v1 2).toInt < x1.toInt) → x1.toInt = -1 ∧ (u5_ 0).toInt = (v1 2).toInt) := ⟨(by first | with_reducible assumption | exact ⟨by omega, by omega⟩), by omega, by omega⟩
    have hP9 : va_P (dC, dI) vwCl [(h0, .inr (11, mX11 h1 h4 h11 h18 h23 h32 h33 h40 h48 h49 sp0 lw0)), (h1, .inr (9, mX9 h2 h3 (upd v1 2 (u5_ 0))))] H := hP
    have hD9 : va_D A [(h0, .inr (11, mX11 h1 h4 h11 h18 h23 h32 h33 h40 h48 h49 sp0 lw0)), (h1, .inr (9, mX9 h2 h3 (upd v1 2 (u5_ 0))))] := hD
    exact W.iret (v := x1) hx hb hr (fun t ht hW => ⟨⟨x1, (fun i => ([(u5_ 0)] : List (Int32)).getD i 0), rfl, hpost, (fun _ => 0), (fun _ => (fun _ => 0)), (fun _ => (fun _ => 0)), by rw [ht]; exact hP9, va_K.moved hW.alike hK, hD9⟩, hS.F ht⟩) hS.2.2 dX11_end_16
set_option maxHeartbeats 8000000 in
set_option maxRecDepth 100000 in
theorem sX9_clear_0 (l : Launch) (dC : Nat → ClassId) (dI : Nat → Nat → Nat) (adK adV : Nat → Nat) (h0 : Nat) (h1 : Nat) (h2 : Nat) (sz : Nat) (v0 : Nat → Int32) (hv0 : zR rg_Tape v0) : Met l yX9_clear (zw yX9_clear cX9_clear 1 none) { frames := 0, cells := 0, slots := 0, locals := 0 } (zPc dC dI adK adV [.ref h0] sz [(h0, .inr (9, mX9 h1 h2 v0))] []) (va_Qv (fun (u : Nat → Int32) => (0 ≤ (u 0).toInt ∧ (u 0).toInt ≤ 0) ∧ ((u 0).toInt = 0)) (fun (u : Nat → Int32) (t : State) => ∃ (ww : Nat → Int64) (aa : Nat → Nat → Int32) (bb : Nat → Nat → Int64), va_P (dC, dI) vwCl [(h0, .inr (9, mX9 h1 h2 (upd v0 2 (u 0))))] t.heap ∧ va_K (dC, dI) vwCl [] t ∧ va_D (va_A [(h0, .inr (9, mX9 h1 h2 v0))] sz) [(h0, .inr (9, mX9 h1 h2 (upd v0 2 (u 0))))]) (va_A [(h0, .inr (9, mX9 h1 h2 v0))] sz)) 0 0 (va_A [(h0, .inr (9, mX9 h1 h2 v0))] sz) := by
  refine Met.ofW (cc := cX9_clear) (maxL := 1) (ret := none) (by decide) rfl ?_
  intro p e s m args below meth c s₁ B hml hv
  obtain ⟨rfl, hsz, hP, hK, hD0, hE, hZ⟩ := hv
  have hx := B.exec
  have hb := B.bytes
  have hr := B.returns
  have hG : ∀ w ∈ zG, w.before _ s = true := fun w h => atoms_spec (ws := (zw yX9_clear cX9_clear 1 none)) B.pre w (List.mem_cons_of_mem _ h)
  have hown : s.vm.findClass RX9 = some m.cls := findClass_of_methodNamed B.named
  have hlocks := B.notSynchronized

  subst hsz
  have hD := hD0.self (sz := s.heap.size)
  generalize hAe : va_A [(h0, .inr (9, mX9 h1 h2 v0))] s.heap.size = A at hD hZ ⊢
  have hA : ∀ q : Nat, s.heap.size ≤ q → A q := fun q h => by rw [← hAe]; exact Or.inr h
  have hS : va_S A s.heap s.heap [] := va_S.rf
  have hl := lv_entry ([.ref h0]) (n := 1) (Nat.le_of_ble_eq_true rfl)
  rw [lg_entry_eq]
  generalize (lg_sl ([.ref h0]) ++ List.replicate (1 - (lg_sl ([.ref h0])).length) Slot.unset).toArray = ls at hl ⊢
  have hl : lv_has ls 1 [(0, .ref h0)] := hl
  have b_ := zk_0
  have b_ : 0 ≤ (v0 2).toInt ∧ (v0 2).toInt ≤ 600 := hv0 2
  refine lv_aload_n hx hb dX9_clear_0 rfl (lv_at hl 0 rfl) ?_
  refine lv_iconst (v := 0) hx hb dX9_clear_1 (by decide) ?_
  refine va_put (D := (dC, dI)) (ci := 9) (v := .int 0) (ty := .int) (C := RX9) (T := TX9) (N := 4) hx hb hG zuX9 tyX9 tyX9_ok nmX9 hown hK hP hD hS 0 rfl rfl 2 (by decide) (hG _ zv171) (fun _ h9 => h9) rfl (by decide +kernel) rfl rfl (Nat.le_of_ble_eq_true rfl) dX9_clear_2 (fun H locs hP hD hS => ?_)
  have hP : va_P (dC, dI) vwCl [(h0, .inr (9, mX9 h1 h2 (upd v0 2 0)))] H := hP
  have hD : va_D A [(h0, .inr (9, mX9 h1 h2 (upd v0 2 0)))] := hD
  refine W.widen (k := 0) (n := 0) (by decide) (by decide) ?_
  have hpost : (0 ≤ (0 : Int32).toInt ∧ (0 : Int32).toInt ≤ 0) ∧ ((0 : Int32).toInt = 0) := ⟨(by first | with_reducible assumption | exact ⟨by omega, by omega⟩), by omega⟩
  have hP9 : va_P (dC, dI) vwCl [(h0, .inr (9, mX9 h1 h2 (upd v0 2 0)))] H := hP
  have hD9 : va_D A [(h0, .inr (9, mX9 h1 h2 (upd v0 2 0)))] := hD
  exact W.vret hx hb hr (fun t ht hW => ⟨⟨(fun i => ([0] : List (Int32)).getD i 0), rfl, hpost, (fun _ => 0), (fun _ => (fun _ => 0)), (fun _ => (fun _ => 0)), by rw [ht]; exact hP9, va_K.moved hW.alike hK, hD9⟩, hS.F ht⟩) hS.2.2 dX9_clear_5
set_option maxHeartbeats 8000000 in
set_option maxRecDepth 100000 in
theorem sX10_forget_0 (l : Launch) (dC : Nat → ClassId) (dI : Nat → Nat → Nat) (adK adV : Nat → Nat) (h0 : Nat) (h3 : Nat) (h2 : Nat) (h1 : Nat) (h4 : Nat) (h5 : Nat) (h6 : Nat) (k3 : ClassId) (k2 : ClassId) (k1 : ClassId) (sz : Nat) (v0 : Nat → Int32) (f3 : Nat → Int32) (f2 : Nat → Int32) (f1 : Nat → Int64) (x1 : Int32) (hv0 : zR rg_Words400 v0) (hf3 : zA (-1) 399 f3) (hf2 : zA 0 399 f2) (hx1 : 0 ≤ x1.toInt ∧ x1.toInt ≤ 400) : Met l yX10_forget (zw yX10_forget cX10_forget 3 none) { frames := 2, cells := 0, slots := 0, locals := 47 } (zPc dC dI adK adV [.ref h0, .int x1] sz [(h0, .inr (10, mX10 h1 h2 h3 h4 h5 h6 v0)), (h3, zi k3 400 f3), (h2, zi k2 400 f2), (h1, .inl (k1, 400, .inr (.inl f1)))] [(k3, .int), (k2, .int), (k1, .long)]) (va_Qv (fun (u : Nat → Int32) => (0 ≤ (u 0).toInt ∧ (u 0).toInt ≤ 400)) (fun (u : Nat → Int32) (t : State) => ∃ (ww : Nat → Int64) (aa : Nat → Nat → Int32) (bb : Nat → Nat → Int64), zA (-1) 399 (aa 0) ∧ zA 0 399 (aa 1) ∧ (zFo f1 f2 f3 (v0 7).toInt (bb 0) (aa 1) (aa 0) (u 0).toInt x1.toInt) ∧ va_P (dC, dI) vwCl [(h0, .inr (10, mX10 h1 h2 h3 h4 h5 h6 (upd v0 7 (u 0)))), (h3, zi k3 400 (aa 0)), (h2, zi k2 400 (aa 1)), (h1, .inl (k1, 400, .inr (.inl (bb 0))))] t.heap ∧ va_K (dC, dI) vwCl [(k3, .int), (k2, .int), (k1, .long)] t ∧ va_D (va_A [(h0, .inr (10, mX10 h1 h2 h3 h4 h5 h6 v0)), (h3, zi k3 400 f3), (h2, zi k2 400 f2), (h1, .inl (k1, 400, .inr (.inl f1)))] sz) [(h0, .inr (10, mX10 h1 h2 h3 h4 h5 h6 (upd v0 7 (u 0)))), (h3, zi k3 400 (aa 0)), (h2, zi k2 400 (aa 1)), (h1, .inl (k1, 400, .inr (.inl (bb 0))))]) (va_A [(h0, .inr (10, mX10 h1 h2 h3 h4 h5 h6 v0)), (h3, zi k3 400 f3), (h2, zi k2 400 f2), (h1, .inl (k1, 400, .inr (.inl f1)))] sz)) 0 0 (va_A [(h0, .inr (10, mX10 h1 h2 h3 h4 h5 h6 v0)), (h3, zi k3 400 f3), (h2, zi k2 400 f2), (h1, .inl (k1, 400, .inr (.inl f1)))] sz) := by
  refine Met.ofW (cc := cX10_forget) (maxL := 3) (ret := none) (by decide) rfl ?_
  intro p e s m args below meth c s₁ B hml hv
  obtain ⟨rfl, hsz, hP, hK, hD0, hE, hZ⟩ := hv
  have hx := B.exec
  have hb := B.bytes
  have hr := B.returns
  have hG : ∀ w ∈ zG, w.before _ s = true := fun w h => atoms_spec (ws := (zw yX10_forget cX10_forget 3 none)) B.pre w (List.mem_cons_of_mem _ h)
  have hown : s.vm.findClass RX10 = some m.cls := findClass_of_methodNamed B.named
  have hlocks := B.notSynchronized

  subst hsz
  have hD := hD0.self (sz := s.heap.size)
  generalize hAe : va_A [(h0, .inr (10, mX10 h1 h2 h3 h4 h5 h6 v0)), (h3, zi k3 400 f3), (h2, zi k2 400 f2), (h1, .inl (k1, 400, .inr (.inl f1)))] s.heap.size = A at hD hZ ⊢
  have hA : ∀ q : Nat, s.heap.size ≤ q → A q := fun q h => by rw [← hAe]; exact Or.inr h
  have hS : va_S A s.heap s.heap [] := va_S.rf
  have hl := lv_entry ([.ref h0, .int x1]) (n := 3) (Nat.le_of_ble_eq_true rfl)
  rw [lg_entry_eq]
  generalize (lg_sl ([.ref h0, .int x1]) ++ List.replicate (3 - (lg_sl ([.ref h0, .int x1])).length) Slot.unset).toArray = ls at hl ⊢
  have hl : lv_has ls 3 [(0, .ref h0), (1, .int x1)] := hl
  have b_ : 0 ≤ (v0 7).toInt ∧ (v0 7).toInt ≤ 400 := hv0 7
  refine lv_iload_n hx hb dX10_forget_0 rfl (lv_at hl 1 rfl) ?_
  refine lv_aload_n hx hb dX10_forget_1 rfl (lv_at hl 0 rfl) ?_
  refine va_get (D := (dC, dI)) (ci := 10) (v := .int (v0 7)) (C := RX10) (T := TX10) (N := 8) hx hb hG zuX10 hown hK hP 0 rfl rfl 7 (by decide) (hG _ zv196) (fun _ h9 => h9) rfl dX10_forget_2 ?_
  refine lv_icmp_lt (tgt := 9) hx hb dX10_forget_5 (by decide) (fun c_ => ?_) (fun c_ => ?_)
  · skip
    have b_ := zT_lt rfl rfl c_
    refine lv_iload_n hx hb dX10_forget_9 rfl (lv_at hl 1 rfl) ?_
    refine lv_istore_n (lv' := [(2, .int x1), (0, .ref h0), (1, .int x1)]) hx hb dX10_forget_10 rfl hl (by decide) rfl (fun ls hl => ?_)
    refine zcutL (fun u11_ => (400 - (u11_ 0).toInt).toNat) (fun H locs ls u11_ w11_ a11_ b11_ => va_P (dC, dI) vwCl [(h0, .inr (10, mX10 h1 h2 h3 h4 h5 h6 v0)), (h3, zi k3 400 (a11_ 0)), (h2, zi k2 400 f2), (h1, .inl (k1, 400, .inr (.inl f1)))] H ∧ va_D A [(h0, .inr (10, mX10 h1 h2 h3 h4 h5 h6 v0)), (h3, zi k3 400 (a11_ 0)), (h2, zi k2 400 f2), (h1, .inl (k1, 400, .inr (.inl f1)))] ∧ va_S A s.heap H locs ∧ lv_has ls 3 [(0, .ref h0), (1, .int x1), (2, .int (u11_ 0))] ∧ zA (-1) 399 (a11_ 0) ∧ (0 ≤ (u11_ 0).toInt ∧ (u11_ 0).toInt ≤ 400) ∧ (zSk f3 (a11_ 0) x1.toInt (u11_ 0).toInt) ∧ (x1.toInt ≤ (u11_ 0).toInt)) (fun ls u11_ w11_ => F0 m 11 ls []) 0 0 ?_ (fun hJ11 => ?_)
    · skip
      intro H locs ls u11_ w11_ a11_ b11_ hc hJ11
      obtain ⟨hP, hD, hS, hl, ha11_0, b_, hI11_0, b_⟩ := hc
      refine lv_iload_n hx hb dX10_forget_11 rfl (lv_at hl 2 rfl) ?_
      refine lv_aload_n hx hb dX10_forget_12 rfl (lv_at hl 0 rfl) ?_
      refine va_get (D := (dC, dI)) (ci := 10) (v := .int (v0 7)) (C := RX10) (T := TX10) (N := 8) hx hb hG zuX10 hown hK hP 0 rfl rfl 7 (by decide) (hG _ zv196) (fun _ h9 => h9) rfl dX10_forget_13 ?_
      refine lv_icmp_ge (tgt := 30) hx hb dX10_forget_16 (by decide) (fun c_ => ?_) (fun c_ => ?_)
      · skip
        have b_ := zT_ge rfl rfl c_
        refine lv_aload_n hx hb dX10_forget_30 rfl (lv_at hl 0 rfl) ?_
        have hPc := hP.sub (ws' := [(h0, .inr (10, mX10 h1 h2 h3 h4 h5 h6 v0)), (h3, zi k3 400 (a11_ 0)), (h2, zi k2 400 f2), (h1, .inl (k1, 400, .inr (.inl f1)))]) [0, 1, 2, 3] rfl
        have hDc := hD.sub (ws' := [(h0, .inr (10, mX10 h1 h2 h3 h4 h5 h6 v0)), (h3, zi k3 400 (a11_ 0)), (h2, zi k2 400 f2), (h1, .inl (k1, 400, .inr (.inl f1)))]) [0, 1, 2, 3] (by decide) rfl
        have hKc := hK.sub (tys' := [(k3, .int), (k2, .int), (k1, .long)]) [0, 1, 2] rfl
        have hFc := va_free (wc := [(h0, .inr (10, mX10 h1 h2 h3 h4 h5 h6 v0)), (h3, zi k3 400 (a11_ 0)), (h2, zi k2 400 f2), (h1, .inl (k1, 400, .inr (.inl f1)))]) hD hS hA [0, 1, 2, 3] rfl
        refine va_callv (va_runV (As := []) (rest := []) ⟨hx, hb, hml, hown, hG⟩ (sX10_closeRanks_0 l dC dI adK adV h0 h3 h2 h1 h4 h5 h6 k3 k2 k1 H.size v0 (a11_ 0) f2 f1 hv0 ha11_0 hf2) (cwV 0 hG (zgV zv821 zv822 zv823 zv131 zv824) rfl rfl rfl (by decide +kernel) ⟨Nat.le_of_ble_eq_true rfl, Nat.le_of_ble_eq_true rfl⟩) ⟨zPc_blind, va_recv hKc hPc (ci := 10) (q0 := 0) rfl rfl, zPc_pre hPc hKc hDc hE hS hFc hZ⟩ rfl rfl hl.1 rfl (lv_room (Nat.le_of_ble_eq_true rfl)) dX10_forget_31 ⟨Nat.le_of_ble_eq_true rfl, Nat.le_of_ble_eq_true rfl⟩) hS (fun q _ h => hFc q h) hFc (fun u31_ t H1 locs ht hvm hw hB hz1 hk1 hS => ?_)
        replace hw : (0 ≤ (u31_ 0).toInt ∧ (u31_ 0).toInt ≤ 400) := hw
        have b_ := hw
        obtain ⟨w31_, a31_, b31_, ha31_0, ha31_1, hB31_0, hB31_1, hP1, hK1, hD1⟩ := hB
        have hB31_0 : zClo (a11_ 0) f1 (b31_ 0) f2 (a31_ 1) (v0 7).toInt (u31_ 0).toInt := hB31_0
        have hB31_1 : ∀ j : Nat, (j : Int) < 400 → (a31_ 0) j = 0 := hB31_1
        rw [ht] at hP1
        obtain ⟨hP, hD⟩ := va_join (wr := []) (w1 := [(h0, .inr (10, mX10 h1 h2 h3 h4 h5 h6 (upd v0 7 (u31_ 0)))), (h3, zi k3 400 (a31_ 0)), (h2, zi k2 400 (a31_ 1)), (h1, .inl (k1, 400, .inr (.inl (b31_ 0))))]) hP hD [0, 1, 2, 3] [] rfl rfl (by decide) (by decide) hk1 hFc hP1 hD1
        have hP : va_P (dC, dI) vwCl [(h0, .inr (10, mX10 h1 h2 h3 h4 h5 h6 (upd v0 7 (u31_ 0)))), (h3, zi k3 400 (a31_ 0)), (h2, zi k2 400 (a31_ 1)), (h1, .inl (k1, 400, .inr (.inl (b31_ 0))))] H1 := hP.sub [0, 1, 2, 3] rfl
        have hD : va_D A [(h0, .inr (10, mX10 h1 h2 h3 h4 h5 h6 (upd v0 7 (u31_ 0)))), (h3, zi k3 400 (a31_ 0)), (h2, zi k2 400 (a31_ 1)), (h1, .inl (k1, 400, .inr (.inl (b31_ 0))))] := hD.sub [0, 1, 2, 3] (by decide) rfl
        generalize H1 = H at hP hS ⊢
        clear hz1
        refine W.widen (k := 0) (n := 0) (by decide) (by decide) ?_
        have hpost : (0 ≤ (u31_ 0).toInt ∧ (u31_ 0).toInt ≤ 400) := (by first | with_reducible assumption | exact ⟨by omega, by omega⟩)
        have hP9 : va_P (dC, dI) vwCl [(h0, .inr (10, mX10 h1 h2 h3 h4 h5 h6 (upd v0 7 (u31_ 0)))), (h3, zi k3 400 (a31_ 0)), (h2, zi k2 400 (a31_ 1)), (h1, .inl (k1, 400, .inr (.inl (b31_ 0))))] H := hP
        have hD9 : va_D A [(h0, .inr (10, mX10 h1 h2 h3 h4 h5 h6 (upd v0 7 (u31_ 0)))), (h3, zi k3 400 (a31_ 0)), (h2, zi k2 400 (a31_ 1)), (h1, .inl (k1, 400, .inr (.inl (b31_ 0))))] := hD
        have hB0 : zFo f1 f2 f3 (v0 7).toInt (b31_ 0) (a31_ 1) (a31_ 0) (u31_ 0).toInt x1.toInt := by first | exact zFo_1 (hI11_0) (by omega) hB31_0 (fun j hj => hB31_1 j (by omega)) | exact zFo_0 (by omega)
        exact W.vret hx hb hr (fun t ht hW => ⟨⟨(fun i => ([(u31_ 0)] : List (Int32)).getD i 0), rfl, hpost, (fun _ => 0), (fun i => ([(a31_ 0), (a31_ 1)] : List (Nat → Int32)).getD i (fun _ => 0)), (fun i => ([(b31_ 0)] : List (Nat → Int64)).getD i (fun _ => 0)), ha31_0, ha31_1, hB0, by rw [ht]; exact hP9, va_K.moved hW.alike hK, hD9⟩, hS.F ht⟩) hS.2.2 dX10_forget_34
      · skip
        have b_ := zF_ge rfl rfl c_
        refine lv_aload_n hx hb dX10_forget_19 rfl (lv_at hl 0 rfl) ?_
        refine lv_iload_n hx hb dX10_forget_20 rfl (lv_at hl 2 rfl) ?_
        have hPc := hP.sub (ws' := [(h0, .inr (10, mX10 h1 h2 h3 h4 h5 h6 v0)), (h3, zi k3 400 (a11_ 0))]) [0, 1] rfl
        have hDc := hD.sub (ws' := [(h0, .inr (10, mX10 h1 h2 h3 h4 h5 h6 v0)), (h3, zi k3 400 (a11_ 0))]) [0, 1] (by decide) rfl
        have hKc := hK.sub (tys' := [(k3, .int)]) [0] rfl
        have hFc := va_free (wc := [(h0, .inr (10, mX10 h1 h2 h3 h4 h5 h6 v0)), (h3, zi k3 400 (a11_ 0))]) hD hS hA [0, 1] rfl
        refine va_callv (va_runV (As := [.int (u11_ 0)]) (rest := []) ⟨hx, hb, hml, hown, hG⟩ (sX10_strike_0 l dC dI adK adV h0 h3 h1 h2 h4 h5 h6 k3 H.size v0 (a11_ 0) (u11_ 0) hv0 ha11_0) (cwV 1 hG (zgV zv817 zv818 zv819 zv131 zv820) rfl rfl rfl (by decide +kernel) ⟨Nat.le_of_ble_eq_true rfl, Nat.le_of_ble_eq_true rfl⟩) ⟨zPc_blind, va_recv hKc hPc (ci := 10) (q0 := 0) rfl rfl, zPc_pre hPc hKc hDc hE hS hFc hZ⟩ rfl rfl hl.1 rfl (lv_room (Nat.le_of_ble_eq_true rfl)) dX10_forget_21 ⟨Nat.le_of_ble_eq_true rfl, Nat.le_of_ble_eq_true rfl⟩) hS (fun q _ h => hFc q h) hFc (fun u21_ t H1 locs ht hvm hw hB hz1 hk1 hS => ?_)
        obtain ⟨w21_, a21_, b21_, ha21_0, hB21_0, hP1, hK1, hD1⟩ := hB
        have hB21_0 : 0 ≤ (u11_ 0).toInt ∧ (u11_ 0).toInt < (v0 7).toInt → (a21_ 0) = upd (a11_ 0) (((u11_ 0) : Int32)).toNatClampNeg (-1) := hB21_0
        rw [ht] at hP1
        obtain ⟨hP, hD⟩ := va_join (wr := [(h2, zi k2 400 f2), (h1, .inl (k1, 400, .inr (.inl f1)))]) (w1 := [(h0, .inr (10, mX10 h1 h2 h3 h4 h5 h6 v0)), (h3, zi k3 400 (a21_ 0))]) hP hD [0, 1] [2, 3] rfl rfl (by decide) (by decide) hk1 hFc hP1 hD1
        have hP : va_P (dC, dI) vwCl [(h0, .inr (10, mX10 h1 h2 h3 h4 h5 h6 v0)), (h3, zi k3 400 (a21_ 0)), (h2, zi k2 400 f2), (h1, .inl (k1, 400, .inr (.inl f1)))] H1 := hP.sub [2, 3, 0, 1] rfl
        have hD : va_D A [(h0, .inr (10, mX10 h1 h2 h3 h4 h5 h6 v0)), (h3, zi k3 400 (a21_ 0)), (h2, zi k2 400 f2), (h1, .inl (k1, 400, .inr (.inl f1)))] := hD.sub [2, 3, 0, 1] (by decide) rfl
        generalize H1 = H at hP hS ⊢
        clear hz1
        obtain ⟨z24, e_z24⟩ : ∃ z : Int32, z = (u11_ 0) + Int32.ofInt 1 := ⟨_, rfl⟩
        have b_ := zadd (x := (u11_ 0)) (y := Int32.ofInt 1) rfl (show (Int32.ofInt 1).toInt = 1 from by decide) e_z24 (by omega) (by omega)
        refine lv_iinc (v := z24) (lv' := [(2, .int z24), (0, .ref h0), (1, .int x1)]) hx hb dX10_forget_24 hl (k := 2) rfl e_z24.symm (by decide) rfl (fun ls hl => ?_)
        refine lv_goto (tgt := 11) hx hb dX10_forget_27 (by decide) ?_
        have hc : va_P (dC, dI) vwCl [(h0, .inr (10, mX10 h1 h2 h3 h4 h5 h6 v0)), (h3, zi k3 400 (a21_ 0)), (h2, zi k2 400 f2), (h1, .inl (k1, 400, .inr (.inl f1)))] H ∧ va_D A [(h0, .inr (10, mX10 h1 h2 h3 h4 h5 h6 v0)), (h3, zi k3 400 (a21_ 0)), (h2, zi k2 400 f2), (h1, .inl (k1, 400, .inr (.inl f1)))] ∧ va_S A s.heap H locs ∧ lv_has ls 3 [(0, .ref h0), (1, .int x1), (2, .int z24)] ∧ zA (-1) 399 (a21_ 0) ∧ (0 ≤ z24.toInt ∧ z24.toInt ≤ 400) ∧ (zSk f3 (a21_ 0) x1.toInt z24.toInt) ∧ (x1.toInt ≤ z24.toInt) := ⟨hP, hD, hS, lv_sub hl [1, 2, 0] rfl, ha21_0, (by first | with_reducible assumption | exact ⟨by omega, by omega⟩), by first | exact zSk_s (by assumption) (by omega) (by omega) (hB21_0 ⟨by omega, by omega⟩) (by omega) | exact zSk_0 (by omega), by omega⟩
        exact hJ11 H locs ls (fun i => ([z24] : List (Int32)).getD i 0) (fun _ => 0) (fun i => ([(a21_ 0)] : List (Nat → Int32)).getD i (fun _ => 0)) (fun _ => (fun _ => 0)) hc (show (400 - z24.toInt).toNat < (400 - (u11_ 0).toInt).toNat from by omega)
    · skip
      have hc : va_P (dC, dI) vwCl [(h0, .inr (10, mX10 h1 h2 h3 h4 h5 h6 v0)), (h3, zi k3 400 f3), (h2, zi k2 400 f2), (h1, .inl (k1, 400, .inr (.inl f1)))] s.heap ∧ va_D A [(h0, .inr (10, mX10 h1 h2 h3 h4 h5 h6 v0)), (h3, zi k3 400 f3), (h2, zi k2 400 f2), (h1, .inl (k1, 400, .inr (.inl f1)))] ∧ va_S A s.heap s.heap [] ∧ lv_has ls 3 [(0, .ref h0), (1, .int x1), (2, .int x1)] ∧ zA (-1) 399 f3 ∧ (0 ≤ x1.toInt ∧ x1.toInt ≤ 400) ∧ (zSk f3 f3 x1.toInt x1.toInt) ∧ (x1.toInt ≤ x1.toInt) := ⟨hP, hD, hS, lv_sub hl [1, 2, 0] rfl, hf3, (by first | with_reducible assumption | exact ⟨by omega, by omega⟩), by first | exact zSk_s (by assumption) (by omega) (by omega) (hB21_0 ⟨by omega, by omega⟩) (by omega) | exact zSk_0 (by omega), by omega⟩
      exact hJ11 s.heap [] ls (fun i => ([x1] : List (Int32)).getD i 0) (fun _ => 0) (fun i => ([f3] : List (Nat → Int32)).getD i (fun _ => 0)) (fun _ => (fun _ => 0)) hc
  · skip
    have b_ := zF_lt rfl rfl c_
    refine W.widen (k := 0) (n := 0) (by decide) (by decide) ?_
    have hpost : (0 ≤ (v0 7).toInt ∧ (v0 7).toInt ≤ 400) := (by first | with_reducible assumption | exact ⟨by omega, by omega⟩)
    have hP9 : va_P (dC, dI) vwCl [(h0, .inr (10, mX10 h1 h2 h3 h4 h5 h6 (upd v0 7 (v0 7)))), (h3, zi k3 400 f3), (h2, zi k2 400 f2), (h1, .inl (k1, 400, .inr (.inl f1)))] s.heap := hP
    have hD9 : va_D A [(h0, .inr (10, mX10 h1 h2 h3 h4 h5 h6 (upd v0 7 (v0 7)))), (h3, zi k3 400 f3), (h2, zi k2 400 f2), (h1, .inl (k1, 400, .inr (.inl f1)))] := hD
    have hB0 : zFo f1 f2 f3 (v0 7).toInt f1 f2 f3 (v0 7).toInt x1.toInt := by first | exact zFo_1 (hI11_0) (by omega) hB31_0 (fun j hj => hB31_1 j (by omega)) | exact zFo_0 (by omega)
    exact W.vret hx hb hr (fun t ht hW => ⟨⟨(fun i => ([(v0 7)] : List (Int32)).getD i 0), rfl, hpost, (fun _ => 0), (fun i => ([f3, f2] : List (Nat → Int32)).getD i (fun _ => 0)), (fun i => ([f1] : List (Nat → Int64)).getD i (fun _ => 0)), hf3, hf2, hB0, by rw [ht]; exact hP9, va_K.moved hW.alike hK, hD9⟩, hS.F ht⟩) hS.2.2 dX10_forget_8
set_option maxHeartbeats 8000000 in
set_option maxRecDepth 100000 in
theorem sX2_clear_0 (l : Launch) (dC : Nat → ClassId) (dI : Nat → Nat → Nat) (adK adV : Nat → Nat) (h0 : Nat) (h23 : Nat) (h21 : Nat) (h19 : Nat) (h22 : Nat) (h1 : Nat) (h4 : Nat) (h11 : Nat) (h18 : Nat) (h20 : Nat) (k23 : ClassId) (k21 : ClassId) (k19 : ClassId) (k22 : ClassId) (sz : Nat) (v0 : Nat → Int32) (f23 : Nat → Int32) (f21 : Nat → Int32) (f19 : Nat → Int32) (f22 : Nat → Int32) (hv0 : zR rg_Intake v0) (hf21 : zA 0 299 f21) (hf19 : zA (-1) 299 f19) (hf22 : zA 0 299 f22) : Met l yX2_clear (zw yX2_clear cX2_clear 1 none) { frames := 1, cells := 0, slots := 0, locals := 23 } (zPc dC dI adK adV [.ref h0] sz [(h0, .inr (2, mX2 h1 h4 h11 h18 h19 h20 h21 h22 h23 v0)), (h23, zi k23 400 f23), (h21, zi k21 400 f21), (h19, zi k19 300 f19), (h22, zi k22 400 f22)] [(k23, .int), (k21, .int), (k19, .int), (k22, .int)]) (va_Qv (fun (u : Nat → Int32) => (0 ≤ (u 0).toInt ∧ (u 0).toInt ≤ 0) ∧ (0 ≤ (u 1).toInt ∧ (u 1).toInt ≤ 0) ∧ ((u 0).toInt = 0) ∧ ((u 1).toInt = 0)) (fun (u : Nat → Int32) (t : State) => ∃ (ww : Nat → Int64) (aa : Nat → Nat → Int32) (bb : Nat → Nat → Int64), (zChn f21 f19 f22 (aa 0) (u 0).toInt) ∧ (∀ j : Nat, j < 400 → (aa 0) j = 0) ∧ va_P (dC, dI) vwCl [(h0, .inr (2, mX2 h1 h4 h11 h18 h19 h20 h21 h22 h23 (upd (upd v0 9 (u 0)) 10 (u 1)))), (h23, zi k23 400 (aa 0)), (h21, zi k21 400 f21), (h19, zi k19 300 f19), (h22, zi k22 400 f22)] t.heap ∧ va_K (dC, dI) vwCl [(k23, .int), (k21, .int), (k19, .int), (k22, .int)] t ∧ va_D (va_A [(h0, .inr (2, mX2 h1 h4 h11 h18 h19 h20 h21 h22 h23 v0)), (h23, zi k23 400 f23), (h21, zi k21 400 f21), (h19, zi k19 300 f19), (h22, zi k22 400 f22)] sz) [(h0, .inr (2, mX2 h1 h4 h11 h18 h19 h20 h21 h22 h23 (upd (upd v0 9 (u 0)) 10 (u 1)))), (h23, zi k23 400 (aa 0)), (h21, zi k21 400 f21), (h19, zi k19 300 f19), (h22, zi k22 400 f22)]) (va_A [(h0, .inr (2, mX2 h1 h4 h11 h18 h19 h20 h21 h22 h23 v0)), (h23, zi k23 400 f23), (h21, zi k21 400 f21), (h19, zi k19 300 f19), (h22, zi k22 400 f22)] sz)) 0 0 (va_A [(h0, .inr (2, mX2 h1 h4 h11 h18 h19 h20 h21 h22 h23 v0)), (h23, zi k23 400 f23), (h21, zi k21 400 f21), (h19, zi k19 300 f19), (h22, zi k22 400 f22)] sz) := by
  refine Met.ofW (cc := cX2_clear) (maxL := 1) (ret := none) (by decide) rfl ?_
  intro p e s m args below meth c s₁ B hml hv
  obtain ⟨rfl, hsz, hP, hK, hD0, hE, hZ⟩ := hv
  have hx := B.exec
  have hb := B.bytes
  have hr := B.returns
  have hG : ∀ w ∈ zG, w.before _ s = true := fun w h => atoms_spec (ws := (zw yX2_clear cX2_clear 1 none)) B.pre w (List.mem_cons_of_mem _ h)
  have hown : s.vm.findClass RX2 = some m.cls := findClass_of_methodNamed B.named
  have hlocks := B.notSynchronized

  subst hsz
  have hD := hD0.self (sz := s.heap.size)
  generalize hAe : va_A [(h0, .inr (2, mX2 h1 h4 h11 h18 h19 h20 h21 h22 h23 v0)), (h23, zi k23 400 f23), (h21, zi k21 400 f21), (h19, zi k19 300 f19), (h22, zi k22 400 f22)] s.heap.size = A at hD hZ ⊢
  have hA : ∀ q : Nat, s.heap.size ≤ q → A q := fun q h => by rw [← hAe]; exact Or.inr h
  have hS : va_S A s.heap s.heap [] := va_S.rf
  have hl := lv_entry ([.ref h0]) (n := 1) (Nat.le_of_ble_eq_true rfl)
  rw [lg_entry_eq]
  generalize (lg_sl ([.ref h0]) ++ List.replicate (1 - (lg_sl ([.ref h0])).length) Slot.unset).toArray = ls at hl ⊢
  have hl : lv_has ls 1 [(0, .ref h0)] := hl
  have b_ := zk_0
  have b_ : 0 ≤ (v0 9).toInt ∧ (v0 9).toInt ≤ 300 := hv0 9
  have b_ : 0 ≤ (v0 10).toInt ∧ (v0 10).toInt ≤ 300 := hv0 10
  refine lv_aload_n hx hb dX2_clear_0 rfl (lv_at hl 0 rfl) ?_
  refine va_get (D := (dC, dI)) (ci := 2) (v := .ref h23) (C := RX2) (T := TX2) (N := 11) hx hb hG zuX2 hown hK hP 0 rfl rfl 8 (by decide) (hG _ zv333) (fun _ h9 => h9) rfl dX2_clear_1 ?_
  refine lv_iconst (v := 0) hx hb dX2_clear_4 (by decide) ?_
  have hPc := hP.sub (ws' := [(h23, zi k23 400 f23)]) [1] rfl
  have hDc := hD.sub (ws' := [(h23, zi k23 400 f23)]) [1] (by decide) rfl
  have hKc := hK.sub (tys' := [(k23, .int)]) [0] rfl
  have hFc := va_free (wc := [(h23, zi k23 400 f23)]) hD hS hA [1] rfl
  refine va_callv (va_runS (As := [.ref h23, .int 0]) (rest := []) ⟨hx, hb, hml, hown, hG⟩ (sJ7_fill_53178_3 l dC dI adK adV h23 k23 s.heap.size f23 0) (va_cwS 2 hG (zgS zv638 zv471 zv141 zv472) rfl rfl rfl (by decide +kernel) ⟨Nat.le_of_ble_eq_true rfl, Nat.le_of_ble_eq_true rfl⟩) ⟨zPc_blind, zPc_pre hPc hKc hDc hE hS hFc hZ⟩ rfl rfl hl.1 rfl (lv_room (Nat.le_of_ble_eq_true rfl)) dX2_clear_5 ⟨Nat.le_of_ble_eq_true rfl, Nat.le_of_ble_eq_true rfl⟩) hS (fun q _ h => hFc q h) hFc (fun u5_ t H1 locs ht hvm hw hB hz1 hk1 hS => ?_)
  obtain ⟨w5_, a5_, b5_, hB5_0, hP1, hK1, hD1⟩ := hB
  have hB5_0 : ∀ j : Nat, (j : Int) < 400 → (a5_ 0) j = (0 : Int32) := hB5_0
  rw [ht] at hP1
  obtain ⟨hP, hD⟩ := va_join (wr := [(h0, .inr (2, mX2 h1 h4 h11 h18 h19 h20 h21 h22 h23 v0)), (h21, zi k21 400 f21), (h19, zi k19 300 f19), (h22, zi k22 400 f22)]) (w1 := [(h23, zi k23 400 (a5_ 0))]) hP hD [1] [0, 2, 3, 4] rfl rfl (by decide) (by decide) hk1 hFc hP1 hD1
  have hP : va_P (dC, dI) vwCl [(h0, .inr (2, mX2 h1 h4 h11 h18 h19 h20 h21 h22 h23 v0)), (h23, zi k23 400 (a5_ 0)), (h21, zi k21 400 f21), (h19, zi k19 300 f19), (h22, zi k22 400 f22)] H1 := hP.sub [0, 4, 1, 2, 3] rfl
  have hD : va_D A [(h0, .inr (2, mX2 h1 h4 h11 h18 h19 h20 h21 h22 h23 v0)), (h23, zi k23 400 (a5_ 0)), (h21, zi k21 400 f21), (h19, zi k19 300 f19), (h22, zi k22 400 f22)] := hD.sub [0, 4, 1, 2, 3] (by decide) rfl
  generalize H1 = H at hP hS ⊢
  clear hz1
  refine lv_aload_n hx hb dX2_clear_8 rfl (lv_at hl 0 rfl) ?_
  refine lv_iconst (v := 0) hx hb dX2_clear_9 (by decide) ?_
  refine va_put (D := (dC, dI)) (ci := 2) (v := .int 0) (ty := .int) (C := RX2) (T := TX2) (N := 11) hx hb hG zuX2 tyX2 tyX2_ok nmX2 hown hK hP hD hS 0 rfl rfl 9 (by decide) (hG _ zv334) (fun _ h9 => h9) rfl (by decide +kernel) rfl rfl (Nat.le_of_ble_eq_true rfl) dX2_clear_10 (fun H locs hP hD hS => ?_)
  have hP : va_P (dC, dI) vwCl [(h0, .inr (2, mX2 h1 h4 h11 h18 h19 h20 h21 h22 h23 (upd v0 9 0))), (h23, zi k23 400 (a5_ 0)), (h21, zi k21 400 f21), (h19, zi k19 300 f19), (h22, zi k22 400 f22)] H := hP
  have hD : va_D A [(h0, .inr (2, mX2 h1 h4 h11 h18 h19 h20 h21 h22 h23 (upd v0 9 0))), (h23, zi k23 400 (a5_ 0)), (h21, zi k21 400 f21), (h19, zi k19 300 f19), (h22, zi k22 400 f22)] := hD
  refine lv_aload_n hx hb dX2_clear_13 rfl (lv_at hl 0 rfl) ?_
  refine lv_iconst (v := 0) hx hb dX2_clear_14 (by decide) ?_
  refine va_put (D := (dC, dI)) (ci := 2) (v := .int 0) (ty := .int) (C := RX2) (T := TX2) (N := 11) hx hb hG zuX2 tyX2 tyX2_ok nmX2 hown hK hP hD hS 0 rfl rfl 10 (by decide) (hG _ zv335) (fun _ h9 => h9) rfl (by decide +kernel) rfl rfl (Nat.le_of_ble_eq_true rfl) dX2_clear_15 (fun H locs hP hD hS => ?_)
  have hP : va_P (dC, dI) vwCl [(h0, .inr (2, mX2 h1 h4 h11 h18 h19 h20 h21 h22 h23 (upd (upd v0 9 0) 10 0))), (h23, zi k23 400 (a5_ 0)), (h21, zi k21 400 f21), (h19, zi k19 300 f19), (h22, zi k22 400 f22)] H := hP
  have hD : va_D A [(h0, .inr (2, mX2 h1 h4 h11 h18 h19 h20 h21 h22 h23 (upd (upd v0 9 0) 10 0))), (h23, zi k23 400 (a5_ 0)), (h21, zi k21 400 f21), (h19, zi k19 300 f19), (h22, zi k22 400 f22)] := hD
  refine W.widen (k := 0) (n := 0) (by decide) (by decide) ?_
  have hpost : (0 ≤ (0 : Int32).toInt ∧ (0 : Int32).toInt ≤ 0) ∧ (0 ≤ (0 : Int32).toInt ∧ (0 : Int32).toInt ≤ 0) ∧ ((0 : Int32).toInt = 0) ∧ ((0 : Int32).toInt = 0) := ⟨(by first | with_reducible assumption | exact ⟨by omega, by omega⟩), (by first | with_reducible assumption | exact ⟨by omega, by omega⟩), by omega, by omega⟩
  have hP9 : va_P (dC, dI) vwCl [(h0, .inr (2, mX2 h1 h4 h11 h18 h19 h20 h21 h22 h23 (upd (upd v0 9 0) 10 0))), (h23, zi k23 400 (a5_ 0)), (h21, zi k21 400 f21), (h19, zi k19 300 f19), (h22, zi k22 400 f22)] H := hP
  have hD9 : va_D A [(h0, .inr (2, mX2 h1 h4 h11 h18 h19 h20 h21 h22 h23 (upd (upd v0 9 0) 10 0))), (h23, zi k23 400 (a5_ 0)), (h21, zi k21 400 f21), (h19, zi k19 300 f19), (h22, zi k22 400 f22)] := hD
  have hB0 : zChn f21 f19 f22 (a5_ 0) (0 : Int32).toInt := by exact zChn_0 (fun j hj => hB5_0 j (by omega)) (by omega)
  have hB1 : ∀ j : Nat, j < 400 → (a5_ 0) j = 0 := by exact fun j hj => hB5_0 j (by omega)
  exact W.vret hx hb hr (fun t ht hW => ⟨⟨(fun i => ([0, 0] : List (Int32)).getD i 0), rfl, hpost, (fun _ => 0), (fun i => ([(a5_ 0)] : List (Nat → Int32)).getD i (fun _ => 0)), (fun _ => (fun _ => 0)), hB0, hB1, by rw [ht]; exact hP9, va_K.moved hW.alike hK, hD9⟩, hS.F ht⟩) hS.2.2 dX2_clear_18
set_option maxHeartbeats 8000000 in
set_option maxRecDepth 100000 in
theorem sX9_at_0 (l : Launch) (dC : Nat → ClassId) (dI : Nat → Nat → Nat) (adK adV : Nat → Nat) (h0 : Nat) (h1 : Nat) (h2 : Nat) (k1 : ClassId) (sz : Nat) (v0 : Nat → Int32) (f1 : Nat → Int32) (x1 : Int32) (hv0 : zR rg_Tape v0) : Met l yX9_at (zw yX9_at cX9_at 2 (some .int)) { frames := 0, cells := 0, slots := 0, locals := 0 } (zPc dC dI adK adV [.ref h0, .int x1] sz [(h0, .inr (9, mX9 h1 h2 v0)), (h1, zi k1 600 f1)] [(k1, .byte)]) (va_Qi (fun (r : Int32) (u : Nat → Int32) => ((-1) ≤ r.toInt ∧ r.toInt ≤ 255) ∧ (0 ≤ x1.toInt ∧ x1.toInt < (v0 2).toInt → r.toInt = (f1 ((x1 : Int32)).toNatClampNeg &&& 255).toInt) ∧ (r.toInt ≠ -1 → 0 ≤ x1.toInt ∧ x1.toInt < (v0 2).toInt ∧ x1.toInt < 600)) (fun (u : Nat → Int32) (t : State) => ∃ (ww : Nat → Int64) (aa : Nat → Nat → Int32) (bb : Nat → Nat → Int64), va_P (dC, dI) vwCl [(h0, .inr (9, mX9 h1 h2 v0)), (h1, zi k1 600 f1)] t.heap ∧ va_K (dC, dI) vwCl [(k1, .byte)] t ∧ va_D (va_A [(h0, .inr (9, mX9 h1 h2 v0)), (h1, zi k1 600 f1)] sz) [(h0, .inr (9, mX9 h1 h2 v0)), (h1, zi k1 600 f1)]) (va_A [(h0, .inr (9, mX9 h1 h2 v0)), (h1, zi k1 600 f1)] sz)) 0 0 (va_A [(h0, .inr (9, mX9 h1 h2 v0)), (h1, zi k1 600 f1)] sz) := by
  refine Met.ofW (cc := cX9_at) (maxL := 2) (ret := (some .int)) (by decide) rfl ?_
  intro p e s m args below meth c s₁ B hml hv
  obtain ⟨rfl, hsz, hP, hK, hD0, hE, hZ⟩ := hv
  have hx := B.exec
  have hb := B.bytes
  have hr := B.returns
  have hG : ∀ w ∈ zG, w.before _ s = true := fun w h => atoms_spec (ws := (zw yX9_at cX9_at 2 (some .int))) B.pre w (List.mem_cons_of_mem _ h)
  have hown : s.vm.findClass RX9 = some m.cls := findClass_of_methodNamed B.named
  have hlocks := B.notSynchronized

  subst hsz
  have hD := hD0.self (sz := s.heap.size)
  generalize hAe : va_A [(h0, .inr (9, mX9 h1 h2 v0)), (h1, zi k1 600 f1)] s.heap.size = A at hD hZ ⊢
  have hA : ∀ q : Nat, s.heap.size ≤ q → A q := fun q h => by rw [← hAe]; exact Or.inr h
  have hS : va_S A s.heap s.heap [] := va_S.rf
  have hl := lv_entry ([.ref h0, .int x1]) (n := 2) (Nat.le_of_ble_eq_true rfl)
  rw [lg_entry_eq]
  generalize (lg_sl ([.ref h0, .int x1]) ++ List.replicate (2 - (lg_sl ([.ref h0, .int x1])).length) Slot.unset).toArray = ls at hl ⊢
  have hl : lv_has ls 2 [(0, .ref h0), (1, .int x1)] := hl
  have b_ := zk_m1
  have b_ : 0 ≤ (v0 2).toInt ∧ (v0 2).toInt ≤ 600 := hv0 2
  refine lv_iload_n hx hb dX9_at_0 rfl (lv_at hl 1 rfl) ?_
  have b_ : -2147483648 ≤ x1.toInt ∧ x1.toInt ≤ 2147483647 := ⟨zlo _, zhi _⟩
  refine lv_if_lt (tgt := 25) hx hb dX9_at_1 (by decide) (fun c_ => ?_) (fun c_ => ?_)
  · skip
    have b_ := zT_lt rfl zk_0 c_
    refine lv_iconst (v := (-1)) hx hb dX9_at_25 (by decide) ?_
    refine W.widen (k := 0) (n := 0) (by decide) (by decide) ?_
    have hpost : ((-1) ≤ ((-1) : Int32).toInt ∧ ((-1) : Int32).toInt ≤ 255) ∧ (0 ≤ x1.toInt ∧ x1.toInt < (v0 2).toInt → ((-1) : Int32).toInt = (f1 ((x1 : Int32)).toNatClampNeg &&& 255).toInt) ∧ (((-1) : Int32).toInt ≠ -1 → 0 ≤ x1.toInt ∧ x1.toInt < (v0 2).toInt ∧ x1.toInt < 600) := ⟨(by first | with_reducible assumption | exact ⟨by omega, by omega⟩), by first | omega | (intro; subst_vars; rfl), by omega⟩
    have hP9 : va_P (dC, dI) vwCl [(h0, .inr (9, mX9 h1 h2 v0)), (h1, zi k1 600 f1)] s.heap := hP
    have hD9 : va_D A [(h0, .inr (9, mX9 h1 h2 v0)), (h1, zi k1 600 f1)] := hD
    exact W.iret (v := (-1)) hx hb hr (fun t ht hW => ⟨⟨(-1), (fun _ => 0), rfl, hpost, (fun _ => 0), (fun _ => (fun _ => 0)), (fun _ => (fun _ => 0)), by rw [ht]; exact hP9, va_K.moved hW.alike hK, hD9⟩, hS.F ht⟩) hS.2.2 dX9_at_26
  · skip
    have b_ := zF_lt rfl zk_0 c_
    refine lv_iload_n hx hb dX9_at_4 rfl (lv_at hl 1 rfl) ?_
    refine lv_aload_n hx hb dX9_at_5 rfl (lv_at hl 0 rfl) ?_
    refine va_get (D := (dC, dI)) (ci := 9) (v := .int (v0 2)) (C := RX9) (T := TX9) (N := 4) hx hb hG zuX9 hown hK hP 0 rfl rfl 2 (by decide) (hG _ zv171) (fun _ h9 => h9) rfl dX9_at_6 ?_
    refine lv_icmp_ge (tgt := 25) hx hb dX9_at_9 (by decide) (fun c_ => ?_) (fun c_ => ?_)
    · skip
      have b_ := zT_ge rfl rfl c_
      refine lv_iconst (v := (-1)) hx hb dX9_at_25 (by decide) ?_
      refine W.widen (k := 0) (n := 0) (by decide) (by decide) ?_
      have hpost : ((-1) ≤ ((-1) : Int32).toInt ∧ ((-1) : Int32).toInt ≤ 255) ∧ (0 ≤ x1.toInt ∧ x1.toInt < (v0 2).toInt → ((-1) : Int32).toInt = (f1 ((x1 : Int32)).toNatClampNeg &&& 255).toInt) ∧ (((-1) : Int32).toInt ≠ -1 → 0 ≤ x1.toInt ∧ x1.toInt < (v0 2).toInt ∧ x1.toInt < 600) := ⟨(by first | with_reducible assumption | exact ⟨by omega, by omega⟩), by first | omega | (intro; subst_vars; rfl), by omega⟩
      have hP9 : va_P (dC, dI) vwCl [(h0, .inr (9, mX9 h1 h2 v0)), (h1, zi k1 600 f1)] s.heap := hP
      have hD9 : va_D A [(h0, .inr (9, mX9 h1 h2 v0)), (h1, zi k1 600 f1)] := hD
      exact W.iret (v := (-1)) hx hb hr (fun t ht hW => ⟨⟨(-1), (fun _ => 0), rfl, hpost, (fun _ => 0), (fun _ => (fun _ => 0)), (fun _ => (fun _ => 0)), by rw [ht]; exact hP9, va_K.moved hW.alike hK, hD9⟩, hS.F ht⟩) hS.2.2 dX9_at_26
    · skip
      have b_ := zF_ge rfl rfl c_
      refine lv_aload_n hx hb dX9_at_12 rfl (lv_at hl 0 rfl) ?_
      refine va_get (D := (dC, dI)) (ci := 9) (v := .ref h1) (C := RX9) (T := TX9) (N := 4) hx hb hG zuX9 hown hK hP 0 rfl rfl 0 (by decide) (hG _ zv169) (fun _ h9 => h9) rfl dX9_at_13 ?_
      refine lv_iload_n hx hb dX9_at_16 rfl (lv_at hl 1 rfl) ?_
      refine va_bald hx hb hK hP 1 0 rfl rfl (zin_lit ⟨by omega, by omega⟩) dX9_at_17 ?_
      refine lv_topi (fun z17 e_z17 => ?_)
      refine lv_sipush (v := 255) hx hb dX9_at_18 (by decide) ?_
      have b_ : -2147483648 ≤ z17.toInt ∧ z17.toInt ≤ 2147483647 := ⟨zlo _, zhi _⟩
      refine lv_iand hx hb dX9_at_21 ?_
      refine lv_topi (fun z21 e_z21 => ?_)
      have b_ := zand (x := z17) zk_255 e_z21 (by decide)
      refine lv_goto (tgt := 26) hx hb dX9_at_22 (by decide) ?_
      refine W.widen (k := 0) (n := 0) (by decide) (by decide) ?_
      have hpost : ((-1) ≤ z21.toInt ∧ z21.toInt ≤ 255) ∧ (0 ≤ x1.toInt ∧ x1.toInt < (v0 2).toInt → z21.toInt = (f1 ((x1 : Int32)).toNatClampNeg &&& 255).toInt) ∧ (z21.toInt ≠ -1 → 0 ≤ x1.toInt ∧ x1.toInt < (v0 2).toInt ∧ x1.toInt < 600) := ⟨(by first | with_reducible assumption | exact ⟨by omega, by omega⟩), by first | omega | (intro; subst_vars; rfl), by omega⟩
      have hP9 : va_P (dC, dI) vwCl [(h0, .inr (9, mX9 h1 h2 v0)), (h1, zi k1 600 f1)] s.heap := hP
      have hD9 : va_D A [(h0, .inr (9, mX9 h1 h2 v0)), (h1, zi k1 600 f1)] := hD
      exact W.iret (v := z21) hx hb hr (fun t ht hW => ⟨⟨z21, (fun _ => 0), rfl, hpost, (fun _ => 0), (fun _ => (fun _ => 0)), (fun _ => (fun _ => 0)), by rw [ht]; exact hP9, va_K.moved hW.alike hK, hD9⟩, hS.F ht⟩) hS.2.2 dX9_at_26
set_option maxHeartbeats 8000000 in
set_option maxRecDepth 100000 in
theorem sX9_inToken_0 (l : Launch) (dC : Nat → ClassId) (dI : Nat → Nat → Nat) (adK adV : Nat → Nat) (h0 : Nat) (h1 : Nat) (h2 : Nat) (k1 : ClassId) (sz : Nat) (v0 : Nat → Int32) (f1 : Nat → Int32) (x1 : Int32) (hv0 : zR rg_Tape v0) : Met l yX9_inToken (zw yX9_inToken cX9_inToken 3 (some .boolean)) { frames := 0, cells := 0, slots := 0, locals := 0 } (zPc dC dI adK adV [.ref h0, .int x1] sz [(h0, .inr (9, mX9 h1 h2 v0)), (h1, zi k1 600 f1)] [(k1, .byte)]) (va_Qi (fun (r : Int32) (u : Nat → Int32) => (0 ≤ r.toInt ∧ r.toInt ≤ 1) ∧ (r.toInt = 1 → (0 ≤ x1.toInt ∧ x1.toInt ≤ 599)) ∧ (r.toInt = 1 → x1.toInt < (v0 2).toInt) ∧ (r.toInt = 1 → zIn f1 (v0 2).toInt x1.toInt) ∧ (r.toInt = 0 → ¬ zIn f1 (v0 2).toInt x1.toInt)) (fun (u : Nat → Int32) (t : State) => ∃ (ww : Nat → Int64) (aa : Nat → Nat → Int32) (bb : Nat → Nat → Int64), va_P (dC, dI) vwCl [(h0, .inr (9, mX9 h1 h2 v0)), (h1, zi k1 600 f1)] t.heap ∧ va_K (dC, dI) vwCl [(k1, .byte)] t ∧ va_D (va_A [(h0, .inr (9, mX9 h1 h2 v0)), (h1, zi k1 600 f1)] sz) [(h0, .inr (9, mX9 h1 h2 v0)), (h1, zi k1 600 f1)]) (va_A [(h0, .inr (9, mX9 h1 h2 v0)), (h1, zi k1 600 f1)] sz)) 0 0 (va_A [(h0, .inr (9, mX9 h1 h2 v0)), (h1, zi k1 600 f1)] sz) := by
  refine Met.ofW (cc := cX9_inToken) (maxL := 3) (ret := (some .boolean)) (by decide) rfl ?_
  intro p e s m args below meth c s₁ B hml hv
  obtain ⟨rfl, hsz, hP, hK, hD0, hE, hZ⟩ := hv
  have hx := B.exec
  have hb := B.bytes
  have hr := B.returns
  have hG : ∀ w ∈ zG, w.before _ s = true := fun w h => atoms_spec (ws := (zw yX9_inToken cX9_inToken 3 (some .boolean))) B.pre w (List.mem_cons_of_mem _ h)
  have hown : s.vm.findClass RX9 = some m.cls := findClass_of_methodNamed B.named
  have hlocks := B.notSynchronized

  subst hsz
  have hD := hD0.self (sz := s.heap.size)
  generalize hAe : va_A [(h0, .inr (9, mX9 h1 h2 v0)), (h1, zi k1 600 f1)] s.heap.size = A at hD hZ ⊢
  have hA : ∀ q : Nat, s.heap.size ≤ q → A q := fun q h => by rw [← hAe]; exact Or.inr h
  have hS : va_S A s.heap s.heap [] := va_S.rf
  have hl := lv_entry ([.ref h0, .int x1]) (n := 3) (Nat.le_of_ble_eq_true rfl)
  rw [lg_entry_eq]
  generalize (lg_sl ([.ref h0, .int x1]) ++ List.replicate (3 - (lg_sl ([.ref h0, .int x1])).length) Slot.unset).toArray = ls at hl ⊢
  have hl : lv_has ls 3 [(0, .ref h0), (1, .int x1)] := hl
  have b_ := zk_0
  have b_ := zk_1
  have b_ : 0 ≤ (v0 2).toInt ∧ (v0 2).toInt ≤ 600 := hv0 2
  refine lv_iload_n hx hb dX9_inToken_0 rfl (lv_at hl 1 rfl) ?_
  have b_ : -2147483648 ≤ x1.toInt ∧ x1.toInt ≤ 2147483647 := ⟨zlo _, zhi _⟩
  refine lv_if_lt (tgt := 12) hx hb dX9_inToken_1 (by decide) (fun c_ => ?_) (fun c_ => ?_)
  · skip
    have b_ := zT_lt rfl zk_0 c_
    refine lv_iconst (v := 0) hx hb dX9_inToken_12 (by decide) ?_
    refine W.widen (k := 0) (n := 0) (by decide) (by decide) ?_
    have hpost : (0 ≤ (0 : Int32).toInt ∧ (0 : Int32).toInt ≤ 1) ∧ ((0 : Int32).toInt = 1 → (0 ≤ x1.toInt ∧ x1.toInt ≤ 599)) ∧ ((0 : Int32).toInt = 1 → x1.toInt < (v0 2).toInt) ∧ ((0 : Int32).toInt = 1 → zIn f1 (v0 2).toInt x1.toInt) ∧ ((0 : Int32).toInt = 0 → ¬ zIn f1 (v0 2).toInt x1.toInt) := ⟨(by first | with_reducible assumption | exact ⟨by omega, by omega⟩), by omega, by omega, by first | (intro q; exact absurd q (by decide)) | exact fun _ => zIn_i e_z19 (by omega) (by omega) (by omega), by first | (intro q; exact absurd q (by decide)) | exact fun _ => zIn_n e_z19 (by omega) | exact fun _ => zIn_o (by omega)⟩
    have hP9 : va_P (dC, dI) vwCl [(h0, .inr (9, mX9 h1 h2 v0)), (h1, zi k1 600 f1)] s.heap := hP
    have hD9 : va_D A [(h0, .inr (9, mX9 h1 h2 v0)), (h1, zi k1 600 f1)] := hD
    exact W.zret (v := 0) hx hb hr rfl (fun t ht hW => ⟨⟨0, (fun _ => 0), rfl, hpost, (fun _ => 0), (fun _ => (fun _ => 0)), (fun _ => (fun _ => 0)), by rw [ht]; exact hP9, va_K.moved hW.alike hK, hD9⟩, hS.F ht⟩) hS.2.2 dX9_inToken_13
  · skip
    have b_ := zF_lt rfl zk_0 c_
    refine lv_iload_n hx hb dX9_inToken_4 rfl (lv_at hl 1 rfl) ?_
    refine lv_aload_n hx hb dX9_inToken_5 rfl (lv_at hl 0 rfl) ?_
    refine va_get (D := (dC, dI)) (ci := 9) (v := .int (v0 2)) (C := RX9) (T := TX9) (N := 4) hx hb hG zuX9 hown hK hP 0 rfl rfl 2 (by decide) (hG _ zv171) (fun _ h9 => h9) rfl dX9_inToken_6 ?_
    refine lv_icmp_lt (tgt := 14) hx hb dX9_inToken_9 (by decide) (fun c_ => ?_) (fun c_ => ?_)
    · skip
      have b_ := zT_lt rfl rfl c_
      refine lv_aload_n hx hb dX9_inToken_14 rfl (lv_at hl 0 rfl) ?_
      refine va_get (D := (dC, dI)) (ci := 9) (v := .ref h1) (C := RX9) (T := TX9) (N := 4) hx hb hG zuX9 hown hK hP 0 rfl rfl 0 (by decide) (hG _ zv169) (fun _ h9 => h9) rfl dX9_inToken_15 ?_
      refine lv_iload_n hx hb dX9_inToken_18 rfl (lv_at hl 1 rfl) ?_
      refine va_bald hx hb hK hP 1 0 rfl rfl (zin_lit ⟨by omega, by omega⟩) dX9_inToken_19 ?_
      refine lv_topi (fun z19 e_z19 => ?_)
      refine lv_istore_n (lv' := [(2, .int z19), (0, .ref h0), (1, .int x1)]) hx hb dX9_inToken_20 rfl hl (by decide) rfl (fun ls hl => ?_)
      refine lv_iload_n hx hb dX9_inToken_21 rfl (lv_at hl 0 rfl) ?_
      refine lv_bipush (v := 97) hx hb dX9_inToken_22 (by decide) ?_
      have b_ : -2147483648 ≤ z19.toInt ∧ z19.toInt ≤ 2147483647 := ⟨zlo _, zhi _⟩
      refine lv_icmp_lt (tgt := 33) hx hb dX9_inToken_24 (by decide) (fun c_ => ?_) (fun c_ => ?_)
      · skip
        have b_ := zT_lt rfl zk_97 c_
        refine lv_iload_n hx hb dX9_inToken_33 rfl (lv_at hl 0 rfl) ?_
        refine lv_bipush (v := 65) hx hb dX9_inToken_34 (by decide) ?_
        refine lv_icmp_lt (tgt := 45) hx hb dX9_inToken_36 (by decide) (fun c_ => ?_) (fun c_ => ?_)
        · skip
          have b_ := zT_lt rfl zk_65 c_
          refine lv_iload_n hx hb dX9_inToken_45 rfl (lv_at hl 0 rfl) ?_
          refine lv_bipush (v := 48) hx hb dX9_inToken_46 (by decide) ?_
          refine lv_icmp_lt (tgt := 61) hx hb dX9_inToken_48 (by decide) (fun c_ => ?_) (fun c_ => ?_)
          · skip
            have b_ := zT_lt rfl zk_48 c_
            refine lv_iconst (v := 0) hx hb dX9_inToken_61 (by decide) ?_
            refine W.widen (k := 0) (n := 0) (by decide) (by decide) ?_
            have hpost : (0 ≤ (0 : Int32).toInt ∧ (0 : Int32).toInt ≤ 1) ∧ ((0 : Int32).toInt = 1 → (0 ≤ x1.toInt ∧ x1.toInt ≤ 599)) ∧ ((0 : Int32).toInt = 1 → x1.toInt < (v0 2).toInt) ∧ ((0 : Int32).toInt = 1 → zIn f1 (v0 2).toInt x1.toInt) ∧ ((0 : Int32).toInt = 0 → ¬ zIn f1 (v0 2).toInt x1.toInt) := ⟨(by first | with_reducible assumption | exact ⟨by omega, by omega⟩), by omega, by omega, by first | (intro q; exact absurd q (by decide)) | exact fun _ => zIn_i e_z19 (by omega) (by omega) (by omega), by first | (intro q; exact absurd q (by decide)) | exact fun _ => zIn_n e_z19 (by omega) | exact fun _ => zIn_o (by omega)⟩
            have hP9 : va_P (dC, dI) vwCl [(h0, .inr (9, mX9 h1 h2 v0)), (h1, zi k1 600 f1)] s.heap := hP
            have hD9 : va_D A [(h0, .inr (9, mX9 h1 h2 v0)), (h1, zi k1 600 f1)] := hD
            exact W.zret (v := 0) hx hb hr rfl (fun t ht hW => ⟨⟨0, (fun _ => 0), rfl, hpost, (fun _ => 0), (fun _ => (fun _ => 0)), (fun _ => (fun _ => 0)), by rw [ht]; exact hP9, va_K.moved hW.alike hK, hD9⟩, hS.F ht⟩) hS.2.2 dX9_inToken_62
          · skip
            have b_ := zF_lt rfl zk_48 c_
            refine lv_iload_n hx hb dX9_inToken_51 rfl (lv_at hl 0 rfl) ?_
            refine lv_bipush (v := 57) hx hb dX9_inToken_52 (by decide) ?_
            refine lv_icmp_gt (tgt := 61) hx hb dX9_inToken_54 (by decide) (fun c_ => ?_) (fun c_ => ?_)
            · skip
              have b_ := zT_gt rfl zk_57 c_
              refine lv_iconst (v := 0) hx hb dX9_inToken_61 (by decide) ?_
              refine W.widen (k := 0) (n := 0) (by decide) (by decide) ?_
              have hpost : (0 ≤ (0 : Int32).toInt ∧ (0 : Int32).toInt ≤ 1) ∧ ((0 : Int32).toInt = 1 → (0 ≤ x1.toInt ∧ x1.toInt ≤ 599)) ∧ ((0 : Int32).toInt = 1 → x1.toInt < (v0 2).toInt) ∧ ((0 : Int32).toInt = 1 → zIn f1 (v0 2).toInt x1.toInt) ∧ ((0 : Int32).toInt = 0 → ¬ zIn f1 (v0 2).toInt x1.toInt) := ⟨(by first | with_reducible assumption | exact ⟨by omega, by omega⟩), by omega, by omega, by first | (intro q; exact absurd q (by decide)) | exact fun _ => zIn_i e_z19 (by omega) (by omega) (by omega), by first | (intro q; exact absurd q (by decide)) | exact fun _ => zIn_n e_z19 (by omega) | exact fun _ => zIn_o (by omega)⟩
              have hP9 : va_P (dC, dI) vwCl [(h0, .inr (9, mX9 h1 h2 v0)), (h1, zi k1 600 f1)] s.heap := hP
              have hD9 : va_D A [(h0, .inr (9, mX9 h1 h2 v0)), (h1, zi k1 600 f1)] := hD
              exact W.zret (v := 0) hx hb hr rfl (fun t ht hW => ⟨⟨0, (fun _ => 0), rfl, hpost, (fun _ => 0), (fun _ => (fun _ => 0)), (fun _ => (fun _ => 0)), by rw [ht]; exact hP9, va_K.moved hW.alike hK, hD9⟩, hS.F ht⟩) hS.2.2 dX9_inToken_62
            · skip
              have b_ := zF_gt rfl zk_57 c_
              refine lv_iconst (v := 1) hx hb dX9_inToken_57 (by decide) ?_
              refine lv_goto (tgt := 62) hx hb dX9_inToken_58 (by decide) ?_
              refine W.widen (k := 0) (n := 0) (by decide) (by decide) ?_
              have hpost : (0 ≤ (1 : Int32).toInt ∧ (1 : Int32).toInt ≤ 1) ∧ ((1 : Int32).toInt = 1 → (0 ≤ x1.toInt ∧ x1.toInt ≤ 599)) ∧ ((1 : Int32).toInt = 1 → x1.toInt < (v0 2).toInt) ∧ ((1 : Int32).toInt = 1 → zIn f1 (v0 2).toInt x1.toInt) ∧ ((1 : Int32).toInt = 0 → ¬ zIn f1 (v0 2).toInt x1.toInt) := ⟨(by first | with_reducible assumption | exact ⟨by omega, by omega⟩), by omega, by omega, by first | (intro q; exact absurd q (by decide)) | exact fun _ => zIn_i e_z19 (by omega) (by omega) (by omega), by first | (intro q; exact absurd q (by decide)) | exact fun _ => zIn_n e_z19 (by omega) | exact fun _ => zIn_o (by omega)⟩
              have hP9 : va_P (dC, dI) vwCl [(h0, .inr (9, mX9 h1 h2 v0)), (h1, zi k1 600 f1)] s.heap := hP
              have hD9 : va_D A [(h0, .inr (9, mX9 h1 h2 v0)), (h1, zi k1 600 f1)] := hD
              exact W.zret (v := 1) hx hb hr rfl (fun t ht hW => ⟨⟨1, (fun _ => 0), rfl, hpost, (fun _ => 0), (fun _ => (fun _ => 0)), (fun _ => (fun _ => 0)), by rw [ht]; exact hP9, va_K.moved hW.alike hK, hD9⟩, hS.F ht⟩) hS.2.2 dX9_inToken_62
        · skip
          have b_ := zF_lt rfl zk_65 c_
          refine lv_iload_n hx hb dX9_inToken_39 rfl (lv_at hl 0 rfl) ?_
          refine lv_bipush (v := 90) hx hb dX9_inToken_40 (by decide) ?_
          refine lv_icmp_le (tgt := 57) hx hb dX9_inToken_42 (by decide) (fun c_ => ?_) (fun c_ => ?_)
          · skip
            have b_ := zT_le rfl zk_90 c_
            refine lv_iconst (v := 1) hx hb dX9_inToken_57 (by decide) ?_
            refine lv_goto (tgt := 62) hx hb dX9_inToken_58 (by decide) ?_
            refine W.widen (k := 0) (n := 0) (by decide) (by decide) ?_
            have hpost : (0 ≤ (1 : Int32).toInt ∧ (1 : Int32).toInt ≤ 1) ∧ ((1 : Int32).toInt = 1 → (0 ≤ x1.toInt ∧ x1.toInt ≤ 599)) ∧ ((1 : Int32).toInt = 1 → x1.toInt < (v0 2).toInt) ∧ ((1 : Int32).toInt = 1 → zIn f1 (v0 2).toInt x1.toInt) ∧ ((1 : Int32).toInt = 0 → ¬ zIn f1 (v0 2).toInt x1.toInt) := ⟨(by first | with_reducible assumption | exact ⟨by omega, by omega⟩), by omega, by omega, by first | (intro q; exact absurd q (by decide)) | exact fun _ => zIn_i e_z19 (by omega) (by omega) (by omega), by first | (intro q; exact absurd q (by decide)) | exact fun _ => zIn_n e_z19 (by omega) | exact fun _ => zIn_o (by omega)⟩
            have hP9 : va_P (dC, dI) vwCl [(h0, .inr (9, mX9 h1 h2 v0)), (h1, zi k1 600 f1)] s.heap := hP
            have hD9 : va_D A [(h0, .inr (9, mX9 h1 h2 v0)), (h1, zi k1 600 f1)] := hD
            exact W.zret (v := 1) hx hb hr rfl (fun t ht hW => ⟨⟨1, (fun _ => 0), rfl, hpost, (fun _ => 0), (fun _ => (fun _ => 0)), (fun _ => (fun _ => 0)), by rw [ht]; exact hP9, va_K.moved hW.alike hK, hD9⟩, hS.F ht⟩) hS.2.2 dX9_inToken_62
          · skip
            have b_ := zF_le rfl zk_90 c_
            refine lv_iload_n hx hb dX9_inToken_45 rfl (lv_at hl 0 rfl) ?_
            refine lv_bipush (v := 48) hx hb dX9_inToken_46 (by decide) ?_
            refine lv_icmp_lt (tgt := 61) hx hb dX9_inToken_48 (by decide) (fun c_ => False.elim (by have b_ := zT_lt rfl zk_48 c_; omega)) (fun c_ => ?_)
            have b_ := zF_lt rfl zk_48 c_
            refine lv_iload_n hx hb dX9_inToken_51 rfl (lv_at hl 0 rfl) ?_
            refine lv_bipush (v := 57) hx hb dX9_inToken_52 (by decide) ?_
            refine lv_icmp_gt (tgt := 61) hx hb dX9_inToken_54 (by decide) (fun c_ => ?_) (fun c_ => False.elim (by have b_ := zF_gt rfl zk_57 c_; omega))
            have b_ := zT_gt rfl zk_57 c_
            refine lv_iconst (v := 0) hx hb dX9_inToken_61 (by decide) ?_
            refine W.widen (k := 0) (n := 0) (by decide) (by decide) ?_
            have hpost : (0 ≤ (0 : Int32).toInt ∧ (0 : Int32).toInt ≤ 1) ∧ ((0 : Int32).toInt = 1 → (0 ≤ x1.toInt ∧ x1.toInt ≤ 599)) ∧ ((0 : Int32).toInt = 1 → x1.toInt < (v0 2).toInt) ∧ ((0 : Int32).toInt = 1 → zIn f1 (v0 2).toInt x1.toInt) ∧ ((0 : Int32).toInt = 0 → ¬ zIn f1 (v0 2).toInt x1.toInt) := ⟨(by first | with_reducible assumption | exact ⟨by omega, by omega⟩), by omega, by omega, by first | (intro q; exact absurd q (by decide)) | exact fun _ => zIn_i e_z19 (by omega) (by omega) (by omega), by first | (intro q; exact absurd q (by decide)) | exact fun _ => zIn_n e_z19 (by omega) | exact fun _ => zIn_o (by omega)⟩
            have hP9 : va_P (dC, dI) vwCl [(h0, .inr (9, mX9 h1 h2 v0)), (h1, zi k1 600 f1)] s.heap := hP
            have hD9 : va_D A [(h0, .inr (9, mX9 h1 h2 v0)), (h1, zi k1 600 f1)] := hD
            exact W.zret (v := 0) hx hb hr rfl (fun t ht hW => ⟨⟨0, (fun _ => 0), rfl, hpost, (fun _ => 0), (fun _ => (fun _ => 0)), (fun _ => (fun _ => 0)), by rw [ht]; exact hP9, va_K.moved hW.alike hK, hD9⟩, hS.F ht⟩) hS.2.2 dX9_inToken_62
      · skip
        have b_ := zF_lt rfl zk_97 c_
        refine lv_iload_n hx hb dX9_inToken_27 rfl (lv_at hl 0 rfl) ?_
        refine lv_bipush (v := 122) hx hb dX9_inToken_28 (by decide) ?_
        refine lv_icmp_le (tgt := 57) hx hb dX9_inToken_30 (by decide) (fun c_ => ?_) (fun c_ => ?_)
        · skip
          have b_ := zT_le rfl zk_122 c_
          refine lv_iconst (v := 1) hx hb dX9_inToken_57 (by decide) ?_
          refine lv_goto (tgt := 62) hx hb dX9_inToken_58 (by decide) ?_
          refine W.widen (k := 0) (n := 0) (by decide) (by decide) ?_
          have hpost : (0 ≤ (1 : Int32).toInt ∧ (1 : Int32).toInt ≤ 1) ∧ ((1 : Int32).toInt = 1 → (0 ≤ x1.toInt ∧ x1.toInt ≤ 599)) ∧ ((1 : Int32).toInt = 1 → x1.toInt < (v0 2).toInt) ∧ ((1 : Int32).toInt = 1 → zIn f1 (v0 2).toInt x1.toInt) ∧ ((1 : Int32).toInt = 0 → ¬ zIn f1 (v0 2).toInt x1.toInt) := ⟨(by first | with_reducible assumption | exact ⟨by omega, by omega⟩), by omega, by omega, by first | (intro q; exact absurd q (by decide)) | exact fun _ => zIn_i e_z19 (by omega) (by omega) (by omega), by first | (intro q; exact absurd q (by decide)) | exact fun _ => zIn_n e_z19 (by omega) | exact fun _ => zIn_o (by omega)⟩
          have hP9 : va_P (dC, dI) vwCl [(h0, .inr (9, mX9 h1 h2 v0)), (h1, zi k1 600 f1)] s.heap := hP
          have hD9 : va_D A [(h0, .inr (9, mX9 h1 h2 v0)), (h1, zi k1 600 f1)] := hD
          exact W.zret (v := 1) hx hb hr rfl (fun t ht hW => ⟨⟨1, (fun _ => 0), rfl, hpost, (fun _ => 0), (fun _ => (fun _ => 0)), (fun _ => (fun _ => 0)), by rw [ht]; exact hP9, va_K.moved hW.alike hK, hD9⟩, hS.F ht⟩) hS.2.2 dX9_inToken_62
        · skip
          have b_ := zF_le rfl zk_122 c_
          refine lv_iload_n hx hb dX9_inToken_33 rfl (lv_at hl 0 rfl) ?_
          refine lv_bipush (v := 65) hx hb dX9_inToken_34 (by decide) ?_
          refine lv_icmp_lt (tgt := 45) hx hb dX9_inToken_36 (by decide) (fun c_ => False.elim (by have b_ := zT_lt rfl zk_65 c_; omega)) (fun c_ => ?_)
          have b_ := zF_lt rfl zk_65 c_
          refine lv_iload_n hx hb dX9_inToken_39 rfl (lv_at hl 0 rfl) ?_
          refine lv_bipush (v := 90) hx hb dX9_inToken_40 (by decide) ?_
          refine lv_icmp_le (tgt := 57) hx hb dX9_inToken_42 (by decide) (fun c_ => False.elim (by have b_ := zT_le rfl zk_90 c_; omega)) (fun c_ => ?_)
          have b_ := zF_le rfl zk_90 c_
          refine lv_iload_n hx hb dX9_inToken_45 rfl (lv_at hl 0 rfl) ?_
          refine lv_bipush (v := 48) hx hb dX9_inToken_46 (by decide) ?_
          refine lv_icmp_lt (tgt := 61) hx hb dX9_inToken_48 (by decide) (fun c_ => False.elim (by have b_ := zT_lt rfl zk_48 c_; omega)) (fun c_ => ?_)
          have b_ := zF_lt rfl zk_48 c_
          refine lv_iload_n hx hb dX9_inToken_51 rfl (lv_at hl 0 rfl) ?_
          refine lv_bipush (v := 57) hx hb dX9_inToken_52 (by decide) ?_
          refine lv_icmp_gt (tgt := 61) hx hb dX9_inToken_54 (by decide) (fun c_ => ?_) (fun c_ => False.elim (by have b_ := zF_gt rfl zk_57 c_; omega))
          have b_ := zT_gt rfl zk_57 c_
          refine lv_iconst (v := 0) hx hb dX9_inToken_61 (by decide) ?_
          refine W.widen (k := 0) (n := 0) (by decide) (by decide) ?_
          have hpost : (0 ≤ (0 : Int32).toInt ∧ (0 : Int32).toInt ≤ 1) ∧ ((0 : Int32).toInt = 1 → (0 ≤ x1.toInt ∧ x1.toInt ≤ 599)) ∧ ((0 : Int32).toInt = 1 → x1.toInt < (v0 2).toInt) ∧ ((0 : Int32).toInt = 1 → zIn f1 (v0 2).toInt x1.toInt) ∧ ((0 : Int32).toInt = 0 → ¬ zIn f1 (v0 2).toInt x1.toInt) := ⟨(by first | with_reducible assumption | exact ⟨by omega, by omega⟩), by omega, by omega, by first | (intro q; exact absurd q (by decide)) | exact fun _ => zIn_i e_z19 (by omega) (by omega) (by omega), by first | (intro q; exact absurd q (by decide)) | exact fun _ => zIn_n e_z19 (by omega) | exact fun _ => zIn_o (by omega)⟩
          have hP9 : va_P (dC, dI) vwCl [(h0, .inr (9, mX9 h1 h2 v0)), (h1, zi k1 600 f1)] s.heap := hP
          have hD9 : va_D A [(h0, .inr (9, mX9 h1 h2 v0)), (h1, zi k1 600 f1)] := hD
          exact W.zret (v := 0) hx hb hr rfl (fun t ht hW => ⟨⟨0, (fun _ => 0), rfl, hpost, (fun _ => 0), (fun _ => (fun _ => 0)), (fun _ => (fun _ => 0)), by rw [ht]; exact hP9, va_K.moved hW.alike hK, hD9⟩, hS.F ht⟩) hS.2.2 dX9_inToken_62
    · skip
      have b_ := zF_lt rfl rfl c_
      refine lv_iconst (v := 0) hx hb dX9_inToken_12 (by decide) ?_
      refine W.widen (k := 0) (n := 0) (by decide) (by decide) ?_
      have hpost : (0 ≤ (0 : Int32).toInt ∧ (0 : Int32).toInt ≤ 1) ∧ ((0 : Int32).toInt = 1 → (0 ≤ x1.toInt ∧ x1.toInt ≤ 599)) ∧ ((0 : Int32).toInt = 1 → x1.toInt < (v0 2).toInt) ∧ ((0 : Int32).toInt = 1 → zIn f1 (v0 2).toInt x1.toInt) ∧ ((0 : Int32).toInt = 0 → ¬ zIn f1 (v0 2).toInt x1.toInt) := ⟨(by first | with_reducible assumption | exact ⟨by omega, by omega⟩), by omega, by omega, by first | (intro q; exact absurd q (by decide)) | exact fun _ => zIn_i e_z19 (by omega) (by omega) (by omega), by first | (intro q; exact absurd q (by decide)) | exact fun _ => zIn_n e_z19 (by omega) | exact fun _ => zIn_o (by omega)⟩
      have hP9 : va_P (dC, dI) vwCl [(h0, .inr (9, mX9 h1 h2 v0)), (h1, zi k1 600 f1)] s.heap := hP
      have hD9 : va_D A [(h0, .inr (9, mX9 h1 h2 v0)), (h1, zi k1 600 f1)] := hD
      exact W.zret (v := 0) hx hb hr rfl (fun t ht hW => ⟨⟨0, (fun _ => 0), rfl, hpost, (fun _ => 0), (fun _ => (fun _ => 0)), (fun _ => (fun _ => 0)), by rw [ht]; exact hP9, va_K.moved hW.alike hK, hD9⟩, hS.F ht⟩) hS.2.2 dX9_inToken_13
set_option maxHeartbeats 8000000 in
set_option maxRecDepth 100000 in
theorem sX9_startsToken_0 (l : Launch) (dC : Nat → ClassId) (dI : Nat → Nat → Nat) (adK adV : Nat → Nat) (h0 : Nat) (h1 : Nat) (h2 : Nat) (k1 : ClassId) (sz : Nat) (v0 : Nat → Int32) (f1 : Nat → Int32) (x1 : Int32) (hv0 : zR rg_Tape v0) : Met l yX9_startsToken (zw yX9_startsToken cX9_startsToken 2 (some .boolean)) { frames := 1, cells := 0, slots := 0, locals := 22 } (zPc dC dI adK adV [.ref h0, .int x1] sz [(h0, .inr (9, mX9 h1 h2 v0)), (h1, zi k1 600 f1)] [(k1, .byte)]) (va_Qi (fun (r : Int32) (u : Nat → Int32) => (0 ≤ r.toInt ∧ r.toInt ≤ 1) ∧ (r.toInt = 1 → zsb f1 (v0 2).toInt x1.toInt = true) ∧ (r.toInt = 0 → zsb f1 (v0 2).toInt x1.toInt = false) ∧ (r.toInt = 1 → zStt f1 (v0 2).toInt x1.toInt) ∧ (r.toInt = 0 → ¬ zStt f1 (v0 2).toInt x1.toInt)) (fun (u : Nat → Int32) (t : State) => ∃ (ww : Nat → Int64) (aa : Nat → Nat → Int32) (bb : Nat → Nat → Int64), va_P (dC, dI) vwCl [(h0, .inr (9, mX9 h1 h2 v0)), (h1, zi k1 600 f1)] t.heap ∧ va_K (dC, dI) vwCl [(k1, .byte)] t ∧ va_D (va_A [(h0, .inr (9, mX9 h1 h2 v0)), (h1, zi k1 600 f1)] sz) [(h0, .inr (9, mX9 h1 h2 v0)), (h1, zi k1 600 f1)]) (va_A [(h0, .inr (9, mX9 h1 h2 v0)), (h1, zi k1 600 f1)] sz)) 0 0 (va_A [(h0, .inr (9, mX9 h1 h2 v0)), (h1, zi k1 600 f1)] sz) := by
  refine Met.ofW (cc := cX9_startsToken) (maxL := 2) (ret := (some .boolean)) (by decide) rfl ?_
  intro p e s m args below meth c s₁ B hml hv
  obtain ⟨rfl, hsz, hP, hK, hD0, hE, hZ⟩ := hv
  have hx := B.exec
  have hb := B.bytes
  have hr := B.returns
  have hG : ∀ w ∈ zG, w.before _ s = true := fun w h => atoms_spec (ws := (zw yX9_startsToken cX9_startsToken 2 (some .boolean))) B.pre w (List.mem_cons_of_mem _ h)
  have hown : s.vm.findClass RX9 = some m.cls := findClass_of_methodNamed B.named
  have hlocks := B.notSynchronized

  subst hsz
  have hD := hD0.self (sz := s.heap.size)
  generalize hAe : va_A [(h0, .inr (9, mX9 h1 h2 v0)), (h1, zi k1 600 f1)] s.heap.size = A at hD hZ ⊢
  have hA : ∀ q : Nat, s.heap.size ≤ q → A q := fun q h => by rw [← hAe]; exact Or.inr h
  have hS : va_S A s.heap s.heap [] := va_S.rf
  have hl := lv_entry ([.ref h0, .int x1]) (n := 2) (Nat.le_of_ble_eq_true rfl)
  rw [lg_entry_eq]
  generalize (lg_sl ([.ref h0, .int x1]) ++ List.replicate (2 - (lg_sl ([.ref h0, .int x1])).length) Slot.unset).toArray = ls at hl ⊢
  have hl : lv_has ls 2 [(0, .ref h0), (1, .int x1)] := hl
  have b_ := zk_0
  have b_ := zk_1
  have b_ : 0 ≤ (v0 2).toInt ∧ (v0 2).toInt ≤ 600 := hv0 2
  refine lv_aload_n hx hb dX9_startsToken_0 rfl (lv_at hl 0 rfl) ?_
  refine lv_iload_n hx hb dX9_startsToken_1 rfl (lv_at hl 1 rfl) ?_
  have hPc := hP.sub (ws' := [(h0, .inr (9, mX9 h1 h2 v0)), (h1, zi k1 600 f1)]) [0, 1] rfl
  have hDc := hD.sub (ws' := [(h0, .inr (9, mX9 h1 h2 v0)), (h1, zi k1 600 f1)]) [0, 1] (by decide) rfl
  have hKc := hK.sub (tys' := [(k1, .byte)]) [0] rfl
  have hFc := va_free (wc := [(h0, .inr (9, mX9 h1 h2 v0)), (h1, zi k1 600 f1)]) hD hS hA [0, 1] rfl
  refine va_calli (va_runV (As := [.int x1]) (rest := []) ⟨hx, hb, hml, hown, hG⟩ (sX9_inToken_0 l dC dI adK adV h0 h1 h2 k1 s.heap.size v0 f1 x1 hv0) (cwV 1 hG (zgV zv648 zv649 zv650 zv130 zv651) rfl rfl rfl (by decide +kernel) ⟨Nat.le_of_ble_eq_true rfl, Nat.le_of_ble_eq_true rfl⟩) ⟨zPc_blind, va_recv hKc hPc (ci := 9) (q0 := 0) rfl rfl, zPc_pre hPc hKc hDc hE hS hFc hZ⟩ rfl rfl hl.1 rfl (lv_room (Nat.le_of_ble_eq_true rfl)) dX9_startsToken_2 ⟨Nat.le_of_ble_eq_true rfl, Nat.le_of_ble_eq_true rfl⟩) hS (fun q _ h => hFc q h) hFc (fun r2_ u2_ t H1 locs ht hvm hw hB hz1 hk1 hS => ?_)
  replace hw : (0 ≤ r2_.toInt ∧ r2_.toInt ≤ 1) ∧ (r2_.toInt = 1 → (0 ≤ x1.toInt ∧ x1.toInt ≤ 599)) ∧ (r2_.toInt = 1 → x1.toInt < (v0 2).toInt) ∧ (r2_.toInt = 1 → zIn f1 (v0 2).toInt x1.toInt) ∧ (r2_.toInt = 0 → ¬ zIn f1 (v0 2).toInt x1.toInt) := hw
  obtain ⟨b_, hX2_0, hX2_1, hX2_2, hX2_3⟩ := hw
  obtain ⟨w2_, a2_, b2_, hP1, hK1, hD1⟩ := hB
  rw [ht] at hP1
  obtain ⟨hP, hD⟩ := va_join (wr := []) (w1 := [(h0, .inr (9, mX9 h1 h2 v0)), (h1, zi k1 600 f1)]) hP hD [0, 1] [] rfl rfl (by decide) (by decide) hk1 hFc hP1 hD1
  have hP : va_P (dC, dI) vwCl [(h0, .inr (9, mX9 h1 h2 v0)), (h1, zi k1 600 f1)] H1 := hP.sub [0, 1] rfl
  have hD : va_D A [(h0, .inr (9, mX9 h1 h2 v0)), (h1, zi k1 600 f1)] := hD.sub [0, 1] (by decide) rfl
  generalize H1 = H at hP hS ⊢
  clear hz1
  refine lv_if_eq (tgt := 22) hx hb dX9_startsToken_5 (by decide) (fun c_ => ?_) (fun c_ => ?_)
  · skip
    have b_ := zT_eq rfl zk_0 c_
    refine lv_iconst (v := 0) hx hb dX9_startsToken_22 (by decide) ?_
    refine W.widen (k := 0) (n := 0) (by decide) (by decide) ?_
    have hpost : (0 ≤ (0 : Int32).toInt ∧ (0 : Int32).toInt ≤ 1) ∧ ((0 : Int32).toInt = 1 → zsb f1 (v0 2).toInt x1.toInt = true) ∧ ((0 : Int32).toInt = 0 → zsb f1 (v0 2).toInt x1.toInt = false) ∧ ((0 : Int32).toInt = 1 → zStt f1 (v0 2).toInt x1.toInt) ∧ ((0 : Int32).toInt = 0 → ¬ zStt f1 (v0 2).toInt x1.toInt) := ⟨(by first | with_reducible assumption | exact ⟨by omega, by omega⟩), by first | (intro q; exact absurd q (by decide)) | exact fun _ => zsb_1 (hX2_2 (by omega)) (hX12_3 (by omega)) (by omega), by first | (intro q; exact absurd q (by decide)) | exact fun _ => zsb_0 (Or.inl (hX2_3 (by omega))) | exact fun _ => zsb_0 (Or.inr (zIn_e (hX12_2 (by omega)) (by omega))), by first | (intro q; exact absurd q (by decide)) | exact fun _ => ⟨hX2_2 (by omega), by have y_ := hX12_3 (by omega); rw [show z11.toInt = x1.toInt - 1 from by omega] at y_; exact y_⟩, by first | (intro q; exact absurd q (by decide)) | exact fun _ y_ => hX2_3 (by omega) y_.1 | exact fun _ y_ => y_.2 (by have w_ := hX12_2 (by omega); rw [show z11.toInt = x1.toInt - 1 from by omega] at w_; exact w_)⟩
    have hP9 : va_P (dC, dI) vwCl [(h0, .inr (9, mX9 h1 h2 v0)), (h1, zi k1 600 f1)] H := hP
    have hD9 : va_D A [(h0, .inr (9, mX9 h1 h2 v0)), (h1, zi k1 600 f1)] := hD
    exact W.zret (v := 0) hx hb hr rfl (fun t ht hW => ⟨⟨0, (fun _ => 0), rfl, hpost, (fun _ => 0), (fun _ => (fun _ => 0)), (fun _ => (fun _ => 0)), by rw [ht]; exact hP9, va_K.moved hW.alike hK, hD9⟩, hS.F ht⟩) hS.2.2 dX9_startsToken_23
  · skip
    have b_ := zF_eq rfl zk_0 c_
    refine lv_aload_n hx hb dX9_startsToken_8 rfl (lv_at hl 0 rfl) ?_
    refine lv_iload_n hx hb dX9_startsToken_9 rfl (lv_at hl 1 rfl) ?_
    refine lv_iconst (v := 1) hx hb dX9_startsToken_10 (by decide) ?_
    have b_ := hX2_0 (by omega)
    refine lv_isub hx hb dX9_startsToken_11 ?_
    refine lv_topi (fun z11 e_z11 => ?_)
    have b_ := zsub rfl zk_1 e_z11 (by omega) (by omega)
    have hPc := hP.sub (ws' := [(h0, .inr (9, mX9 h1 h2 v0)), (h1, zi k1 600 f1)]) [0, 1] rfl
    have hDc := hD.sub (ws' := [(h0, .inr (9, mX9 h1 h2 v0)), (h1, zi k1 600 f1)]) [0, 1] (by decide) rfl
    have hKc := hK.sub (tys' := [(k1, .byte)]) [0] rfl
    have hFc := va_free (wc := [(h0, .inr (9, mX9 h1 h2 v0)), (h1, zi k1 600 f1)]) hD hS hA [0, 1] rfl
    refine va_calli (va_runV (As := [.int z11]) (rest := []) ⟨hx, hb, hml, hown, hG⟩ (sX9_inToken_0 l dC dI adK adV h0 h1 h2 k1 H.size v0 f1 z11 hv0) (cwV 1 hG (zgV zv648 zv649 zv650 zv130 zv651) rfl rfl rfl (by decide +kernel) ⟨Nat.le_of_ble_eq_true rfl, Nat.le_of_ble_eq_true rfl⟩) ⟨zPc_blind, va_recv hKc hPc (ci := 9) (q0 := 0) rfl rfl, zPc_pre hPc hKc hDc hE hS hFc hZ⟩ rfl rfl hl.1 rfl (lv_room (Nat.le_of_ble_eq_true rfl)) dX9_startsToken_12 ⟨Nat.le_of_ble_eq_true rfl, Nat.le_of_ble_eq_true rfl⟩) hS (fun q _ h => hFc q h) hFc (fun r12_ u12_ t H1 locs ht hvm hw hB hz1 hk1 hS => ?_)
    replace hw : (0 ≤ r12_.toInt ∧ r12_.toInt ≤ 1) ∧ (r12_.toInt = 1 → (0 ≤ z11.toInt ∧ z11.toInt ≤ 599)) ∧ (r12_.toInt = 1 → z11.toInt < (v0 2).toInt) ∧ (r12_.toInt = 1 → zIn f1 (v0 2).toInt z11.toInt) ∧ (r12_.toInt = 0 → ¬ zIn f1 (v0 2).toInt z11.toInt) := hw
    obtain ⟨b_, hX12_0, hX12_1, hX12_2, hX12_3⟩ := hw
    obtain ⟨w12_, a12_, b12_, hP1, hK1, hD1⟩ := hB
    rw [ht] at hP1
    obtain ⟨hP, hD⟩ := va_join (wr := []) (w1 := [(h0, .inr (9, mX9 h1 h2 v0)), (h1, zi k1 600 f1)]) hP hD [0, 1] [] rfl rfl (by decide) (by decide) hk1 hFc hP1 hD1
    have hP : va_P (dC, dI) vwCl [(h0, .inr (9, mX9 h1 h2 v0)), (h1, zi k1 600 f1)] H1 := hP.sub [0, 1] rfl
    have hD : va_D A [(h0, .inr (9, mX9 h1 h2 v0)), (h1, zi k1 600 f1)] := hD.sub [0, 1] (by decide) rfl
    generalize H1 = H at hP hS ⊢
    clear hz1
    refine lv_if_ne (tgt := 22) hx hb dX9_startsToken_15 (by decide) (fun c_ => ?_) (fun c_ => ?_)
    · skip
      have b_ := zT_ne rfl zk_0 c_
      refine lv_iconst (v := 0) hx hb dX9_startsToken_22 (by decide) ?_
      refine W.widen (k := 0) (n := 0) (by decide) (by decide) ?_
      have hpost : (0 ≤ (0 : Int32).toInt ∧ (0 : Int32).toInt ≤ 1) ∧ ((0 : Int32).toInt = 1 → zsb f1 (v0 2).toInt x1.toInt = true) ∧ ((0 : Int32).toInt = 0 → zsb f1 (v0 2).toInt x1.toInt = false) ∧ ((0 : Int32).toInt = 1 → zStt f1 (v0 2).toInt x1.toInt) ∧ ((0 : Int32).toInt = 0 → ¬ zStt f1 (v0 2).toInt x1.toInt) := ⟨(by first | with_reducible assumption | exact ⟨by omega, by omega⟩), by first | (intro q; exact absurd q (by decide)) | exact fun _ => zsb_1 (hX2_2 (by omega)) (hX12_3 (by omega)) (by omega), by first | (intro q; exact absurd q (by decide)) | exact fun _ => zsb_0 (Or.inl (hX2_3 (by omega))) | exact fun _ => zsb_0 (Or.inr (zIn_e (hX12_2 (by omega)) (by omega))), by first | (intro q; exact absurd q (by decide)) | exact fun _ => ⟨hX2_2 (by omega), by have y_ := hX12_3 (by omega); rw [show z11.toInt = x1.toInt - 1 from by omega] at y_; exact y_⟩, by first | (intro q; exact absurd q (by decide)) | exact fun _ y_ => hX2_3 (by omega) y_.1 | exact fun _ y_ => y_.2 (by have w_ := hX12_2 (by omega); rw [show z11.toInt = x1.toInt - 1 from by omega] at w_; exact w_)⟩
      have hP9 : va_P (dC, dI) vwCl [(h0, .inr (9, mX9 h1 h2 v0)), (h1, zi k1 600 f1)] H := hP
      have hD9 : va_D A [(h0, .inr (9, mX9 h1 h2 v0)), (h1, zi k1 600 f1)] := hD
      exact W.zret (v := 0) hx hb hr rfl (fun t ht hW => ⟨⟨0, (fun _ => 0), rfl, hpost, (fun _ => 0), (fun _ => (fun _ => 0)), (fun _ => (fun _ => 0)), by rw [ht]; exact hP9, va_K.moved hW.alike hK, hD9⟩, hS.F ht⟩) hS.2.2 dX9_startsToken_23
    · skip
      have b_ := zF_ne rfl zk_0 c_
      refine lv_iconst (v := 1) hx hb dX9_startsToken_18 (by decide) ?_
      refine lv_goto (tgt := 23) hx hb dX9_startsToken_19 (by decide) ?_
      refine W.widen (k := 0) (n := 0) (by decide) (by decide) ?_
      have hpost : (0 ≤ (1 : Int32).toInt ∧ (1 : Int32).toInt ≤ 1) ∧ ((1 : Int32).toInt = 1 → zsb f1 (v0 2).toInt x1.toInt = true) ∧ ((1 : Int32).toInt = 0 → zsb f1 (v0 2).toInt x1.toInt = false) ∧ ((1 : Int32).toInt = 1 → zStt f1 (v0 2).toInt x1.toInt) ∧ ((1 : Int32).toInt = 0 → ¬ zStt f1 (v0 2).toInt x1.toInt) := ⟨(by first | with_reducible assumption | exact ⟨by omega, by omega⟩), by first | (intro q; exact absurd q (by decide)) | exact fun _ => zsb_1 (hX2_2 (by omega)) (hX12_3 (by omega)) (by omega), by first | (intro q; exact absurd q (by decide)) | exact fun _ => zsb_0 (Or.inl (hX2_3 (by omega))) | exact fun _ => zsb_0 (Or.inr (zIn_e (hX12_2 (by omega)) (by omega))), by first | (intro q; exact absurd q (by decide)) | exact fun _ => ⟨hX2_2 (by omega), by have y_ := hX12_3 (by omega); rw [show z11.toInt = x1.toInt - 1 from by omega] at y_; exact y_⟩, by first | (intro q; exact absurd q (by decide)) | exact fun _ y_ => hX2_3 (by omega) y_.1 | exact fun _ y_ => y_.2 (by have w_ := hX12_2 (by omega); rw [show z11.toInt = x1.toInt - 1 from by omega] at w_; exact w_)⟩
      have hP9 : va_P (dC, dI) vwCl [(h0, .inr (9, mX9 h1 h2 v0)), (h1, zi k1 600 f1)] H := hP
      have hD9 : va_D A [(h0, .inr (9, mX9 h1 h2 v0)), (h1, zi k1 600 f1)] := hD
      exact W.zret (v := 1) hx hb hr rfl (fun t ht hW => ⟨⟨1, (fun _ => 0), rfl, hpost, (fun _ => 0), (fun _ => (fun _ => 0)), (fun _ => (fun _ => 0)), by rw [ht]; exact hP9, va_K.moved hW.alike hK, hD9⟩, hS.F ht⟩) hS.2.2 dX9_startsToken_23
set_option maxHeartbeats 8000000 in
set_option maxRecDepth 100000 in
theorem sX9_small_0 (l : Launch) (dC : Nat → ClassId) (dI : Nat → Nat → Nat) (adK adV : Nat → Nat) (sz : Nat) (x0 : Int32) : Met l yX9_small (zw yX9_small cX9_small 1 (some .int)) { frames := 0, cells := 0, slots := 0, locals := 0 } (zPc dC dI adK adV [.int x0] sz [] []) (va_Qi (fun (r : Int32) (u : Nat → Int32) => (r.toInt = zSml x0.toInt)) (fun (u : Nat → Int32) (t : State) => ∃ (ww : Nat → Int64) (aa : Nat → Nat → Int32) (bb : Nat → Nat → Int64), va_P (dC, dI) vwCl [] t.heap ∧ va_K (dC, dI) vwCl [] t ∧ va_D (va_A [] sz) []) (va_A [] sz)) 0 0 (va_A [] sz) := by
  refine Met.ofW (cc := cX9_small) (maxL := 1) (ret := (some .int)) (by decide) rfl ?_
  intro p e s m args below meth c s₁ B hml hv
  obtain ⟨rfl, hsz, hP, hK, hD0, hE, hZ⟩ := hv
  have hx := B.exec
  have hb := B.bytes
  have hr := B.returns
  have hG : ∀ w ∈ zG, w.before _ s = true := fun w h => atoms_spec (ws := (zw yX9_small cX9_small 1 (some .int))) B.pre w (List.mem_cons_of_mem _ h)
  have hown : s.vm.findClass RX9 = some m.cls := findClass_of_methodNamed B.named
  have hlocks := B.notSynchronized

  subst hsz
  have hD := hD0.self (sz := s.heap.size)
  generalize hAe : va_A [] s.heap.size = A at hD hZ ⊢
  have hA : ∀ q : Nat, s.heap.size ≤ q → A q := fun q h => by rw [← hAe]; exact Or.inr h
  have hS : va_S A s.heap s.heap [] := va_S.rf
  have hl := lv_entry ([.int x0]) (n := 1) (Nat.le_of_ble_eq_true rfl)
  rw [lg_entry_eq]
  generalize (lg_sl ([.int x0]) ++ List.replicate (1 - (lg_sl ([.int x0])).length) Slot.unset).toArray = ls at hl ⊢
  have hl : lv_has ls 1 [(0, .int x0)] := hl
  refine lv_iload_n hx hb dX9_small_0 rfl (lv_at hl 0 rfl) ?_
  refine lv_bipush (v := 65) hx hb dX9_small_1 (by decide) ?_
  have b_ : -2147483648 ≤ x0.toInt ∧ x0.toInt ≤ 2147483647 := ⟨zlo _, zhi _⟩
  refine lv_icmp_lt (tgt := 19) hx hb dX9_small_3 (by decide) (fun c_ => ?_) (fun c_ => ?_)
  · skip
    have b_ := zT_lt rfl zk_65 c_
    refine lv_iload_n hx hb dX9_small_19 rfl (lv_at hl 0 rfl) ?_
    refine W.widen (k := 0) (n := 0) (by decide) (by decide) ?_
    have hpost : (x0.toInt = zSml x0.toInt) := by first | exact zSml_y (by omega) (by omega) (by omega) | exact zSml_n (by omega)
    have hP9 : va_P (dC, dI) vwCl [] s.heap := hP
    have hD9 : va_D A [] := hD
    exact W.iret (v := x0) hx hb hr (fun t ht hW => ⟨⟨x0, (fun _ => 0), rfl, hpost, (fun _ => 0), (fun _ => (fun _ => 0)), (fun _ => (fun _ => 0)), by rw [ht]; exact hP9, va_K.moved hW.alike hK, hD9⟩, hS.F ht⟩) hS.2.2 dX9_small_20
  · skip
    have b_ := zF_lt rfl zk_65 c_
    refine lv_iload_n hx hb dX9_small_6 rfl (lv_at hl 0 rfl) ?_
    refine lv_bipush (v := 90) hx hb dX9_small_7 (by decide) ?_
    refine lv_icmp_gt (tgt := 19) hx hb dX9_small_9 (by decide) (fun c_ => ?_) (fun c_ => ?_)
    · skip
      have b_ := zT_gt rfl zk_90 c_
      refine lv_iload_n hx hb dX9_small_19 rfl (lv_at hl 0 rfl) ?_
      refine W.widen (k := 0) (n := 0) (by decide) (by decide) ?_
      have hpost : (x0.toInt = zSml x0.toInt) := by first | exact zSml_y (by omega) (by omega) (by omega) | exact zSml_n (by omega)
      have hP9 : va_P (dC, dI) vwCl [] s.heap := hP
      have hD9 : va_D A [] := hD
      exact W.iret (v := x0) hx hb hr (fun t ht hW => ⟨⟨x0, (fun _ => 0), rfl, hpost, (fun _ => 0), (fun _ => (fun _ => 0)), (fun _ => (fun _ => 0)), by rw [ht]; exact hP9, va_K.moved hW.alike hK, hD9⟩, hS.F ht⟩) hS.2.2 dX9_small_20
    · skip
      have b_ := zF_gt rfl zk_90 c_
      refine lv_iload_n hx hb dX9_small_12 rfl (lv_at hl 0 rfl) ?_
      refine lv_bipush (v := 32) hx hb dX9_small_13 (by decide) ?_
      refine lv_iadd hx hb dX9_small_15 ?_
      refine lv_topi (fun z15 e_z15 => ?_)
      have b_ := zadd rfl zk_32 e_z15 (by omega) (by omega)
      refine lv_goto (tgt := 20) hx hb dX9_small_16 (by decide) ?_
      refine W.widen (k := 0) (n := 0) (by decide) (by decide) ?_
      have hpost : (z15.toInt = zSml x0.toInt) := by first | exact zSml_y (by omega) (by omega) (by omega) | exact zSml_n (by omega)
      have hP9 : va_P (dC, dI) vwCl [] s.heap := hP
      have hD9 : va_D A [] := hD
      exact W.iret (v := z15) hx hb hr (fun t ht hW => ⟨⟨z15, (fun _ => 0), rfl, hpost, (fun _ => 0), (fun _ => (fun _ => 0)), (fun _ => (fun _ => 0)), by rw [ht]; exact hP9, va_K.moved hW.alike hK, hD9⟩, hS.F ht⟩) hS.2.2 dX9_small_20
set_option maxHeartbeats 8000000 in
set_option maxRecDepth 100000 in
theorem sX9_readLetters_0 (l : Launch) (dC : Nat → ClassId) (dI : Nat → Nat → Nat) (adK adV : Nat → Nat) (h0 : Nat) (h1 : Nat) (h2 : Nat) (k1 : ClassId) (k2 : ClassId) (sz : Nat) (v0 : Nat → Int32) (f1 : Nat → Int32) (f2 : Nat → Int32) (x1 : Int32) (hv0 : zR rg_Tape v0) : Met l yX9_readLetters (zw yX9_readLetters cX9_readLetters 3 none) { frames := 1, cells := 0, slots := 0, locals := 22 } (zPc dC dI adK adV [.ref h0, .int x1] sz [(h0, .inr (9, mX9 h1 h2 v0)), (h1, zi k1 600 f1), (h2, zi k2 12 f2)] [(k1, .byte), (k2, .byte)]) (va_Qv (fun (u : Nat → Int32) => (0 ≤ (u 0).toInt ∧ (u 0).toInt ≤ 12)) (fun (u : Nat → Int32) (t : State) => ∃ (ww : Nat → Int64) (aa : Nat → Nat → Int32) (bb : Nat → Nat → Int64), (0 ≤ x1.toInt → x1.toInt ≤ 600 → zRl f1 (v0 2).toInt x1.toInt (aa 0) (u 0).toInt) ∧ (0 ≤ x1.toInt → x1.toInt ≤ 600 → ((u 0).toInt = 12 ∨ ¬ zIn f1 (v0 2).toInt (x1.toInt + (u 0).toInt))) ∧ va_P (dC, dI) vwCl [(h0, .inr (9, mX9 h1 h2 (upd v0 3 (u 0)))), (h1, zi k1 600 f1), (h2, zi k2 12 (aa 0))] t.heap ∧ va_K (dC, dI) vwCl [(k1, .byte), (k2, .byte)] t ∧ va_D (va_A [(h0, .inr (9, mX9 h1 h2 v0)), (h1, zi k1 600 f1), (h2, zi k2 12 f2)] sz) [(h0, .inr (9, mX9 h1 h2 (upd v0 3 (u 0)))), (h1, zi k1 600 f1), (h2, zi k2 12 (aa 0))]) (va_A [(h0, .inr (9, mX9 h1 h2 v0)), (h1, zi k1 600 f1), (h2, zi k2 12 f2)] sz)) 0 0 (va_A [(h0, .inr (9, mX9 h1 h2 v0)), (h1, zi k1 600 f1), (h2, zi k2 12 f2)] sz) := by
  refine Met.ofW (cc := cX9_readLetters) (maxL := 3) (ret := none) (by decide) rfl ?_
  intro p e s m args below meth c s₁ B hml hv
  obtain ⟨rfl, hsz, hP, hK, hD0, hE, hZ⟩ := hv
  have hx := B.exec
  have hb := B.bytes
  have hr := B.returns
  have hG : ∀ w ∈ zG, w.before _ s = true := fun w h => atoms_spec (ws := (zw yX9_readLetters cX9_readLetters 3 none)) B.pre w (List.mem_cons_of_mem _ h)
  have hown : s.vm.findClass RX9 = some m.cls := findClass_of_methodNamed B.named
  have hlocks := B.notSynchronized

  subst hsz
  have hD := hD0.self (sz := s.heap.size)
  generalize hAe : va_A [(h0, .inr (9, mX9 h1 h2 v0)), (h1, zi k1 600 f1), (h2, zi k2 12 f2)] s.heap.size = A at hD hZ ⊢
  have hA : ∀ q : Nat, s.heap.size ≤ q → A q := fun q h => by rw [← hAe]; exact Or.inr h
  have hS : va_S A s.heap s.heap [] := va_S.rf
  have hl := lv_entry ([.ref h0, .int x1]) (n := 3) (Nat.le_of_ble_eq_true rfl)
  rw [lg_entry_eq]
  generalize (lg_sl ([.ref h0, .int x1]) ++ List.replicate (3 - (lg_sl ([.ref h0, .int x1])).length) Slot.unset).toArray = ls at hl ⊢
  have hl : lv_has ls 3 [(0, .ref h0), (1, .int x1)] := hl
  have b_ := zk_0
  refine lv_aload_n hx hb dX9_readLetters_0 rfl (lv_at hl 0 rfl) ?_
  refine lv_iconst (v := 0) hx hb dX9_readLetters_1 (by decide) ?_
  refine va_put (D := (dC, dI)) (ci := 9) (v := .int 0) (ty := .int) (C := RX9) (T := TX9) (N := 4) hx hb hG zuX9 tyX9 tyX9_ok nmX9 hown hK hP hD hS 0 rfl rfl 3 (by decide) (hG _ zv172) (fun _ h9 => h9) rfl (by decide +kernel) rfl rfl (Nat.le_of_ble_eq_true rfl) dX9_readLetters_2 (fun H locs hP hD hS => ?_)
  have hP : va_P (dC, dI) vwCl [(h0, .inr (9, mX9 h1 h2 (upd v0 3 0))), (h1, zi k1 600 f1), (h2, zi k2 12 f2)] H := hP
  have hD : va_D A [(h0, .inr (9, mX9 h1 h2 (upd v0 3 0))), (h1, zi k1 600 f1), (h2, zi k2 12 f2)] := hD
  refine lv_iconst (v := 0) hx hb dX9_readLetters_5 (by decide) ?_
  refine lv_istore_n (lv' := [(2, .int 0), (0, .ref h0), (1, .int x1)]) hx hb dX9_readLetters_6 rfl hl (by decide) rfl (fun ls hl => ?_)
  refine zcutL (fun u7_ => (12 - (u7_ 0).toInt).toNat) (fun H locs ls u7_ w7_ a7_ b7_ => va_P (dC, dI) vwCl [(h0, .inr (9, mX9 h1 h2 (upd v0 3 (u7_ 1)))), (h1, zi k1 600 f1), (h2, zi k2 12 (a7_ 0))] H ∧ va_D A [(h0, .inr (9, mX9 h1 h2 (upd v0 3 (u7_ 1)))), (h1, zi k1 600 f1), (h2, zi k2 12 (a7_ 0))] ∧ va_S A s.heap H locs ∧ lv_has ls 3 [(0, .ref h0), (1, .int x1), (2, .int (u7_ 0))] ∧ (0 ≤ (u7_ 0).toInt ∧ (u7_ 0).toInt ≤ 12) ∧ (0 ≤ (u7_ 1).toInt ∧ (u7_ 1).toInt ≤ 12) ∧ ((u7_ 1).toInt = (u7_ 0).toInt) ∧ (0 ≤ x1.toInt → x1.toInt ≤ 600 → zRl f1 (v0 2).toInt x1.toInt (a7_ 0) (u7_ 0).toInt)) (fun ls u7_ w7_ => F0 m 7 ls []) 0 0 ?_ (fun hJ7 => ?_)
  · skip
    intro H locs ls u7_ w7_ a7_ b7_ hc hJ7
    obtain ⟨hP, hD, hS, hl, b_, b_, b_, hI7_1⟩ := hc
    refine lv_iload_n hx hb dX9_readLetters_7 rfl (lv_at hl 2 rfl) ?_
    refine lv_bipush (v := 12) hx hb dX9_readLetters_8 (by decide) ?_
    refine lv_icmp_ge (tgt := 53) hx hb dX9_readLetters_10 (by decide) (fun c_ => ?_) (fun c_ => ?_)
    · skip
      have b_ := zT_ge rfl zk_12 c_
      refine W.widen (k := 0) (n := 0) (by decide) (by decide) ?_
      have hpost : (0 ≤ (u7_ 1).toInt ∧ (u7_ 1).toInt ≤ 12) := (by first | with_reducible assumption | exact ⟨by omega, by omega⟩)
      have hP9 : va_P (dC, dI) vwCl [(h0, .inr (9, mX9 h1 h2 (upd v0 3 (u7_ 1)))), (h1, zi k1 600 f1), (h2, zi k2 12 (a7_ 0))] H := hP
      have hD9 : va_D A [(h0, .inr (9, mX9 h1 h2 (upd v0 3 (u7_ 1)))), (h1, zi k1 600 f1), (h2, zi k2 12 (a7_ 0))] := hD
      have hB0 : 0 ≤ x1.toInt → x1.toInt ≤ 600 → zRl f1 (v0 2).toInt x1.toInt (a7_ 0) (u7_ 1).toInt := by first | (intro p0_ p1_; exact zRl_e (hI7_1 p0_ p1_) (by omega))
      have hB1 : 0 ≤ x1.toInt → x1.toInt ≤ 600 → ((u7_ 1).toInt = 12 ∨ ¬ zIn f1 (v0 2).toInt (x1.toInt + (u7_ 1).toInt)) := by first | exact fun _ _ => Or.inl (by omega) | (intro p0_ p1_; right; have b16 := zadd rfl rfl e_z16 (by omega) (by omega); exact zNi_e (hX17_3 (by omega)) (by omega))
      exact W.vret hx hb hr (fun t ht hW => ⟨⟨(fun i => ([(u7_ 1)] : List (Int32)).getD i 0), rfl, hpost, (fun _ => 0), (fun i => ([(a7_ 0)] : List (Nat → Int32)).getD i (fun _ => 0)), (fun _ => (fun _ => 0)), hB0, hB1, by rw [ht]; exact hP9, va_K.moved hW.alike hK, hD9⟩, hS.F ht⟩) hS.2.2 dX9_readLetters_53
    · skip
      have b_ := zF_ge rfl zk_12 c_
      refine lv_aload_n hx hb dX9_readLetters_13 rfl (lv_at hl 0 rfl) ?_
      refine lv_iload_n hx hb dX9_readLetters_14 rfl (lv_at hl 1 rfl) ?_
      refine lv_iload_n hx hb dX9_readLetters_15 rfl (lv_at hl 2 rfl) ?_
      have b_ : -2147483648 ≤ x1.toInt ∧ x1.toInt ≤ 2147483647 := ⟨zlo _, zhi _⟩
      refine lv_iadd hx hb dX9_readLetters_16 ?_
      refine lv_topi (fun z16 e_z16 => ?_)
      have hPc := hP.sub (ws' := [(h0, .inr (9, mX9 h1 h2 (upd v0 3 (u7_ 1)))), (h1, zi k1 600 f1)]) [0, 1] rfl
      have hDc := hD.sub (ws' := [(h0, .inr (9, mX9 h1 h2 (upd v0 3 (u7_ 1)))), (h1, zi k1 600 f1)]) [0, 1] (by decide) rfl
      have hKc := hK.sub (tys' := [(k1, .byte)]) [0] rfl
      have hFc := va_free (wc := [(h0, .inr (9, mX9 h1 h2 (upd v0 3 (u7_ 1)))), (h1, zi k1 600 f1)]) hD hS hA [0, 1] rfl
      refine va_calli (va_runV (As := [.int z16]) (rest := []) ⟨hx, hb, hml, hown, hG⟩ (sX9_inToken_0 l dC dI adK adV h0 h1 h2 k1 H.size (upd v0 3 (u7_ 1)) f1 z16 (zR_up2 hv0 3 (show (0 : Int) ≤ ((u7_ 1) : Int32).toInt ∧ ((u7_ 1) : Int32).toInt ≤ (12 : Int) from (by first | with_reducible assumption | exact ⟨by omega, by omega⟩)))) (cwV 1 hG (zgV zv648 zv649 zv650 zv130 zv651) rfl rfl rfl (by decide +kernel) ⟨Nat.le_of_ble_eq_true rfl, Nat.le_of_ble_eq_true rfl⟩) ⟨zPc_blind, va_recv hKc hPc (ci := 9) (q0 := 0) rfl rfl, zPc_pre hPc hKc hDc hE hS hFc hZ⟩ rfl rfl hl.1 rfl (lv_room (Nat.le_of_ble_eq_true rfl)) dX9_readLetters_17 ⟨Nat.le_of_ble_eq_true rfl, Nat.le_of_ble_eq_true rfl⟩) hS (fun q _ h => hFc q h) hFc (fun r17_ u17_ t H1 locs ht hvm hw hB hz1 hk1 hS => ?_)
      replace hw : (0 ≤ r17_.toInt ∧ r17_.toInt ≤ 1) ∧ (r17_.toInt = 1 → (0 ≤ z16.toInt ∧ z16.toInt ≤ 599)) ∧ (r17_.toInt = 1 → z16.toInt < (v0 2).toInt) ∧ (r17_.toInt = 1 → zIn f1 (v0 2).toInt z16.toInt) ∧ (r17_.toInt = 0 → ¬ zIn f1 (v0 2).toInt z16.toInt) := hw
      obtain ⟨b_, hX17_0, hX17_1, hX17_2, hX17_3⟩ := hw
      obtain ⟨w17_, a17_, b17_, hP1, hK1, hD1⟩ := hB
      rw [ht] at hP1
      obtain ⟨hP, hD⟩ := va_join (wr := [(h2, zi k2 12 (a7_ 0))]) (w1 := [(h0, .inr (9, mX9 h1 h2 (upd v0 3 (u7_ 1)))), (h1, zi k1 600 f1)]) hP hD [0, 1] [2] rfl rfl (by decide) (by decide) hk1 hFc hP1 hD1
      have hP : va_P (dC, dI) vwCl [(h0, .inr (9, mX9 h1 h2 (upd v0 3 (u7_ 1)))), (h1, zi k1 600 f1), (h2, zi k2 12 (a7_ 0))] H1 := hP.sub [1, 2, 0] rfl
      have hD : va_D A [(h0, .inr (9, mX9 h1 h2 (upd v0 3 (u7_ 1)))), (h1, zi k1 600 f1), (h2, zi k2 12 (a7_ 0))] := hD.sub [1, 2, 0] (by decide) rfl
      generalize H1 = H at hP hS ⊢
      clear hz1
      refine lv_if_eq (tgt := 53) hx hb dX9_readLetters_20 (by decide) (fun c_ => ?_) (fun c_ => ?_)
      · skip
        have b_ := zT_eq rfl zk_0 c_
        refine W.widen (k := 0) (n := 0) (by decide) (by decide) ?_
        have hpost : (0 ≤ (u7_ 1).toInt ∧ (u7_ 1).toInt ≤ 12) := (by first | with_reducible assumption | exact ⟨by omega, by omega⟩)
        have hP9 : va_P (dC, dI) vwCl [(h0, .inr (9, mX9 h1 h2 (upd v0 3 (u7_ 1)))), (h1, zi k1 600 f1), (h2, zi k2 12 (a7_ 0))] H := hP
        have hD9 : va_D A [(h0, .inr (9, mX9 h1 h2 (upd v0 3 (u7_ 1)))), (h1, zi k1 600 f1), (h2, zi k2 12 (a7_ 0))] := hD
        have hB0 : 0 ≤ x1.toInt → x1.toInt ≤ 600 → zRl f1 (v0 2).toInt x1.toInt (a7_ 0) (u7_ 1).toInt := by first | (intro p0_ p1_; exact zRl_e (hI7_1 p0_ p1_) (by omega))
        have hB1 : 0 ≤ x1.toInt → x1.toInt ≤ 600 → ((u7_ 1).toInt = 12 ∨ ¬ zIn f1 (v0 2).toInt (x1.toInt + (u7_ 1).toInt)) := by first | exact fun _ _ => Or.inl (by omega) | (intro p0_ p1_; right; have b16 := zadd rfl rfl e_z16 (by omega) (by omega); exact zNi_e (hX17_3 (by omega)) (by omega))
        exact W.vret hx hb hr (fun t ht hW => ⟨⟨(fun i => ([(u7_ 1)] : List (Int32)).getD i 0), rfl, hpost, (fun _ => 0), (fun i => ([(a7_ 0)] : List (Nat → Int32)).getD i (fun _ => 0)), (fun _ => (fun _ => 0)), hB0, hB1, by rw [ht]; exact hP9, va_K.moved hW.alike hK, hD9⟩, hS.F ht⟩) hS.2.2 dX9_readLetters_53
      · skip
        have b_ := zF_eq rfl zk_0 c_
        refine lv_aload_n hx hb dX9_readLetters_23 rfl (lv_at hl 0 rfl) ?_
        refine va_get (D := (dC, dI)) (ci := 9) (v := .ref h2) (C := RX9) (T := TX9) (N := 4) hx hb hG zuX9 hown hK hP 0 rfl rfl 1 (by decide) (hG _ zv170) (fun _ h9 => h9) rfl dX9_readLetters_24 ?_
        refine lv_iload_n hx hb dX9_readLetters_27 rfl (lv_at hl 2 rfl) ?_
        refine lv_aload_n hx hb dX9_readLetters_28 rfl (lv_at hl 0 rfl) ?_
        refine lv_iload_n hx hb dX9_readLetters_29 rfl (lv_at hl 1 rfl) ?_
        refine lv_iload_n hx hb dX9_readLetters_30 rfl (lv_at hl 2 rfl) ?_
        refine lv_iadd hx hb dX9_readLetters_31 ?_
        refine lv_topi (fun z31 e_z31 => ?_)
        have hPc := hP.sub (ws' := [(h0, .inr (9, mX9 h1 h2 (upd v0 3 (u7_ 1)))), (h1, zi k1 600 f1)]) [0, 1] rfl
        have hDc := hD.sub (ws' := [(h0, .inr (9, mX9 h1 h2 (upd v0 3 (u7_ 1)))), (h1, zi k1 600 f1)]) [0, 1] (by decide) rfl
        have hKc := hK.sub (tys' := [(k1, .byte)]) [0] rfl
        have hFc := va_free (wc := [(h0, .inr (9, mX9 h1 h2 (upd v0 3 (u7_ 1)))), (h1, zi k1 600 f1)]) hD hS hA [0, 1] rfl
        refine va_calli (va_runV (As := [.int z31]) (rest := [.int (u7_ 0), .ref h2]) ⟨hx, hb, hml, hown, hG⟩ (sX9_at_0 l dC dI adK adV h0 h1 h2 k1 H.size (upd v0 3 (u7_ 1)) f1 z31 (zR_up2 hv0 3 (show (0 : Int) ≤ ((u7_ 1) : Int32).toInt ∧ ((u7_ 1) : Int32).toInt ≤ (12 : Int) from (by first | with_reducible assumption | exact ⟨by omega, by omega⟩)))) (cwV 1 hG (zgV zv660 zv641 zv642 zv130 zv643) rfl rfl rfl (by decide +kernel) ⟨Nat.le_of_ble_eq_true rfl, Nat.le_of_ble_eq_true rfl⟩) ⟨zPc_blind, va_recv hKc hPc (ci := 9) (q0 := 0) rfl rfl, zPc_pre hPc hKc hDc hE hS hFc hZ⟩ rfl rfl hl.1 rfl (lv_room (Nat.le_of_ble_eq_true rfl)) dX9_readLetters_32 ⟨Nat.le_of_ble_eq_true rfl, Nat.le_of_ble_eq_true rfl⟩) hS (fun q _ h => hFc q h) hFc (fun r32_ u32_ t H1 locs ht hvm hw hB hz1 hk1 hS => ?_)
        replace hw : ((-1) ≤ r32_.toInt ∧ r32_.toInt ≤ 255) ∧ (0 ≤ z31.toInt ∧ z31.toInt < (v0 2).toInt → r32_.toInt = (f1 ((z31 : Int32)).toNatClampNeg &&& 255).toInt) ∧ (r32_.toInt ≠ -1 → 0 ≤ z31.toInt ∧ z31.toInt < (v0 2).toInt ∧ z31.toInt < 600) := hw
        obtain ⟨b_, hX32_0, hX32_1⟩ := hw
        obtain ⟨w32_, a32_, b32_, hP1, hK1, hD1⟩ := hB
        rw [ht] at hP1
        obtain ⟨hP, hD⟩ := va_join (wr := [(h2, zi k2 12 (a7_ 0))]) (w1 := [(h0, .inr (9, mX9 h1 h2 (upd v0 3 (u7_ 1)))), (h1, zi k1 600 f1)]) hP hD [0, 1] [2] rfl rfl (by decide) (by decide) hk1 hFc hP1 hD1
        have hP : va_P (dC, dI) vwCl [(h0, .inr (9, mX9 h1 h2 (upd v0 3 (u7_ 1)))), (h1, zi k1 600 f1), (h2, zi k2 12 (a7_ 0))] H1 := hP.sub [1, 2, 0] rfl
        have hD : va_D A [(h0, .inr (9, mX9 h1 h2 (upd v0 3 (u7_ 1)))), (h1, zi k1 600 f1), (h2, zi k2 12 (a7_ 0))] := hD.sub [1, 2, 0] (by decide) rfl
        generalize H1 = H at hP hS ⊢
        clear hz1
        have hPc := hP.sub (ws' := []) [] rfl
        have hDc := hD.sub (ws' := []) [] (by decide) rfl
        have hKc := hK.sub (tys' := []) [] rfl
        have hFc := va_free (wc := []) hD hS hA [] rfl
        refine va_calli (va_runS (As := [.int r32_]) (rest := [.int (u7_ 0), .ref h2]) ⟨hx, hb, hml, hown, hG⟩ (sX9_small_0 l dC dI adK adV H.size r32_) (va_cwS 1 hG (zgS zv661 zv662 zv130 zv663) rfl rfl rfl (by decide +kernel) ⟨Nat.le_of_ble_eq_true rfl, Nat.le_of_ble_eq_true rfl⟩) ⟨zPc_blind, zPc_pre hPc hKc hDc hE hS hFc hZ⟩ rfl rfl hl.1 rfl (lv_room (Nat.le_of_ble_eq_true rfl)) dX9_readLetters_35 ⟨Nat.le_of_ble_eq_true rfl, Nat.le_of_ble_eq_true rfl⟩) hS (fun q _ h => hFc q h) hFc (fun r35_ u35_ t H1 locs ht hvm hw hB hz1 hk1 hS => ?_)
        replace hw : (r35_.toInt = zSml r32_.toInt) := hw
        have hX35_0 := hw
        obtain ⟨w35_, a35_, b35_, hP1, hK1, hD1⟩ := hB
        rw [ht] at hP1
        obtain ⟨hP, hD⟩ := va_join (wr := [(h0, .inr (9, mX9 h1 h2 (upd v0 3 (u7_ 1)))), (h1, zi k1 600 f1), (h2, zi k2 12 (a7_ 0))]) (w1 := []) hP hD [] [0, 1, 2] rfl rfl (by decide) (by decide) hk1 hFc hP1 hD1
        have hP : va_P (dC, dI) vwCl [(h0, .inr (9, mX9 h1 h2 (upd v0 3 (u7_ 1)))), (h1, zi k1 600 f1), (h2, zi k2 12 (a7_ 0))] H1 := hP.sub [0, 1, 2] rfl
        have hD : va_D A [(h0, .inr (9, mX9 h1 h2 (upd v0 3 (u7_ 1)))), (h1, zi k1 600 f1), (h2, zi k2 12 (a7_ 0))] := hD.sub [0, 1, 2] (by decide) rfl
        generalize H1 = H at hP hS ⊢
        clear hz1
        have b_ : -2147483648 ≤ r35_.toInt ∧ r35_.toInt ≤ 2147483647 := ⟨zlo _, zhi _⟩
        refine lv_i2b hx hb dX9_readLetters_38 rfl ?_
        refine lv_topi (fun z38 e_z38 => ?_)
        have b_ := zi2bB (x := r35_) e_z38
        have hq9 : 0 ≤ x1.toInt → x1.toInt ≤ 600 → zIn f1 (v0 2).toInt (x1.toInt + (u7_ 0).toInt) ∧ z38.toInt = zSml (f1 (x1.toInt + (u7_ 0).toInt).toNat).toInt := fun p0_ p1_ => by
          have b16 := zadd rfl rfl e_z16 (by omega) (by omega)
          have hin := hX17_2 (by omega)
          have e31 : z31 = z16 := e_z31.trans e_z16.symm
          have h32 := hX32_0 (by rw [e31]; exact ⟨hin.1, hin.2.1⟩)
          rw [e31] at h32
          have h33 : r32_.toInt = (f1 z16.toInt.toNat).toInt := h32.trans (zand8 hin.2.2)
          have hv := zSml_v hin.2.2
          have h35 : r35_.toInt = zSml (f1 z16.toInt.toNat).toInt := by rw [hX35_0, h33]
          have h38 := zi2b rfl e_z38 (by unfold zVl at hv; omega) (by unfold zVl at hv; omega)
          rw [← b16]
          exact ⟨hin, by rw [h38, h35]⟩
        refine va_bast hx hb hK hP hD hS 2 1 rfl rfl (zin_lit ⟨by omega, by omega⟩) dX9_readLetters_39 (fun H locs hP hD hS => ?_)
        obtain ⟨f_39, e_f_39⟩ : ∃ z : Nat → Int32, z = upd (a7_ 0) ((u7_ 0) : Int32).toNatClampNeg (vp_nar .byte z38) := ⟨_, rfl⟩
        have hP : va_P (dC, dI) vwCl [(h0, .inr (9, mX9 h1 h2 (upd v0 3 (u7_ 1)))), (h1, zi k1 600 f1), (h2, zi k2 12 f_39)] H := by rw [e_f_39]; exact hP
        have hD : va_D A [(h0, .inr (9, mX9 h1 h2 (upd v0 3 (u7_ 1)))), (h1, zi k1 600 f1), (h2, zi k2 12 f_39)] := by rw [e_f_39]; exact hD
        refine lv_aload_n hx hb dX9_readLetters_40 rfl (lv_at hl 0 rfl) ?_
        refine lv_iload_n hx hb dX9_readLetters_41 rfl (lv_at hl 2 rfl) ?_
        refine lv_iconst (v := 1) hx hb dX9_readLetters_42 (by decide) ?_
        refine lv_iadd hx hb dX9_readLetters_43 ?_
        refine lv_topi (fun z43 e_z43 => ?_)
        have b_ := zadd rfl zk_1 e_z43 (by omega) (by omega)
        refine va_put (D := (dC, dI)) (ci := 9) (v := .int z43) (ty := .int) (C := RX9) (T := TX9) (N := 4) hx hb hG zuX9 tyX9 tyX9_ok nmX9 hown hK hP hD hS 0 rfl rfl 3 (by decide) (hG _ zv172) (fun _ h9 => h9) rfl (by decide +kernel) rfl rfl (Nat.le_of_ble_eq_true rfl) dX9_readLetters_44 (fun H locs hP hD hS => ?_)
        have hP : va_P (dC, dI) vwCl [(h0, .inr (9, mX9 h1 h2 (upd v0 3 z43))), (h1, zi k1 600 f1), (h2, zi k2 12 f_39)] H := hP
        have hD : va_D A [(h0, .inr (9, mX9 h1 h2 (upd v0 3 z43))), (h1, zi k1 600 f1), (h2, zi k2 12 f_39)] := hD
        obtain ⟨z47, e_z47⟩ : ∃ z : Int32, z = (u7_ 0) + Int32.ofInt 1 := ⟨_, rfl⟩
        have b_ := zadd (x := (u7_ 0)) (y := Int32.ofInt 1) rfl (show (Int32.ofInt 1).toInt = 1 from by decide) e_z47 (by omega) (by omega)
        refine lv_iinc (v := z47) (lv' := [(2, .int z47), (0, .ref h0), (1, .int x1)]) hx hb dX9_readLetters_47 hl (k := 2) rfl e_z47.symm (by decide) rfl (fun ls hl => ?_)
        refine lv_goto (tgt := 7) hx hb dX9_readLetters_50 (by decide) ?_
        have hc : va_P (dC, dI) vwCl [(h0, .inr (9, mX9 h1 h2 (upd v0 3 z43))), (h1, zi k1 600 f1), (h2, zi k2 12 f_39)] H ∧ va_D A [(h0, .inr (9, mX9 h1 h2 (upd v0 3 z43))), (h1, zi k1 600 f1), (h2, zi k2 12 f_39)] ∧ va_S A s.heap H locs ∧ lv_has ls 3 [(0, .ref h0), (1, .int x1), (2, .int z47)] ∧ (0 ≤ z47.toInt ∧ z47.toInt ≤ 12) ∧ (0 ≤ z43.toInt ∧ z43.toInt ≤ 12) ∧ (z43.toInt = z47.toInt) ∧ (0 ≤ x1.toInt → x1.toInt ≤ 600 → zRl f1 (v0 2).toInt x1.toInt f_39 z47.toInt) := ⟨hP, hD, hS, lv_sub hl [1, 2, 0] rfl, (by first | with_reducible assumption | exact ⟨by omega, by omega⟩), (by first | with_reducible assumption | exact ⟨by omega, by omega⟩), by omega, by first | exact fun _ _ => zRl_0 (by omega) | (intro p0_ p1_; rw [e_f_39]; exact zRl_s (hI7_1 p0_ p1_) p0_ (by omega) (zclamp (by omega)) (hq9 p0_ p1_) (by omega))⟩
        exact hJ7 H locs ls (fun i => ([z47, z43] : List (Int32)).getD i 0) (fun _ => 0) (fun i => ([f_39] : List (Nat → Int32)).getD i (fun _ => 0)) (fun _ => (fun _ => 0)) hc (show (12 - z47.toInt).toNat < (12 - (u7_ 0).toInt).toNat from by omega)
  · skip
    have b_ : -2147483648 ≤ x1.toInt ∧ x1.toInt ≤ 2147483647 := ⟨zlo _, zhi _⟩
    have hc : va_P (dC, dI) vwCl [(h0, .inr (9, mX9 h1 h2 (upd v0 3 0))), (h1, zi k1 600 f1), (h2, zi k2 12 f2)] H ∧ va_D A [(h0, .inr (9, mX9 h1 h2 (upd v0 3 0))), (h1, zi k1 600 f1), (h2, zi k2 12 f2)] ∧ va_S A s.heap H locs ∧ lv_has ls 3 [(0, .ref h0), (1, .int x1), (2, .int 0)] ∧ (0 ≤ (0 : Int32).toInt ∧ (0 : Int32).toInt ≤ 12) ∧ (0 ≤ (0 : Int32).toInt ∧ (0 : Int32).toInt ≤ 12) ∧ ((0 : Int32).toInt = (0 : Int32).toInt) ∧ (0 ≤ x1.toInt → x1.toInt ≤ 600 → zRl f1 (v0 2).toInt x1.toInt f2 (0 : Int32).toInt) := ⟨hP, hD, hS, lv_sub hl [1, 2, 0] rfl, (by first | with_reducible assumption | exact ⟨by omega, by omega⟩), (by first | with_reducible assumption | exact ⟨by omega, by omega⟩), by omega, by first | exact fun _ _ => zRl_0 (by omega) | (intro p0_ p1_; rw [e_f_39]; exact zRl_s (hI7_1 p0_ p1_) p0_ (by omega) (zclamp (by omega)) (hq9 p0_ p1_) (by omega))⟩
    exact hJ7 H locs ls (fun i => ([0, 0] : List (Int32)).getD i 0) (fun _ => 0) (fun i => ([f2] : List (Nat → Int32)).getD i (fun _ => 0)) (fun _ => (fun _ => 0)) hc
set_option maxHeartbeats 8000000 in
set_option maxRecDepth 100000 in
theorem sX9_hasDigit_0 (l : Launch) (dC : Nat → ClassId) (dI : Nat → Nat → Nat) (adK adV : Nat → Nat) (h0 : Nat) (h2 : Nat) (h1 : Nat) (k2 : ClassId) (sz : Nat) (v0 : Nat → Int32) (f2 : Nat → Int32) (hv0 : zR rg_Tape v0) : Met l yX9_hasDigit (zw yX9_hasDigit cX9_hasDigit 2 (some .boolean)) { frames := 0, cells := 0, slots := 0, locals := 0 } (zPc dC dI adK adV [.ref h0] sz [(h0, .inr (9, mX9 h1 h2 v0)), (h2, zi k2 12 f2)] [(k2, .byte)]) (va_Qi (fun (r : Int32) (u : Nat → Int32) => (0 ≤ r.toInt ∧ r.toInt ≤ 1) ∧ (r.toInt = 1 → zhd (fun k => (f2 k).toInt) ((v0 3).toInt).toNat = true) ∧ (r.toInt = 0 → zhd (fun k => (f2 k).toInt) ((v0 3).toInt).toNat = false)) (fun (u : Nat → Int32) (t : State) => ∃ (ww : Nat → Int64) (aa : Nat → Nat → Int32) (bb : Nat → Nat → Int64), va_P (dC, dI) vwCl [(h0, .inr (9, mX9 h1 h2 v0)), (h2, zi k2 12 f2)] t.heap ∧ va_K (dC, dI) vwCl [(k2, .byte)] t ∧ va_D (va_A [(h0, .inr (9, mX9 h1 h2 v0)), (h2, zi k2 12 f2)] sz) [(h0, .inr (9, mX9 h1 h2 v0)), (h2, zi k2 12 f2)]) (va_A [(h0, .inr (9, mX9 h1 h2 v0)), (h2, zi k2 12 f2)] sz)) 0 0 (va_A [(h0, .inr (9, mX9 h1 h2 v0)), (h2, zi k2 12 f2)] sz) := by
  refine Met.ofW (cc := cX9_hasDigit) (maxL := 2) (ret := (some .boolean)) (by decide) rfl ?_
  intro p e s m args below meth c s₁ B hml hv
  obtain ⟨rfl, hsz, hP, hK, hD0, hE, hZ⟩ := hv
  have hx := B.exec
  have hb := B.bytes
  have hr := B.returns
  have hG : ∀ w ∈ zG, w.before _ s = true := fun w h => atoms_spec (ws := (zw yX9_hasDigit cX9_hasDigit 2 (some .boolean))) B.pre w (List.mem_cons_of_mem _ h)
  have hown : s.vm.findClass RX9 = some m.cls := findClass_of_methodNamed B.named
  have hlocks := B.notSynchronized

  subst hsz
  have hD := hD0.self (sz := s.heap.size)
  generalize hAe : va_A [(h0, .inr (9, mX9 h1 h2 v0)), (h2, zi k2 12 f2)] s.heap.size = A at hD hZ ⊢
  have hA : ∀ q : Nat, s.heap.size ≤ q → A q := fun q h => by rw [← hAe]; exact Or.inr h
  have hS : va_S A s.heap s.heap [] := va_S.rf
  have hl := lv_entry ([.ref h0]) (n := 2) (Nat.le_of_ble_eq_true rfl)
  rw [lg_entry_eq]
  generalize (lg_sl ([.ref h0]) ++ List.replicate (2 - (lg_sl ([.ref h0])).length) Slot.unset).toArray = ls at hl ⊢
  have hl : lv_has ls 2 [(0, .ref h0)] := hl
  have b_ := zk_0
  have b_ := zk_1
  have b_ : 0 ≤ (v0 3).toInt ∧ (v0 3).toInt ≤ 12 := hv0 3
  refine lv_iconst (v := 0) hx hb dX9_hasDigit_0 (by decide) ?_
  refine lv_istore_n (lv' := [(1, .int 0), (0, .ref h0)]) hx hb dX9_hasDigit_1 rfl hl (by decide) rfl (fun ls hl => ?_)
  refine zcutL (fun u2_ => (12 - (u2_ 0).toInt).toNat) (fun H locs ls u2_ w2_ a2_ b2_ => va_P (dC, dI) vwCl [(h0, .inr (9, mX9 h1 h2 v0)), (h2, zi k2 12 f2)] H ∧ va_D A [(h0, .inr (9, mX9 h1 h2 v0)), (h2, zi k2 12 f2)] ∧ va_S A s.heap H locs ∧ lv_has ls 2 [(0, .ref h0), (1, .int (u2_ 0))] ∧ (0 ≤ (u2_ 0).toInt ∧ (u2_ 0).toInt ≤ 12) ∧ ((u2_ 0).toInt ≤ (v0 3).toInt) ∧ (zhd (fun k => (f2 k).toInt) ((u2_ 0).toInt).toNat = false)) (fun ls u2_ w2_ => F0 m 2 ls []) 0 0 ?_ (fun hJ2 => ?_)
  · skip
    intro H locs ls u2_ w2_ a2_ b2_ hc hJ2
    obtain ⟨hP, hD, hS, hl, b_, b_, hI2_1⟩ := hc
    refine lv_iload_n hx hb dX9_hasDigit_2 rfl (lv_at hl 1 rfl) ?_
    refine lv_aload_n hx hb dX9_hasDigit_3 rfl (lv_at hl 0 rfl) ?_
    refine va_get (D := (dC, dI)) (ci := 9) (v := .int (v0 3)) (C := RX9) (T := TX9) (N := 4) hx hb hG zuX9 hown hK hP 0 rfl rfl 3 (by decide) (hG _ zv172) (fun _ h9 => h9) rfl dX9_hasDigit_4 ?_
    refine lv_icmp_ge (tgt := 29) hx hb dX9_hasDigit_7 (by decide) (fun c_ => ?_) (fun c_ => ?_)
    · skip
      have b_ := zT_ge rfl rfl c_
      refine lv_iconst (v := 0) hx hb dX9_hasDigit_29 (by decide) ?_
      refine W.widen (k := 0) (n := 0) (by decide) (by decide) ?_
      have hpost : (0 ≤ (0 : Int32).toInt ∧ (0 : Int32).toInt ≤ 1) ∧ ((0 : Int32).toInt = 1 → zhd (fun k => (f2 k).toInt) ((v0 3).toInt).toNat = true) ∧ ((0 : Int32).toInt = 0 → zhd (fun k => (f2 k).toInt) ((v0 3).toInt).toNat = false) := ⟨(by first | with_reducible assumption | exact ⟨by omega, by omega⟩), by first | (intro q; exact absurd q (by decide)) | exact fun _ => zhd_t e_z15 (by omega) (by omega) (by omega), by first | (intro q; exact absurd q (by decide)) | exact fun _ => zhd_e hI2_1 (by omega)⟩
      have hP9 : va_P (dC, dI) vwCl [(h0, .inr (9, mX9 h1 h2 v0)), (h2, zi k2 12 f2)] H := hP
      have hD9 : va_D A [(h0, .inr (9, mX9 h1 h2 v0)), (h2, zi k2 12 f2)] := hD
      exact W.zret (v := 0) hx hb hr rfl (fun t ht hW => ⟨⟨0, (fun _ => 0), rfl, hpost, (fun _ => 0), (fun _ => (fun _ => 0)), (fun _ => (fun _ => 0)), by rw [ht]; exact hP9, va_K.moved hW.alike hK, hD9⟩, hS.F ht⟩) hS.2.2 dX9_hasDigit_30
    · skip
      have b_ := zF_ge rfl rfl c_
      refine lv_aload_n hx hb dX9_hasDigit_10 rfl (lv_at hl 0 rfl) ?_
      refine va_get (D := (dC, dI)) (ci := 9) (v := .ref h2) (C := RX9) (T := TX9) (N := 4) hx hb hG zuX9 hown hK hP 0 rfl rfl 1 (by decide) (hG _ zv170) (fun _ h9 => h9) rfl dX9_hasDigit_11 ?_
      refine lv_iload_n hx hb dX9_hasDigit_14 rfl (lv_at hl 1 rfl) ?_
      refine va_bald hx hb hK hP 1 0 rfl rfl (zin_lit ⟨by omega, by omega⟩) dX9_hasDigit_15 ?_
      refine lv_topi (fun z15 e_z15 => ?_)
      refine lv_bipush (v := 57) hx hb dX9_hasDigit_16 (by decide) ?_
      have b_ : -2147483648 ≤ z15.toInt ∧ z15.toInt ≤ 2147483647 := ⟨zlo _, zhi _⟩
      refine lv_icmp_gt (tgt := 23) hx hb dX9_hasDigit_18 (by decide) (fun c_ => ?_) (fun c_ => ?_)
      · skip
        have b_ := zT_gt rfl zk_57 c_
        obtain ⟨z23, e_z23⟩ : ∃ z : Int32, z = (u2_ 0) + Int32.ofInt 1 := ⟨_, rfl⟩
        have b_ := zadd (x := (u2_ 0)) (y := Int32.ofInt 1) rfl (show (Int32.ofInt 1).toInt = 1 from by decide) e_z23 (by omega) (by omega)
        refine lv_iinc (v := z23) (lv' := [(1, .int z23), (0, .ref h0)]) hx hb dX9_hasDigit_23 hl (k := 1) rfl e_z23.symm (by decide) rfl (fun ls hl => ?_)
        refine lv_goto (tgt := 2) hx hb dX9_hasDigit_26 (by decide) ?_
        have hc : va_P (dC, dI) vwCl [(h0, .inr (9, mX9 h1 h2 v0)), (h2, zi k2 12 f2)] H ∧ va_D A [(h0, .inr (9, mX9 h1 h2 v0)), (h2, zi k2 12 f2)] ∧ va_S A s.heap H locs ∧ lv_has ls 2 [(0, .ref h0), (1, .int z23)] ∧ (0 ≤ z23.toInt ∧ z23.toInt ≤ 12) ∧ (z23.toInt ≤ (v0 3).toInt) ∧ (zhd (fun k => (f2 k).toInt) (z23.toInt).toNat = false) := ⟨hP, hD, hS, lv_sub hl [1, 0] rfl, (by first | with_reducible assumption | exact ⟨by omega, by omega⟩), by omega, by first | exact zhd_0 (by omega) | exact zhd_s (by assumption) e_z15 (by omega) (by omega) (by omega)⟩
        exact hJ2 H locs ls (fun i => ([z23] : List (Int32)).getD i 0) (fun _ => 0) (fun _ => (fun _ => 0)) (fun _ => (fun _ => 0)) hc (show (12 - z23.toInt).toNat < (12 - (u2_ 0).toInt).toNat from by omega)
      · skip
        have b_ := zF_gt rfl zk_57 c_
        refine lv_iconst (v := 1) hx hb dX9_hasDigit_21 (by decide) ?_
        refine W.widen (k := 0) (n := 0) (by decide) (by decide) ?_
        have hpost : (0 ≤ (1 : Int32).toInt ∧ (1 : Int32).toInt ≤ 1) ∧ ((1 : Int32).toInt = 1 → zhd (fun k => (f2 k).toInt) ((v0 3).toInt).toNat = true) ∧ ((1 : Int32).toInt = 0 → zhd (fun k => (f2 k).toInt) ((v0 3).toInt).toNat = false) := ⟨(by first | with_reducible assumption | exact ⟨by omega, by omega⟩), by first | (intro q; exact absurd q (by decide)) | exact fun _ => zhd_t e_z15 (by omega) (by omega) (by omega), by first | (intro q; exact absurd q (by decide)) | exact fun _ => zhd_e hI2_1 (by omega)⟩
        have hP9 : va_P (dC, dI) vwCl [(h0, .inr (9, mX9 h1 h2 v0)), (h2, zi k2 12 f2)] H := hP
        have hD9 : va_D A [(h0, .inr (9, mX9 h1 h2 v0)), (h2, zi k2 12 f2)] := hD
        exact W.zret (v := 1) hx hb hr rfl (fun t ht hW => ⟨⟨1, (fun _ => 0), rfl, hpost, (fun _ => 0), (fun _ => (fun _ => 0)), (fun _ => (fun _ => 0)), by rw [ht]; exact hP9, va_K.moved hW.alike hK, hD9⟩, hS.F ht⟩) hS.2.2 dX9_hasDigit_22
  · skip
    have hc : va_P (dC, dI) vwCl [(h0, .inr (9, mX9 h1 h2 v0)), (h2, zi k2 12 f2)] s.heap ∧ va_D A [(h0, .inr (9, mX9 h1 h2 v0)), (h2, zi k2 12 f2)] ∧ va_S A s.heap s.heap [] ∧ lv_has ls 2 [(0, .ref h0), (1, .int 0)] ∧ (0 ≤ (0 : Int32).toInt ∧ (0 : Int32).toInt ≤ 12) ∧ ((0 : Int32).toInt ≤ (v0 3).toInt) ∧ (zhd (fun k => (f2 k).toInt) ((0 : Int32).toInt).toNat = false) := ⟨hP, hD, hS, lv_sub hl [1, 0] rfl, (by first | with_reducible assumption | exact ⟨by omega, by omega⟩), by omega, by first | exact zhd_0 (by omega) | exact zhd_s (by assumption) e_z15 (by omega) (by omega) (by omega)⟩
    exact hJ2 s.heap [] ls (fun i => ([0] : List (Int32)).getD i 0) (fun _ => 0) (fun _ => (fun _ => 0)) (fun _ => (fun _ => 0)) hc
theorem zv2258 : (.fieldLink RJ0 15 "java/lang/String" "coder" "B" : Cond) ∈ zG := zin9 210 (by decide +kernel) (by decide +kernel)
set_option maxHeartbeats 8000000 in
set_option maxRecDepth 100000 in
theorem sJ0_coder_7d493_0 (l : Launch) (dC : Nat → ClassId) (dI : Nat → Nat → Nat) (adK adV : Nat → Nat) (sz : Nat) : Met l yJ0_coder_7d493 (zw yJ0_coder_7d493 cJ0_coder_7d493 1 (some .byte)) { frames := 0, cells := 0, slots := 0, locals := 0 } (zPc dC dI adK adV [.ref (adK 3)] sz [] []) (va_Qi (fun (r : Int32) (u : Nat → Int32) => (0 ≤ r.toInt ∧ r.toInt ≤ 0)) (fun (u : Nat → Int32) (t : State) => ∃ (ww : Nat → Int64) (aa : Nat → Nat → Int32) (bb : Nat → Nat → Int64), va_P (dC, dI) vwCl [] t.heap ∧ va_K (dC, dI) vwCl [] t ∧ va_D (va_A [] sz) []) (va_A [] sz)) 0 0 (va_A [] sz) := by
  refine Met.ofW (cc := cJ0_coder_7d493) (maxL := 1) (ret := (some .byte)) (by decide) rfl ?_
  intro p e s m args below meth c s₁ B hml hv
  obtain ⟨rfl, hsz, hP, hK, hD0, hE, hZ⟩ := hv
  have hx := B.exec
  have hb := B.bytes
  have hr := B.returns
  have hG : ∀ w ∈ zG, w.before _ s = true := fun w h => atoms_spec (ws := (zw yJ0_coder_7d493 cJ0_coder_7d493 1 (some .byte))) B.pre w (List.mem_cons_of_mem _ h)
  have hown : s.vm.findClass RJ0 = some m.cls := findClass_of_methodNamed B.named
  have hlocks := B.notSynchronized

  subst hsz
  have hD := hD0.self (sz := s.heap.size)
  generalize hAe : va_A [] s.heap.size = A at hD hZ ⊢
  have hA : ∀ q : Nat, s.heap.size ≤ q → A q := fun q h => by rw [← hAe]; exact Or.inr h
  have hS : va_S A s.heap s.heap [] := va_S.rf
  have hl := lv_entry ([.ref (adK 3)]) (n := 1) (Nat.le_of_ble_eq_true rfl)
  rw [lg_entry_eq]
  generalize (lg_sl ([.ref (adK 3)]) ++ List.replicate (1 - (lg_sl ([.ref (adK 3)])).length) Slot.unset).toArray = ls at hl ⊢
  have hl : lv_has ls 1 [(0, .ref (adK 3))] := hl
  have b_ := zk_0
  refine va_gets hx hb hZ.2.2.1 hS hown (hG _ zv685) (fun _ h => h) dJ0_coder_7d493_0 ?_
  refine lv_if_eq (tgt := 13) hx hb dJ0_coder_7d493_3 (by decide) (fun c_ => absurd c_ (by decide)) (fun c_ => ?_)
  refine lv_aload_n hx hb dJ0_coder_7d493_6 rfl (lv_at hl 0 rfl) ?_
  refine vk_getf hx hb (hZ.2.2.2.1.1 3 (by decide)).2.1 hS hown (hG _ zv2258) (fun _ h => h) dJ0_coder_7d493_7 ?_
  refine lv_goto (tgt := 14) hx hb dJ0_coder_7d493_10 (by decide) ?_
  refine W.widen (k := 0) (n := 0) (by decide) (by decide) ?_
  have hpost : (0 ≤ (0 : Int32).toInt ∧ (0 : Int32).toInt ≤ 0) := (by first | with_reducible assumption | exact ⟨by omega, by omega⟩)
  have hP9 : va_P (dC, dI) vwCl [] s.heap := hP
  have hD9 : va_D A [] := hD
  exact W.zret (v := 0) hx hb hr rfl (fun t ht hW => ⟨⟨0, (fun _ => 0), rfl, hpost, (fun _ => 0), (fun _ => (fun _ => 0)), (fun _ => (fun _ => 0)), by rw [ht]; exact hP9, va_K.moved hW.alike hK, hD9⟩, hS.F ht⟩) hS.2.2 dJ0_coder_7d493_14
theorem zv2257 : (.fieldLink RJ0 9 "java/lang/String" "value" "[B" : Cond) ∈ zG := zin9 209 (by decide +kernel) (by decide +kernel)
set_option maxHeartbeats 8000000 in
set_option maxRecDepth 100000 in
theorem sJ0_length_8abf5_0 (l : Launch) (dC : Nat → ClassId) (dI : Nat → Nat → Nat) (adK adV : Nat → Nat) (sz : Nat) : Met l yJ0_length_8abf5 (zw yJ0_length_8abf5 cJ0_length_8abf5 1 (some .int)) { frames := 1, cells := 0, slots := 0, locals := 20 } (zPc dC dI adK adV [.ref (adK 3)] sz [] []) (va_Qi (fun (r : Int32) (u : Nat → Int32) => (1 ≤ r.toInt ∧ r.toInt ≤ 1)) (fun (u : Nat → Int32) (t : State) => ∃ (ww : Nat → Int64) (aa : Nat → Nat → Int32) (bb : Nat → Nat → Int64), va_P (dC, dI) vwCl [] t.heap ∧ va_K (dC, dI) vwCl [] t ∧ va_D (va_A [] sz) []) (va_A [] sz)) 0 0 (va_A [] sz) := by
  refine Met.ofW (cc := cJ0_length_8abf5) (maxL := 1) (ret := (some .int)) (by decide) rfl ?_
  intro p e s m args below meth c s₁ B hml hv
  obtain ⟨rfl, hsz, hP, hK, hD0, hE, hZ⟩ := hv
  have hx := B.exec
  have hb := B.bytes
  have hr := B.returns
  have hG : ∀ w ∈ zG, w.before _ s = true := fun w h => atoms_spec (ws := (zw yJ0_length_8abf5 cJ0_length_8abf5 1 (some .int))) B.pre w (List.mem_cons_of_mem _ h)
  have hown : s.vm.findClass RJ0 = some m.cls := findClass_of_methodNamed B.named
  have hlocks := B.notSynchronized

  subst hsz
  have hD := hD0.self (sz := s.heap.size)
  generalize hAe : va_A [] s.heap.size = A at hD hZ ⊢
  have hA : ∀ q : Nat, s.heap.size ≤ q → A q := fun q h => by rw [← hAe]; exact Or.inr h
  have hS : va_S A s.heap s.heap [] := va_S.rf
  have hl := lv_entry ([.ref (adK 3)]) (n := 1) (Nat.le_of_ble_eq_true rfl)
  rw [lg_entry_eq]
  generalize (lg_sl ([.ref (adK 3)]) ++ List.replicate (1 - (lg_sl ([.ref (adK 3)])).length) Slot.unset).toArray = ls at hl ⊢
  have hl : lv_has ls 1 [(0, .ref (adK 3))] := hl
  have b_ := zk_1
  refine lv_aload_n hx hb dJ0_length_8abf5_0 rfl (lv_at hl 0 rfl) ?_
  refine vk_getf hx hb (hZ.2.2.2.1.1 3 (by decide)).2.2.1 hS hown (hG _ zv2257) (fun _ h => h) dJ0_length_8abf5_1 ?_
  refine va_tlen (v := 1) hx hb (hZ.2.2.2.1.1 3 (by decide)).2.2.2 hS (by decide) dJ0_length_8abf5_4 ?_
  refine lv_aload_n hx hb dJ0_length_8abf5_5 rfl (lv_at hl 0 rfl) ?_
  have hPc := hP.sub (ws' := []) [] rfl
  have hDc := hD.sub (ws' := []) [] (by decide) rfl
  have hKc := hK.sub (tys' := []) [] rfl
  have hFc := va_free (wc := []) hD hS hA [] rfl
  refine va_calli (va_runV (As := []) (rest := [.int 1]) ⟨hx, hb, hml, hown, hG⟩ (sJ0_coder_7d493_0 l dC dI adK adV s.heap.size) (cwV 0 hG (zgV zv681 zv682 zv683 zv146 zv684) rfl rfl rfl (by decide +kernel) ⟨Nat.le_of_ble_eq_true rfl, Nat.le_of_ble_eq_true rfl⟩) ⟨zPc_blind, vk_recv hZ.2.2.2.1 (i := 3) (by decide) hS, zPc_pre hPc hKc hDc hE hS hFc hZ⟩ rfl rfl hl.1 rfl (lv_room (Nat.le_of_ble_eq_true rfl)) dJ0_length_8abf5_6 ⟨Nat.le_of_ble_eq_true rfl, Nat.le_of_ble_eq_true rfl⟩) hS (fun q _ h => hFc q h) hFc (fun r6_ u6_ t H1 locs ht hvm hw hB hz1 hk1 hS => ?_)
  replace hw : (0 ≤ r6_.toInt ∧ r6_.toInt ≤ 0) := hw
  have b_ := hw
  obtain rfl : r6_ = (0 : Int32) := zeqi.mpr ((show r6_.toInt = 0 from by omega).trans zk_0.symm)
  obtain ⟨w6_, a6_, b6_, hP1, hK1, hD1⟩ := hB
  rw [ht] at hP1
  obtain ⟨hP, hD⟩ := va_join (wr := []) (w1 := []) hP hD [] [] rfl rfl (by decide) (by decide) hk1 hFc hP1 hD1
  have hP : va_P (dC, dI) vwCl [] H1 := hP.sub [] rfl
  have hD : va_D A [] := hD.sub [] (by decide) rfl
  generalize H1 = H at hP hS ⊢
  clear hz1
  refine lv_ishr hx hb dJ0_length_8abf5_9 ?_
  refine lv_topi (fun z9 e_z9 => ?_)
  obtain rfl : z9 = (1 : Int32) := e_z9.trans (by decide)
  refine W.widen (k := 0) (n := 0) (by decide) (by decide) ?_
  have hpost : (1 ≤ (1 : Int32).toInt ∧ (1 : Int32).toInt ≤ 1) := (by first | with_reducible assumption | exact ⟨by omega, by omega⟩)
  have hP9 : va_P (dC, dI) vwCl [] H := hP
  have hD9 : va_D A [] := hD
  exact W.iret (v := 1) hx hb hr (fun t ht hW => ⟨⟨1, (fun _ => 0), rfl, hpost, (fun _ => 0), (fun _ => (fun _ => 0)), (fun _ => (fun _ => 0)), by rw [ht]; exact hP9, va_K.moved hW.alike hK, hD9⟩, hS.F ht⟩) hS.2.2 dJ0_length_8abf5_10
set_option maxHeartbeats 8000000 in
set_option maxRecDepth 100000 in
theorem sJ0_isLatin1_aae02_0 (l : Launch) (dC : Nat → ClassId) (dI : Nat → Nat → Nat) (adK adV : Nat → Nat) (sz : Nat) : Met l yJ0_isLatin1_aae02 (zw yJ0_isLatin1_aae02 cJ0_isLatin1_aae02 1 (some .boolean)) { frames := 0, cells := 0, slots := 0, locals := 0 } (zPc dC dI adK adV [.ref (adK 3)] sz [] []) (va_Qi (fun (r : Int32) (u : Nat → Int32) => (1 ≤ r.toInt ∧ r.toInt ≤ 1)) (fun (u : Nat → Int32) (t : State) => ∃ (ww : Nat → Int64) (aa : Nat → Nat → Int32) (bb : Nat → Nat → Int64), va_P (dC, dI) vwCl [] t.heap ∧ va_K (dC, dI) vwCl [] t ∧ va_D (va_A [] sz) []) (va_A [] sz)) 0 0 (va_A [] sz) := by
  refine Met.ofW (cc := cJ0_isLatin1_aae02) (maxL := 1) (ret := (some .boolean)) (by decide) rfl ?_
  intro p e s m args below meth c s₁ B hml hv
  obtain ⟨rfl, hsz, hP, hK, hD0, hE, hZ⟩ := hv
  have hx := B.exec
  have hb := B.bytes
  have hr := B.returns
  have hG : ∀ w ∈ zG, w.before _ s = true := fun w h => atoms_spec (ws := (zw yJ0_isLatin1_aae02 cJ0_isLatin1_aae02 1 (some .boolean))) B.pre w (List.mem_cons_of_mem _ h)
  have hown : s.vm.findClass RJ0 = some m.cls := findClass_of_methodNamed B.named
  have hlocks := B.notSynchronized

  subst hsz
  have hD := hD0.self (sz := s.heap.size)
  generalize hAe : va_A [] s.heap.size = A at hD hZ ⊢
  have hA : ∀ q : Nat, s.heap.size ≤ q → A q := fun q h => by rw [← hAe]; exact Or.inr h
  have hS : va_S A s.heap s.heap [] := va_S.rf
  have hl := lv_entry ([.ref (adK 3)]) (n := 1) (Nat.le_of_ble_eq_true rfl)
  rw [lg_entry_eq]
  generalize (lg_sl ([.ref (adK 3)]) ++ List.replicate (1 - (lg_sl ([.ref (adK 3)])).length) Slot.unset).toArray = ls at hl ⊢
  have hl : lv_has ls 1 [(0, .ref (adK 3))] := hl
  have b_ := zk_1
  refine va_gets hx hb hZ.2.2.1 hS hown (hG _ zv685) (fun _ h => h) dJ0_isLatin1_aae02_0 ?_
  refine lv_if_eq (tgt := 17) hx hb dJ0_isLatin1_aae02_3 (by decide) (fun c_ => absurd c_ (by decide)) (fun c_ => ?_)
  refine lv_aload_n hx hb dJ0_isLatin1_aae02_6 rfl (lv_at hl 0 rfl) ?_
  refine vk_getf hx hb (hZ.2.2.2.1.1 3 (by decide)).2.1 hS hown (hG _ zv2258) (fun _ h => h) dJ0_isLatin1_aae02_7 ?_
  refine lv_if_ne (tgt := 17) hx hb dJ0_isLatin1_aae02_10 (by decide) (fun c_ => absurd c_ (by decide)) (fun c_ => ?_)
  refine lv_iconst (v := 1) hx hb dJ0_isLatin1_aae02_13 (by decide) ?_
  refine lv_goto (tgt := 18) hx hb dJ0_isLatin1_aae02_14 (by decide) ?_
  refine W.widen (k := 0) (n := 0) (by decide) (by decide) ?_
  have hpost : (1 ≤ (1 : Int32).toInt ∧ (1 : Int32).toInt ≤ 1) := (by first | with_reducible assumption | exact ⟨by omega, by omega⟩)
  have hP9 : va_P (dC, dI) vwCl [] s.heap := hP
  have hD9 : va_D A [] := hD
  exact W.zret (v := 1) hx hb hr rfl (fun t ht hW => ⟨⟨1, (fun _ => 0), rfl, hpost, (fun _ => 0), (fun _ => (fun _ => 0)), (fun _ => (fun _ => 0)), by rw [ht]; exact hP9, va_K.moved hW.alike hK, hD9⟩, hS.F ht⟩) hS.2.2 dJ0_isLatin1_aae02_18
set_option maxHeartbeats 8000000 in
set_option maxRecDepth 100000 in
theorem sJ3_checkIndex_8e157_0 (l : Launch) (dC : Nat → ClassId) (dI : Nat → Nat → Nat) (adK adV : Nat → Nat) (sz : Nat) (x0 : Int32) (x1 : Int32) (hx0 : 0 ≤ x0.toInt ∧ x0.toInt ≤ 4) (hx1 : 1 ≤ x1.toInt ∧ x1.toInt ≤ 5) (hp0_ : x0.toInt < x1.toInt) : Met l yJ3_checkIndex_8e157 (zw yJ3_checkIndex_8e157 cJ3_checkIndex_8e157 3 (some .int)) { frames := 0, cells := 0, slots := 0, locals := 0 } (zPc dC dI adK adV [.int x0, .int x1, .null] sz [] []) (va_Qi (fun (r : Int32) (u : Nat → Int32) => (0 ≤ r.toInt ∧ r.toInt ≤ 4)) (fun (u : Nat → Int32) (t : State) => ∃ (ww : Nat → Int64) (aa : Nat → Nat → Int32) (bb : Nat → Nat → Int64), va_P (dC, dI) vwCl [] t.heap ∧ va_K (dC, dI) vwCl [] t ∧ va_D (va_A [] sz) []) (va_A [] sz)) 0 0 (va_A [] sz) := by
  refine Met.ofW (cc := cJ3_checkIndex_8e157) (maxL := 3) (ret := (some .int)) (by decide) rfl ?_
  intro p e s m args below meth c s₁ B hml hv
  obtain ⟨rfl, hsz, hP, hK, hD0, hE, hZ⟩ := hv
  have hx := B.exec
  have hb := B.bytes
  have hr := B.returns
  have hG : ∀ w ∈ zG, w.before _ s = true := fun w h => atoms_spec (ws := (zw yJ3_checkIndex_8e157 cJ3_checkIndex_8e157 3 (some .int))) B.pre w (List.mem_cons_of_mem _ h)
  have hown : s.vm.findClass RJ3 = some m.cls := findClass_of_methodNamed B.named
  have hlocks := B.notSynchronized

  subst hsz
  have hD := hD0.self (sz := s.heap.size)
  generalize hAe : va_A [] s.heap.size = A at hD hZ ⊢
  have hA : ∀ q : Nat, s.heap.size ≤ q → A q := fun q h => by rw [← hAe]; exact Or.inr h
  have hS : va_S A s.heap s.heap [] := va_S.rf
  have hl := lv_entry ([.int x0, .int x1, .null]) (n := 3) (Nat.le_of_ble_eq_true rfl)
  rw [lg_entry_eq]
  generalize (lg_sl ([.int x0, .int x1, .null]) ++ List.replicate (3 - (lg_sl ([.int x0, .int x1, .null])).length) Slot.unset).toArray = ls at hl ⊢
  have hl : lv_has ls 3 [(0, .int x0), (1, .int x1), (2, .null)] := hl
  refine lv_iload_n hx hb dJ3_checkIndex_8e157_0 rfl (lv_at hl 0 rfl) ?_
  refine lv_if_lt (tgt := 9) hx hb dJ3_checkIndex_8e157_1 (by decide) (fun c_ => False.elim (by have b_ := zT_lt rfl zk_0 c_; omega)) (fun c_ => ?_)
  have b_ := zF_lt rfl zk_0 c_
  refine lv_iload_n hx hb dJ3_checkIndex_8e157_4 rfl (lv_at hl 0 rfl) ?_
  refine lv_iload_n hx hb dJ3_checkIndex_8e157_5 rfl (lv_at hl 1 rfl) ?_
  refine lv_icmp_lt (tgt := 16) hx hb dJ3_checkIndex_8e157_6 (by decide) (fun c_ => ?_) (fun c_ => ?_)
  · skip
    have b_ := zT_lt rfl rfl c_
    refine lv_iload_n hx hb dJ3_checkIndex_8e157_16 rfl (lv_at hl 0 rfl) ?_
    refine W.widen (k := 0) (n := 0) (by decide) (by decide) ?_
    have hpost : (0 ≤ x0.toInt ∧ x0.toInt ≤ 4) := (by first | with_reducible assumption | exact ⟨by omega, by omega⟩)
    have hP9 : va_P (dC, dI) vwCl [] s.heap := hP
    have hD9 : va_D A [] := hD
    exact W.iret (v := x0) hx hb hr (fun t ht hW => ⟨⟨x0, (fun _ => 0), rfl, hpost, (fun _ => 0), (fun _ => (fun _ => 0)), (fun _ => (fun _ => 0)), by rw [ht]; exact hP9, va_K.moved hW.alike hK, hD9⟩, hS.F ht⟩) hS.2.2 dJ3_checkIndex_8e157_17
  · skip
    have b_ := zF_lt rfl rfl c_
    exact False.elim (by omega)
set_option maxHeartbeats 8000000 in
set_option maxRecDepth 100000 in
theorem sJ3_checkIndex_8e157_1 (l : Launch) (dC : Nat → ClassId) (dI : Nat → Nat → Nat) (adK adV : Nat → Nat) (sz : Nat) (x0 : Int32) (x1 : Int32) (t2_ : Nat) (hx0 : 0 ≤ x0.toInt ∧ x0.toInt ≤ 4) (hx1 : 1 ≤ x1.toInt ∧ x1.toInt ≤ 5) (hp0_ : x0.toInt < x1.toInt) : Met l yJ3_checkIndex_8e157 (zw yJ3_checkIndex_8e157 cJ3_checkIndex_8e157 3 (some .int)) { frames := 0, cells := 0, slots := 0, locals := 0 } (zPc dC dI adK adV [.int x0, .int x1, .ref t2_] sz [] []) (va_Qi (fun (r : Int32) (u : Nat → Int32) => (0 ≤ r.toInt ∧ r.toInt ≤ 4)) (fun (u : Nat → Int32) (t : State) => ∃ (ww : Nat → Int64) (aa : Nat → Nat → Int32) (bb : Nat → Nat → Int64), va_P (dC, dI) vwCl [] t.heap ∧ va_K (dC, dI) vwCl [] t ∧ va_D (va_A [] sz) []) (va_A [] sz)) 0 0 (va_A [] sz) := by
  refine Met.ofW (cc := cJ3_checkIndex_8e157) (maxL := 3) (ret := (some .int)) (by decide) rfl ?_
  intro p e s m args below meth c s₁ B hml hv
  obtain ⟨rfl, hsz, hP, hK, hD0, hE, hZ⟩ := hv
  have hx := B.exec
  have hb := B.bytes
  have hr := B.returns
  have hG : ∀ w ∈ zG, w.before _ s = true := fun w h => atoms_spec (ws := (zw yJ3_checkIndex_8e157 cJ3_checkIndex_8e157 3 (some .int))) B.pre w (List.mem_cons_of_mem _ h)
  have hown : s.vm.findClass RJ3 = some m.cls := findClass_of_methodNamed B.named
  have hlocks := B.notSynchronized

  subst hsz
  have hD := hD0.self (sz := s.heap.size)
  generalize hAe : va_A [] s.heap.size = A at hD hZ ⊢
  have hA : ∀ q : Nat, s.heap.size ≤ q → A q := fun q h => by rw [← hAe]; exact Or.inr h
  have hS : va_S A s.heap s.heap [] := va_S.rf
  have hl := lv_entry ([.int x0, .int x1, .ref t2_]) (n := 3) (Nat.le_of_ble_eq_true rfl)
  rw [lg_entry_eq]
  generalize (lg_sl ([.int x0, .int x1, .ref t2_]) ++ List.replicate (3 - (lg_sl ([.int x0, .int x1, .ref t2_])).length) Slot.unset).toArray = ls at hl ⊢
  have hl : lv_has ls 3 [(0, .int x0), (1, .int x1), (2, .ref t2_)] := hl
  refine lv_iload_n hx hb dJ3_checkIndex_8e157_0 rfl (lv_at hl 0 rfl) ?_
  refine lv_if_lt (tgt := 9) hx hb dJ3_checkIndex_8e157_1 (by decide) (fun c_ => False.elim (by have b_ := zT_lt rfl zk_0 c_; omega)) (fun c_ => ?_)
  have b_ := zF_lt rfl zk_0 c_
  refine lv_iload_n hx hb dJ3_checkIndex_8e157_4 rfl (lv_at hl 0 rfl) ?_
  refine lv_iload_n hx hb dJ3_checkIndex_8e157_5 rfl (lv_at hl 1 rfl) ?_
  refine lv_icmp_lt (tgt := 16) hx hb dJ3_checkIndex_8e157_6 (by decide) (fun c_ => ?_) (fun c_ => ?_)
  · skip
    have b_ := zT_lt rfl rfl c_
    refine lv_iload_n hx hb dJ3_checkIndex_8e157_16 rfl (lv_at hl 0 rfl) ?_
    refine W.widen (k := 0) (n := 0) (by decide) (by decide) ?_
    have hpost : (0 ≤ x0.toInt ∧ x0.toInt ≤ 4) := (by first | with_reducible assumption | exact ⟨by omega, by omega⟩)
    have hP9 : va_P (dC, dI) vwCl [] s.heap := hP
    have hD9 : va_D A [] := hD
    exact W.iret (v := x0) hx hb hr (fun t ht hW => ⟨⟨x0, (fun _ => 0), rfl, hpost, (fun _ => 0), (fun _ => (fun _ => 0)), (fun _ => (fun _ => 0)), by rw [ht]; exact hP9, va_K.moved hW.alike hK, hD9⟩, hS.F ht⟩) hS.2.2 dJ3_checkIndex_8e157_17
  · skip
    have b_ := zF_lt rfl rfl c_
    exact False.elim (by omega)
set_option maxHeartbeats 8000000 in
set_option maxRecDepth 100000 in
theorem sJ0_checkIndex_df160_0 (l : Launch) (dC : Nat → ClassId) (dI : Nat → Nat → Nat) (adK adV : Nat → Nat) (sz : Nat) (x0 : Int32) (x1 : Int32) (hx0 : 0 ≤ x0.toInt ∧ x0.toInt ≤ 4) (hx1 : 1 ≤ x1.toInt ∧ x1.toInt ≤ 5) (hp0_ : x0.toInt < x1.toInt) : Met l yJ0_checkIndex_df160 (zw yJ0_checkIndex_df160 cJ0_checkIndex_df160 2 none) { frames := 1, cells := 0, slots := 0, locals := 22 } (zPc dC dI adK adV [.int x0, .int x1] sz [] []) (va_Qv (fun (u : Nat → Int32) => True) (fun (u : Nat → Int32) (t : State) => ∃ (ww : Nat → Int64) (aa : Nat → Nat → Int32) (bb : Nat → Nat → Int64), va_P (dC, dI) vwCl [] t.heap ∧ va_K (dC, dI) vwCl [] t ∧ va_D (va_A [] sz) []) (va_A [] sz)) 0 0 (va_A [] sz) := by
  refine Met.ofW (cc := cJ0_checkIndex_df160) (maxL := 2) (ret := none) (by decide) rfl ?_
  intro p e s m args below meth c s₁ B hml hv
  obtain ⟨rfl, hsz, hP, hK, hD0, hE, hZ⟩ := hv
  have hx := B.exec
  have hb := B.bytes
  have hr := B.returns
  have hG : ∀ w ∈ zG, w.before _ s = true := fun w h => atoms_spec (ws := (zw yJ0_checkIndex_df160 cJ0_checkIndex_df160 2 none)) B.pre w (List.mem_cons_of_mem _ h)
  have hown : s.vm.findClass RJ0 = some m.cls := findClass_of_methodNamed B.named
  have hlocks := B.notSynchronized

  subst hsz
  have hD := hD0.self (sz := s.heap.size)
  generalize hAe : va_A [] s.heap.size = A at hD hZ ⊢
  have hA : ∀ q : Nat, s.heap.size ≤ q → A q := fun q h => by rw [← hAe]; exact Or.inr h
  have hS : va_S A s.heap s.heap [] := va_S.rf
  have hl := lv_entry ([.int x0, .int x1]) (n := 2) (Nat.le_of_ble_eq_true rfl)
  rw [lg_entry_eq]
  generalize (lg_sl ([.int x0, .int x1]) ++ List.replicate (2 - (lg_sl ([.int x0, .int x1])).length) Slot.unset).toArray = ls at hl ⊢
  have hl : lv_has ls 2 [(0, .int x0), (1, .int x1)] := hl
  refine lv_iload_n hx hb dJ0_checkIndex_df160_0 rfl (lv_at hl 0 rfl) ?_
  refine lv_iload_n hx hb dJ0_checkIndex_df160_1 rfl (lv_at hl 1 rfl) ?_
  refine va_gets hx hb hZ.2.2.2.2 hS hown (hG _ zv701) (fun _ h => h) dJ0_checkIndex_df160_2 ?_
  rcases hfm : adK 13 with _ | t9
  · skip
    have hzf : zfm adK = .null := by unfold zfm; rw [hfm]
    rw [hzf]
    have hPc := hP.sub (ws' := []) [] rfl
    have hDc := hD.sub (ws' := []) [] (by decide) rfl
    have hKc := hK.sub (tys' := []) [] rfl
    have hFc := va_free (wc := []) hD hS hA [] rfl
    refine va_calli (va_runS (As := [.int x0, .int x1, .null]) (rest := []) ⟨hx, hb, hml, hown, hG⟩ (sJ3_checkIndex_8e157_0 l dC dI adK adV s.heap.size x0 x1 (show (0 : Int) ≤ (x0 : Int32).toInt ∧ (x0 : Int32).toInt ≤ (4 : Int) from (by first | with_reducible assumption | exact ⟨by omega, by omega⟩)) (show (1 : Int) ≤ (x1 : Int32).toInt ∧ (x1 : Int32).toInt ≤ (5 : Int) from (by first | with_reducible assumption | exact ⟨by omega, by omega⟩)) (show x0.toInt < x1.toInt from by omega)) (va_cwS 3 hG (zgS zv703 zv704 zv148 zv705) rfl rfl rfl (by decide +kernel) ⟨Nat.le_of_ble_eq_true rfl, Nat.le_of_ble_eq_true rfl⟩) ⟨zPc_blind, zPc_pre hPc hKc hDc hE hS hFc hZ⟩ rfl rfl hl.1 rfl (lv_room (Nat.le_of_ble_eq_true rfl)) dJ0_checkIndex_df160_5 ⟨Nat.le_of_ble_eq_true rfl, Nat.le_of_ble_eq_true rfl⟩) hS (fun q _ h => hFc q h) hFc (fun r5_ u5_ t H1 locs ht hvm hw hB hz1 hk1 hS => ?_)
    replace hw : (0 ≤ r5_.toInt ∧ r5_.toInt ≤ 4) := hw
    have b_ := hw
    obtain ⟨w5_, a5_, b5_, hP1, hK1, hD1⟩ := hB
    rw [ht] at hP1
    obtain ⟨hP, hD⟩ := va_join (wr := []) (w1 := []) hP hD [] [] rfl rfl (by decide) (by decide) hk1 hFc hP1 hD1
    have hP : va_P (dC, dI) vwCl [] H1 := hP.sub [] rfl
    have hD : va_D A [] := hD.sub [] (by decide) rfl
    generalize H1 = H at hP hS ⊢
    clear hz1
    refine lv_pop hx hb dJ0_checkIndex_df160_8 rfl ?_
    refine W.widen (k := 0) (n := 0) (by decide) (by decide) ?_
    have hpost : True := trivial
    have hP9 : va_P (dC, dI) vwCl [] H := hP
    have hD9 : va_D A [] := hD
    exact W.vret hx hb hr (fun t ht hW => ⟨⟨(fun _ => 0), rfl, hpost, (fun _ => 0), (fun _ => (fun _ => 0)), (fun _ => (fun _ => 0)), by rw [ht]; exact hP9, va_K.moved hW.alike hK, hD9⟩, hS.F ht⟩) hS.2.2 dJ0_checkIndex_df160_9
  · skip
    have hzf : zfm adK = .ref t9 := by unfold zfm; rw [hfm]
    rw [hzf]
    have hPc := hP.sub (ws' := []) [] rfl
    have hDc := hD.sub (ws' := []) [] (by decide) rfl
    have hKc := hK.sub (tys' := []) [] rfl
    have hFc := va_free (wc := []) hD hS hA [] rfl
    refine va_calli (va_runS (As := [.int x0, .int x1, .ref t9]) (rest := []) ⟨hx, hb, hml, hown, hG⟩ (sJ3_checkIndex_8e157_1 l dC dI adK adV s.heap.size x0 x1 t9 (show (0 : Int) ≤ (x0 : Int32).toInt ∧ (x0 : Int32).toInt ≤ (4 : Int) from (by first | with_reducible assumption | exact ⟨by omega, by omega⟩)) (show (1 : Int) ≤ (x1 : Int32).toInt ∧ (x1 : Int32).toInt ≤ (5 : Int) from (by first | with_reducible assumption | exact ⟨by omega, by omega⟩)) (show x0.toInt < x1.toInt from by omega)) (va_cwS 3 hG (zgS zv703 zv704 zv148 zv705) rfl rfl rfl (by decide +kernel) ⟨Nat.le_of_ble_eq_true rfl, Nat.le_of_ble_eq_true rfl⟩) ⟨zPc_blind, zPc_pre hPc hKc hDc hE hS hFc hZ⟩ rfl rfl hl.1 rfl (lv_room (Nat.le_of_ble_eq_true rfl)) dJ0_checkIndex_df160_5 ⟨Nat.le_of_ble_eq_true rfl, Nat.le_of_ble_eq_true rfl⟩) hS (fun q _ h => hFc q h) hFc (fun r5_ u5_ t H1 locs ht hvm hw hB hz1 hk1 hS => ?_)
    replace hw : (0 ≤ r5_.toInt ∧ r5_.toInt ≤ 4) := hw
    have b_ := hw
    obtain ⟨w5_, a5_, b5_, hP1, hK1, hD1⟩ := hB
    rw [ht] at hP1
    obtain ⟨hP, hD⟩ := va_join (wr := []) (w1 := []) hP hD [] [] rfl rfl (by decide) (by decide) hk1 hFc hP1 hD1
    have hP : va_P (dC, dI) vwCl [] H1 := hP.sub [] rfl
    have hD : va_D A [] := hD.sub [] (by decide) rfl
    generalize H1 = H at hP hS ⊢
    clear hz1
    refine lv_pop hx hb dJ0_checkIndex_df160_8 rfl ?_
    refine W.widen (k := 0) (n := 0) (by decide) (by decide) ?_
    have hpost : True := trivial
    have hP9 : va_P (dC, dI) vwCl [] H := hP
    have hD9 : va_D A [] := hD
    exact W.vret hx hb hr (fun t ht hW => ⟨⟨(fun _ => 0), rfl, hpost, (fun _ => 0), (fun _ => (fun _ => 0)), (fun _ => (fun _ => 0)), by rw [ht]; exact hP9, va_K.moved hW.alike hK, hD9⟩, hS.F ht⟩) hS.2.2 dJ0_checkIndex_df160_9
set_option maxHeartbeats 8000000 in
set_option maxRecDepth 100000 in
theorem sJ1_charAt_3b067_0 (l : Launch) (dC : Nat → ClassId) (dI : Nat → Nat → Nat) (adK adV : Nat → Nat) (sz : Nat) (x1 : Int32) (hx1 : 0 ≤ x1.toInt ∧ x1.toInt ≤ 0) : Met l yJ1_charAt_3b067 (zw yJ1_charAt_3b067 cJ1_charAt_3b067 2 (some .char)) { frames := 2, cells := 0, slots := 0, locals := 43 } (zPc dC dI adK adV [.ref (adV 3), .int x1] sz [] []) (va_Qi (fun (r : Int32) (u : Nat → Int32) => (0 ≤ r.toInt ∧ r.toInt ≤ 255) ∧ (r.toInt = zCr 3 x1.toInt)) (fun (u : Nat → Int32) (t : State) => ∃ (ww : Nat → Int64) (aa : Nat → Nat → Int32) (bb : Nat → Nat → Int64), va_P (dC, dI) vwCl [] t.heap ∧ va_K (dC, dI) vwCl [] t ∧ va_D (va_A [] sz) []) (va_A [] sz)) 0 0 (va_A [] sz) := by
  refine Met.ofW (cc := cJ1_charAt_3b067) (maxL := 2) (ret := (some .char)) (by decide) rfl ?_
  intro p e s m args below meth c s₁ B hml hv
  obtain ⟨rfl, hsz, hP, hK, hD0, hE, hZ⟩ := hv
  have hx := B.exec
  have hb := B.bytes
  have hr := B.returns
  have hG : ∀ w ∈ zG, w.before _ s = true := fun w h => atoms_spec (ws := (zw yJ1_charAt_3b067 cJ1_charAt_3b067 2 (some .char))) B.pre w (List.mem_cons_of_mem _ h)
  have hown : s.vm.findClass RJ1 = some m.cls := findClass_of_methodNamed B.named
  have hlocks := B.notSynchronized

  subst hsz
  have hD := hD0.self (sz := s.heap.size)
  generalize hAe : va_A [] s.heap.size = A at hD hZ ⊢
  have hA : ∀ q : Nat, s.heap.size ≤ q → A q := fun q h => by rw [← hAe]; exact Or.inr h
  have hS : va_S A s.heap s.heap [] := va_S.rf
  have hl := lv_entry ([.ref (adV 3), .int x1]) (n := 2) (Nat.le_of_ble_eq_true rfl)
  rw [lg_entry_eq]
  generalize (lg_sl ([.ref (adV 3), .int x1]) ++ List.replicate (2 - (lg_sl ([.ref (adV 3), .int x1])).length) Slot.unset).toArray = ls at hl ⊢
  have hl : lv_has ls 2 [(0, .ref (adV 3)), (1, .int x1)] := hl
  have b_ := zk_1
  refine lv_iload_n hx hb dJ1_charAt_3b067_0 rfl (lv_at hl 1 rfl) ?_
  refine lv_aload_n hx hb dJ1_charAt_3b067_1 rfl (lv_at hl 0 rfl) ?_
  refine va_tlen (v := 1) hx hb (hZ.2.2.2.1.1 3 (by decide)).2.2.2 hS (by decide) dJ1_charAt_3b067_2 ?_
  have hPc := hP.sub (ws' := []) [] rfl
  have hDc := hD.sub (ws' := []) [] (by decide) rfl
  have hKc := hK.sub (tys' := []) [] rfl
  have hFc := va_free (wc := []) hD hS hA [] rfl
  refine va_callv (va_runS (As := [.int x1, .int 1]) (rest := []) ⟨hx, hb, hml, hown, hG⟩ (sJ0_checkIndex_df160_0 l dC dI adK adV s.heap.size x1 1 (show (0 : Int) ≤ (x1 : Int32).toInt ∧ (x1 : Int32).toInt ≤ (4 : Int) from (by first | with_reducible assumption | exact ⟨by omega, by omega⟩)) ⟨show (1 : Int) ≤ (1 : Int32).toInt from by decide, show (1 : Int32).toInt ≤ (5 : Int) from by decide⟩ (show x1.toInt < (1 : Int32).toInt from by omega)) (va_cwS 2 hG (zgS zv698 zv699 zv146 zv700) rfl rfl rfl (by decide +kernel) ⟨Nat.le_of_ble_eq_true rfl, Nat.le_of_ble_eq_true rfl⟩) ⟨zPc_blind, zPc_pre hPc hKc hDc hE hS hFc hZ⟩ rfl rfl hl.1 rfl (lv_room (Nat.le_of_ble_eq_true rfl)) dJ1_charAt_3b067_3 ⟨Nat.le_of_ble_eq_true rfl, Nat.le_of_ble_eq_true rfl⟩) hS (fun q _ h => hFc q h) hFc (fun u3_ t H1 locs ht hvm hw hB hz1 hk1 hS => ?_)
  obtain ⟨w3_, a3_, b3_, hP1, hK1, hD1⟩ := hB
  rw [ht] at hP1
  obtain ⟨hP, hD⟩ := va_join (wr := []) (w1 := []) hP hD [] [] rfl rfl (by decide) (by decide) hk1 hFc hP1 hD1
  have hP : va_P (dC, dI) vwCl [] H1 := hP.sub [] rfl
  have hD : va_D A [] := hD.sub [] (by decide) rfl
  generalize H1 = H at hP hS ⊢
  clear hz1
  refine lv_aload_n hx hb dJ1_charAt_3b067_6 rfl (lv_at hl 0 rfl) ?_
  refine lv_iload_n hx hb dJ1_charAt_3b067_7 rfl (lv_at hl 1 rfl) ?_
  refine va_tb (N := 1) hx hb (hZ.2.2.2.1.1 3 (by decide)).2.2.2 hS (zin_lit (n := 1) ⟨by omega, by omega⟩) rfl dJ1_charAt_3b067_8 ?_
  refine lv_topi (fun z8 e_z8 => ?_)
  refine lv_sipush (v := 255) hx hb dJ1_charAt_3b067_9 (by decide) ?_
  have b_ : -2147483648 ≤ z8.toInt ∧ z8.toInt ≤ 2147483647 := ⟨zlo _, zhi _⟩
  refine lv_iand hx hb dJ1_charAt_3b067_12 ?_
  refine lv_topi (fun z12 e_z12 => ?_)
  have b_ := zand (x := z8) zk_255 e_z12 (by decide)
  refine lv_i2c hx hb dJ1_charAt_3b067_13 rfl ?_
  refine lv_topi (fun z13 e_z13 => ?_)
  have b_ := zi2c rfl e_z13 (by omega) (by omega)
  refine W.widen (k := 0) (n := 0) (by decide) (by decide) ?_
  have hpost : (0 ≤ z13.toInt ∧ z13.toInt ≤ 255) ∧ (z13.toInt = zCr 3 x1.toInt) := ⟨(by first | with_reducible assumption | exact ⟨by omega, by omega⟩), by exact zcr9 (by decide) e_z8 e_z12 e_z13 (by have q : x1.toNatClampNeg = x1.toInt.toNat := rfl; omega)⟩
  have hP9 : va_P (dC, dI) vwCl [] H := hP
  have hD9 : va_D A [] := hD
  exact W.zret (v := z13) hx hb hr (zn_char ⟨by omega, by omega⟩) (fun t ht hW => ⟨⟨z13, (fun _ => 0), rfl, hpost, (fun _ => 0), (fun _ => (fun _ => 0)), (fun _ => (fun _ => 0)), by rw [ht]; exact hP9, va_K.moved hW.alike hK, hD9⟩, hS.F ht⟩) hS.2.2 dJ1_charAt_3b067_14
set_option maxHeartbeats 8000000 in
set_option maxRecDepth 100000 in
theorem sJ0_charAt_5068e_0 (l : Launch) (dC : Nat → ClassId) (dI : Nat → Nat → Nat) (adK adV : Nat → Nat) (sz : Nat) (x1 : Int32) (hx1 : 0 ≤ x1.toInt ∧ x1.toInt ≤ 0) : Met l yJ0_charAt_5068e (zw yJ0_charAt_5068e cJ0_charAt_5068e 2 (some .char)) { frames := 3, cells := 0, slots := 0, locals := 64 } (zPc dC dI adK adV [.ref (adK 3), .int x1] sz [] []) (va_Qi (fun (r : Int32) (u : Nat → Int32) => (0 ≤ r.toInt ∧ r.toInt ≤ 255) ∧ (r.toInt = zCr 3 x1.toInt)) (fun (u : Nat → Int32) (t : State) => ∃ (ww : Nat → Int64) (aa : Nat → Nat → Int32) (bb : Nat → Nat → Int64), va_P (dC, dI) vwCl [] t.heap ∧ va_K (dC, dI) vwCl [] t ∧ va_D (va_A [] sz) []) (va_A [] sz)) 0 0 (va_A [] sz) := by
  refine Met.ofW (cc := cJ0_charAt_5068e) (maxL := 2) (ret := (some .char)) (by decide) rfl ?_
  intro p e s m args below meth c s₁ B hml hv
  obtain ⟨rfl, hsz, hP, hK, hD0, hE, hZ⟩ := hv
  have hx := B.exec
  have hb := B.bytes
  have hr := B.returns
  have hG : ∀ w ∈ zG, w.before _ s = true := fun w h => atoms_spec (ws := (zw yJ0_charAt_5068e cJ0_charAt_5068e 2 (some .char))) B.pre w (List.mem_cons_of_mem _ h)
  have hown : s.vm.findClass RJ0 = some m.cls := findClass_of_methodNamed B.named
  have hlocks := B.notSynchronized

  subst hsz
  have hD := hD0.self (sz := s.heap.size)
  generalize hAe : va_A [] s.heap.size = A at hD hZ ⊢
  have hA : ∀ q : Nat, s.heap.size ≤ q → A q := fun q h => by rw [← hAe]; exact Or.inr h
  have hS : va_S A s.heap s.heap [] := va_S.rf
  have hl := lv_entry ([.ref (adK 3), .int x1]) (n := 2) (Nat.le_of_ble_eq_true rfl)
  rw [lg_entry_eq]
  generalize (lg_sl ([.ref (adK 3), .int x1]) ++ List.replicate (2 - (lg_sl ([.ref (adK 3), .int x1])).length) Slot.unset).toArray = ls at hl ⊢
  have hl : lv_has ls 2 [(0, .ref (adK 3)), (1, .int x1)] := hl
  refine lv_aload_n hx hb dJ0_charAt_5068e_0 rfl (lv_at hl 0 rfl) ?_
  have hPc := hP.sub (ws' := []) [] rfl
  have hDc := hD.sub (ws' := []) [] (by decide) rfl
  have hKc := hK.sub (tys' := []) [] rfl
  have hFc := va_free (wc := []) hD hS hA [] rfl
  refine va_calli (va_runV (As := []) (rest := []) ⟨hx, hb, hml, hown, hG⟩ (sJ0_isLatin1_aae02_0 l dC dI adK adV s.heap.size) (cwV 0 hG (zgV zv691 zv692 zv693 zv146 zv694) rfl rfl rfl (by decide +kernel) ⟨Nat.le_of_ble_eq_true rfl, Nat.le_of_ble_eq_true rfl⟩) ⟨zPc_blind, vk_recv hZ.2.2.2.1 (i := 3) (by decide) hS, zPc_pre hPc hKc hDc hE hS hFc hZ⟩ rfl rfl hl.1 rfl (lv_room (Nat.le_of_ble_eq_true rfl)) dJ0_charAt_5068e_1 ⟨Nat.le_of_ble_eq_true rfl, Nat.le_of_ble_eq_true rfl⟩) hS (fun q _ h => hFc q h) hFc (fun r1_ u1_ t H1 locs ht hvm hw hB hz1 hk1 hS => ?_)
  replace hw : (1 ≤ r1_.toInt ∧ r1_.toInt ≤ 1) := hw
  have b_ := hw
  obtain rfl : r1_ = (1 : Int32) := zeqi.mpr ((show r1_.toInt = 1 from by omega).trans zk_1.symm)
  obtain ⟨w1_, a1_, b1_, hP1, hK1, hD1⟩ := hB
  rw [ht] at hP1
  obtain ⟨hP, hD⟩ := va_join (wr := []) (w1 := []) hP hD [] [] rfl rfl (by decide) (by decide) hk1 hFc hP1 hD1
  have hP : va_P (dC, dI) vwCl [] H1 := hP.sub [] rfl
  have hD : va_D A [] := hD.sub [] (by decide) rfl
  generalize H1 = H at hP hS ⊢
  clear hz1
  refine lv_if_eq (tgt := 16) hx hb dJ0_charAt_5068e_4 (by decide) (fun c_ => absurd c_ (by decide)) (fun c_ => ?_)
  refine lv_aload_n hx hb dJ0_charAt_5068e_7 rfl (lv_at hl 0 rfl) ?_
  refine vk_getf hx hb (hZ.2.2.2.1.1 3 (by decide)).2.2.1 hS hown (hG _ zv2257) (fun _ h => h) dJ0_charAt_5068e_8 ?_
  refine lv_iload_n hx hb dJ0_charAt_5068e_11 rfl (lv_at hl 1 rfl) ?_
  have hPc := hP.sub (ws' := []) [] rfl
  have hDc := hD.sub (ws' := []) [] (by decide) rfl
  have hKc := hK.sub (tys' := []) [] rfl
  have hFc := va_free (wc := []) hD hS hA [] rfl
  refine va_calli (va_runS (As := [.ref (adV 3), .int x1]) (rest := []) ⟨hx, hb, hml, hown, hG⟩ (sJ1_charAt_3b067_0 l dC dI adK adV H.size x1 (show (0 : Int) ≤ (x1 : Int32).toInt ∧ (x1 : Int32).toInt ≤ (0 : Int) from (by first | with_reducible assumption | exact ⟨by omega, by omega⟩))) (va_cwS 2 hG (zgS zv695 zv696 zv147 zv697) rfl rfl rfl (by decide +kernel) ⟨Nat.le_of_ble_eq_true rfl, Nat.le_of_ble_eq_true rfl⟩) ⟨zPc_blind, zPc_pre hPc hKc hDc hE hS hFc hZ⟩ rfl rfl hl.1 rfl (lv_room (Nat.le_of_ble_eq_true rfl)) dJ0_charAt_5068e_12 ⟨Nat.le_of_ble_eq_true rfl, Nat.le_of_ble_eq_true rfl⟩) hS (fun q _ h => hFc q h) hFc (fun r12_ u12_ t H1 locs ht hvm hw hB hz1 hk1 hS => ?_)
  replace hw : (0 ≤ r12_.toInt ∧ r12_.toInt ≤ 255) ∧ (r12_.toInt = zCr 3 x1.toInt) := hw
  obtain ⟨b_, hX12_0⟩ := hw
  obtain ⟨w12_, a12_, b12_, hP1, hK1, hD1⟩ := hB
  rw [ht] at hP1
  obtain ⟨hP, hD⟩ := va_join (wr := []) (w1 := []) hP hD [] [] rfl rfl (by decide) (by decide) hk1 hFc hP1 hD1
  have hP : va_P (dC, dI) vwCl [] H1 := hP.sub [] rfl
  have hD : va_D A [] := hD.sub [] (by decide) rfl
  generalize H1 = H at hP hS ⊢
  clear hz1
  refine W.widen (k := 0) (n := 0) (by decide) (by decide) ?_
  have hpost : (0 ≤ r12_.toInt ∧ r12_.toInt ≤ 255) ∧ (r12_.toInt = zCr 3 x1.toInt) := ⟨(by first | with_reducible assumption | exact ⟨by omega, by omega⟩), by assumption⟩
  have hP9 : va_P (dC, dI) vwCl [] H := hP
  have hD9 : va_D A [] := hD
  exact W.zret (v := r12_) hx hb hr (zn_char ⟨by omega, by omega⟩) (fun t ht hW => ⟨⟨r12_, (fun _ => 0), rfl, hpost, (fun _ => 0), (fun _ => (fun _ => 0)), (fun _ => (fun _ => 0)), by rw [ht]; exact hP9, va_K.moved hW.alike hK, hD9⟩, hS.F ht⟩) hS.2.2 dJ0_charAt_5068e_15
