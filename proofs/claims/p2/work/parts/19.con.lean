set_option maxHeartbeats 8000000 in
set_option maxRecDepth 100000 in
theorem sX7_addStep_0 (l : Launch) (dC : Nat → ClassId) (dI : Nat → Nat → Nat) (adK adV : Nat → Nat) (h0 : Nat) (h7 : Nat) (h1 : Nat) (h2 : Nat) (h3 : Nat) (h4 : Nat) (h5 : Nat) (h6 : Nat) (k7 : ClassId) (sz : Nat) (v0 : Nat → Int32) (f7 : Nat → Int32) (x1 : Int32) (x2 : Int32) (hv0 : zR rg_Query v0) (hf7 : zA 0 12000 f7) (hx1 : 1 ≤ x1.toInt ∧ x1.toInt ≤ 11) (hx2 : (-1) ≤ x2.toInt ∧ x2.toInt ≤ 999) : Met l yX7_addStep (zw yX7_addStep cX7_addStep 3 none) { frames := 0, cells := 0, slots := 0, locals := 0 } (zPc dC dI adK adV [.ref h0, .int x1, .int x2] sz [(h0, .inr (7, mX7 h1 h2 h3 h4 h5 h6 h7 v0)), (h7, .inl (k7, 270, .inl f7))] [(k7, .int)]) (va_Qv (fun (u : Nat → Int32) => (1 ≤ (u 0).toInt ∧ (u 0).toInt ≤ 270)) (fun (u : Nat → Int32) (t : State) => ∃ (ww : Nat → Int64) (aa : Nat → Nat → Int32) (bb : Nat → Nat → Int64), zA 0 12000 (aa 0) ∧ va_P (dC, dI) vwCl [(h0, .inr (7, mX7 h1 h2 h3 h4 h5 h6 h7 (upd v0 9 (u 0)))), (h7, .inl (k7, 270, .inl (aa 0)))] t.heap ∧ va_K (dC, dI) vwCl [(k7, .int)] t ∧ va_D (va_A [(h0, .inr (7, mX7 h1 h2 h3 h4 h5 h6 h7 v0)), (h7, .inl (k7, 270, .inl f7))] sz) [(h0, .inr (7, mX7 h1 h2 h3 h4 h5 h6 h7 (upd v0 9 (u 0)))), (h7, .inl (k7, 270, .inl (aa 0)))]) (va_A [(h0, .inr (7, mX7 h1 h2 h3 h4 h5 h6 h7 v0)), (h7, .inl (k7, 270, .inl f7))] sz)) 0 0 (va_A [(h0, .inr (7, mX7 h1 h2 h3 h4 h5 h6 h7 v0)), (h7, .inl (k7, 270, .inl f7))] sz) := by
  refine Met.ofW (cc := cX7_addStep) (maxL := 3) (ret := none) (by decide) rfl ?_
  intro p e s m args below meth c s₁ B hml hv
  obtain ⟨rfl, hsz, hP, hK, hD0, hE, hZ⟩ := hv
  have hx := B.exec
  have hb := B.bytes
  have hr := B.returns
  have hG : ∀ w ∈ zG, w.before _ s = true := fun w h => atoms_spec (ws := (zw yX7_addStep cX7_addStep 3 none)) B.pre w (List.mem_cons_of_mem _ h)
  have hown : s.vm.findClass RX7 = some m.cls := findClass_of_methodNamed B.named
  have hlocks := B.notSynchronized

  subst hsz
  have hD := hD0.self (sz := s.heap.size)
  generalize hAe : va_A [(h0, .inr (7, mX7 h1 h2 h3 h4 h5 h6 h7 v0)), (h7, .inl (k7, 270, .inl f7))] s.heap.size = A at hD hZ ⊢
  have hA : ∀ q : Nat, s.heap.size ≤ q → A q := fun q h => by rw [← hAe]; exact Or.inr h
  have hS : va_S A s.heap s.heap [] := va_S.rf
  have hl := lv_entry ([.ref h0, .int x1, .int x2]) (n := 3) (Nat.le_of_ble_eq_true rfl)
  rw [lg_entry_eq]
  generalize (lg_sl ([.ref h0, .int x1, .int x2]) ++ List.replicate (3 - (lg_sl ([.ref h0, .int x1, .int x2])).length) Slot.unset).toArray = ls at hl ⊢
  have hl : lv_has ls 3 [(0, .ref h0), (1, .int x1), (2, .int x2)] := hl
  refine lv_aload_n hx hb dX7_addStep_0 rfl (lv_at hl 0 rfl) ?_
  have b_ : 0 ≤ (v0 9).toInt ∧ (v0 9).toInt ≤ 270 := hv0 9
  refine va_get (D := (dC, dI)) (ci := 7) (v := .int (v0 9)) (C := RX7) (T := TX7) (N := 12) hx hb hG zuX7 hown hK hP 0 rfl rfl 9 (by decide) (hG _ zw261) (fun _ h9 => h9) rfl dX7_addStep_1 ?_
  refine lv_sipush (v := 270) hx hb dX7_addStep_4 (by decide) ?_
  refine lv_icmp_ge (tgt := 36) hx hb dX7_addStep_7 (by decide) (fun c_ => ?_) (fun c_ => ?_)
  · skip
    have b_ := zT_ge rfl zk_270 c_
    refine W.widen (k := 0) (n := 0) (by decide) (by decide) ?_
    have hpost : (1 ≤ (v0 9).toInt ∧ (v0 9).toInt ≤ 270) := ⟨by omega, by omega⟩
    have hP9 : va_P (dC, dI) vwCl [(h0, .inr (7, mX7 h1 h2 h3 h4 h5 h6 h7 (upd v0 9 (v0 9)))), (h7, .inl (k7, 270, .inl f7))] s.heap := hP
    have hD9 : va_D A [(h0, .inr (7, mX7 h1 h2 h3 h4 h5 h6 h7 (upd v0 9 (v0 9)))), (h7, .inl (k7, 270, .inl f7))] := hD
    exact W.vret hx hb hr (fun t ht hW => ⟨⟨(fun i => ([(v0 9)] : List (Int32)).getD i 0), rfl, hpost, (fun _ => 0), (fun i => ([f7] : List (Nat → Int32)).getD i (fun _ => 0)), (fun _ => (fun _ => 0)), hf7, by rw [ht]; exact hP9, va_K.moved hW.alike hK, hD9⟩, hS.F ht⟩) hS.2.2 dX7_addStep_36
  · skip
    have b_ := zF_ge rfl zk_270 c_
    refine lv_aload_n hx hb dX7_addStep_10 rfl (lv_at hl 0 rfl) ?_
    refine va_get (D := (dC, dI)) (ci := 7) (v := .ref h7) (C := RX7) (T := TX7) (N := 12) hx hb hG zuX7 hown hK hP 0 rfl rfl 6 (by decide) (hG _ zw264) (fun _ h9 => h9) rfl dX7_addStep_11 ?_
    refine lv_aload_n hx hb dX7_addStep_14 rfl (lv_at hl 0 rfl) ?_
    refine va_get (D := (dC, dI)) (ci := 7) (v := .int (v0 9)) (C := RX7) (T := TX7) (N := 12) hx hb hG zuX7 hown hK hP 0 rfl rfl 9 (by decide) (hG _ zw261) (fun _ h9 => h9) rfl dX7_addStep_15 ?_
    refine lv_sipush (v := 1000) hx hb dX7_addStep_18 (by decide) ?_
    refine lv_iload_n hx hb dX7_addStep_21 rfl (lv_at hl 1 rfl) ?_
    refine lv_imul hx hb dX7_addStep_22 ?_
    refine lv_topi (fun z22 e_z22 => ?_)
    have b_ := zmul zk_1000 rfl e_z22 (by omega) (by omega)
    refine lv_iload_n hx hb dX7_addStep_23 rfl (lv_at hl 2 rfl) ?_
    refine lv_iadd hx hb dX7_addStep_24 ?_
    refine lv_topi (fun z24 e_z24 => ?_)
    have b_ := zadd rfl rfl e_z24 (by omega) (by omega)
    refine va_iast hx hb hK hP hD hS 1 0 rfl rfl (zin_lit ⟨by omega, by omega⟩) dX7_addStep_25 (fun H locs hP hD hS => ?_)
    obtain ⟨f_25, e_f_25⟩ : ∃ z : Nat → Int32, z = upd f7 ((v0 9) : Int32).toNatClampNeg z24 := ⟨_, rfl⟩
    have hP : va_P (dC, dI) vwCl [(h0, .inr (7, mX7 h1 h2 h3 h4 h5 h6 h7 v0)), (h7, .inl (k7, 270, .inl f_25))] H := by rw [e_f_25]; exact hP
    have hD : va_D A [(h0, .inr (7, mX7 h1 h2 h3 h4 h5 h6 h7 v0)), (h7, .inl (k7, 270, .inl f_25))] := by rw [e_f_25]; exact hD
    have hf_25 : zA 0 12000 f_25 := by rw [e_f_25]; exact zA_upd hf7 (show 0 ≤ (z24 : Int32).toInt from by omega) (show (z24 : Int32).toInt ≤ 12000 from by omega)
    refine lv_aload_n hx hb dX7_addStep_26 rfl (lv_at hl 0 rfl) ?_
    refine lv_dup hx hb dX7_addStep_27 rfl ?_
    refine va_get (D := (dC, dI)) (ci := 7) (v := .int (v0 9)) (C := RX7) (T := TX7) (N := 12) hx hb hG zuX7 hown hK hP 0 rfl rfl 9 (by decide) (hG _ zw261) (fun _ h9 => h9) rfl dX7_addStep_28 ?_
    refine lv_iconst (v := 1) hx hb dX7_addStep_31 (by decide) ?_
    refine lv_iadd hx hb dX7_addStep_32 ?_
    refine lv_topi (fun z32 e_z32 => ?_)
    have b_ := zadd rfl zk_1 e_z32 (by omega) (by omega)
    refine va_put (D := (dC, dI)) (ci := 7) (v := .int z32) (ty := .int) (C := RX7) (T := TX7) (N := 12) hx hb hG zuX7 tyX7 tyX7_ok nmX7 hown hK hP hD hS 0 rfl rfl 9 (by decide) (hG _ zw261) (fun _ h9 => h9) rfl (by decide +kernel) rfl rfl (Nat.le_of_ble_eq_true rfl) dX7_addStep_33 (fun H locs hP hD hS => ?_)
    have hP : va_P (dC, dI) vwCl [(h0, .inr (7, mX7 h1 h2 h3 h4 h5 h6 h7 (upd v0 9 z32))), (h7, .inl (k7, 270, .inl f_25))] H := hP
    have hD : va_D A [(h0, .inr (7, mX7 h1 h2 h3 h4 h5 h6 h7 (upd v0 9 z32))), (h7, .inl (k7, 270, .inl f_25))] := hD
    refine W.widen (k := 0) (n := 0) (by decide) (by decide) ?_
    have hpost : (1 ≤ z32.toInt ∧ z32.toInt ≤ 270) := ⟨by omega, by omega⟩
    have hP9 : va_P (dC, dI) vwCl [(h0, .inr (7, mX7 h1 h2 h3 h4 h5 h6 h7 (upd v0 9 z32))), (h7, .inl (k7, 270, .inl f_25))] H := hP
    have hD9 : va_D A [(h0, .inr (7, mX7 h1 h2 h3 h4 h5 h6 h7 (upd v0 9 z32))), (h7, .inl (k7, 270, .inl f_25))] := hD
    exact W.vret hx hb hr (fun t ht hW => ⟨⟨(fun i => ([z32] : List (Int32)).getD i 0), rfl, hpost, (fun _ => 0), (fun i => ([f_25] : List (Nat → Int32)).getD i (fun _ => 0)), (fun _ => (fun _ => 0)), hf_25, by rw [ht]; exact hP9, va_K.moved hW.alike hK, hD9⟩, hS.F ht⟩) hS.2.2 dX7_addStep_36
set_option maxHeartbeats 8000000 in
set_option maxRecDepth 100000 in
theorem sX7_addLeaf_0 (l : Launch) (dC : Nat → ClassId) (dI : Nat → Nat → Nat) (adK adV : Nat → Nat) (h0 : Nat) (h1 : Nat) (h2 : Nat) (h3 : Nat) (h4 : Nat) (h5 : Nat) (h7 : Nat) (h6 : Nat) (k1 : ClassId) (k2 : ClassId) (k3 : ClassId) (k4 : ClassId) (k5 : ClassId) (k7 : ClassId) (sz : Nat) (v0 : Nat → Int32) (f1 : Nat → Int32) (f2 : Nat → Int32) (f3 : Nat → Int32) (f4 : Nat → Int32) (f5 : Nat → Int32) (f7 : Nat → Int32) (x1 : Int32) (x2 : Int32) (x3 : Int32) (x4 : Int32) (x5 : Int32) (hv0 : zR rg_Query v0) (hf7 : zA 0 12000 f7) (hx1 : 1 ≤ x1.toInt ∧ x1.toInt ≤ 4) (hx5 : 0 ≤ x5.toInt ∧ x5.toInt ≤ 1) : Met l yX7_addLeaf (zw yX7_addLeaf cX7_addLeaf 6 none) { frames := 1, cells := 0, slots := 0, locals := 40 } (zPc dC dI adK adV [.ref h0, .int x1, .int x2, .int x3, .int x4, .int x5] sz [(h0, .inr (7, mX7 h1 h2 h3 h4 h5 h6 h7 v0)), (h1, .inl (k1, 40, .inl f1)), (h2, .inl (k2, 40, .inl f2)), (h3, .inl (k3, 40, .inl f3)), (h4, .inl (k4, 40, .inl f4)), (h5, .inl (k5, 40, .inl f5)), (h7, .inl (k7, 270, .inl f7))] [(k1, .int), (k2, .int), (k3, .int), (k4, .int), (k5, .boolean), (k7, .int)]) (va_Qv (fun (u : Nat → Int32) => (1 ≤ (u 0).toInt ∧ (u 0).toInt ≤ 40) ∧ (0 ≤ (u 1).toInt ∧ (u 1).toInt ≤ 270)) (fun (u : Nat → Int32) (t : State) => ∃ (ww : Nat → Int64) (aa : Nat → Nat → Int32) (bb : Nat → Nat → Int64), zA 0 12000 (aa 5) ∧ va_P (dC, dI) vwCl [(h0, .inr (7, mX7 h1 h2 h3 h4 h5 h6 h7 (upd (upd (upd (upd v0 7 (u 0)) 9 (u 1)) 10 (u 2)) 11 (u 3)))), (h1, .inl (k1, 40, .inl (aa 0))), (h2, .inl (k2, 40, .inl (aa 1))), (h3, .inl (k3, 40, .inl (aa 2))), (h4, .inl (k4, 40, .inl (aa 3))), (h5, .inl (k5, 40, .inl (aa 4))), (h7, .inl (k7, 270, .inl (aa 5)))] t.heap ∧ va_K (dC, dI) vwCl [(k1, .int), (k2, .int), (k3, .int), (k4, .int), (k5, .boolean), (k7, .int)] t ∧ va_D (va_A [(h0, .inr (7, mX7 h1 h2 h3 h4 h5 h6 h7 v0)), (h1, .inl (k1, 40, .inl f1)), (h2, .inl (k2, 40, .inl f2)), (h3, .inl (k3, 40, .inl f3)), (h4, .inl (k4, 40, .inl f4)), (h5, .inl (k5, 40, .inl f5)), (h7, .inl (k7, 270, .inl f7))] sz) [(h0, .inr (7, mX7 h1 h2 h3 h4 h5 h6 h7 (upd (upd (upd (upd v0 7 (u 0)) 9 (u 1)) 10 (u 2)) 11 (u 3)))), (h1, .inl (k1, 40, .inl (aa 0))), (h2, .inl (k2, 40, .inl (aa 1))), (h3, .inl (k3, 40, .inl (aa 2))), (h4, .inl (k4, 40, .inl (aa 3))), (h5, .inl (k5, 40, .inl (aa 4))), (h7, .inl (k7, 270, .inl (aa 5)))]) (va_A [(h0, .inr (7, mX7 h1 h2 h3 h4 h5 h6 h7 v0)), (h1, .inl (k1, 40, .inl f1)), (h2, .inl (k2, 40, .inl f2)), (h3, .inl (k3, 40, .inl f3)), (h4, .inl (k4, 40, .inl f4)), (h5, .inl (k5, 40, .inl f5)), (h7, .inl (k7, 270, .inl f7))] sz)) 0 0 (va_A [(h0, .inr (7, mX7 h1 h2 h3 h4 h5 h6 h7 v0)), (h1, .inl (k1, 40, .inl f1)), (h2, .inl (k2, 40, .inl f2)), (h3, .inl (k3, 40, .inl f3)), (h4, .inl (k4, 40, .inl f4)), (h5, .inl (k5, 40, .inl f5)), (h7, .inl (k7, 270, .inl f7))] sz) := by
  refine Met.ofW (cc := cX7_addLeaf) (maxL := 6) (ret := none) (by decide) rfl ?_
  intro p e s m args below meth c s₁ B hml hv
  obtain ⟨rfl, hsz, hP, hK, hD0, hE, hZ⟩ := hv
  have hx := B.exec
  have hb := B.bytes
  have hr := B.returns
  have hG : ∀ w ∈ zG, w.before _ s = true := fun w h => atoms_spec (ws := (zw yX7_addLeaf cX7_addLeaf 6 none)) B.pre w (List.mem_cons_of_mem _ h)
  have hown : s.vm.findClass RX7 = some m.cls := findClass_of_methodNamed B.named
  have hlocks := B.notSynchronized

  subst hsz
  have hD := hD0.self (sz := s.heap.size)
  generalize hAe : va_A [(h0, .inr (7, mX7 h1 h2 h3 h4 h5 h6 h7 v0)), (h1, .inl (k1, 40, .inl f1)), (h2, .inl (k2, 40, .inl f2)), (h3, .inl (k3, 40, .inl f3)), (h4, .inl (k4, 40, .inl f4)), (h5, .inl (k5, 40, .inl f5)), (h7, .inl (k7, 270, .inl f7))] s.heap.size = A at hD hZ ⊢
  have hA : ∀ q : Nat, s.heap.size ≤ q → A q := fun q h => by rw [← hAe]; exact Or.inr h
  have hS : va_S A s.heap s.heap [] := va_S.rf
  have hl := lv_entry ([.ref h0, .int x1, .int x2, .int x3, .int x4, .int x5]) (n := 6) (Nat.le_of_ble_eq_true rfl)
  rw [lg_entry_eq]
  generalize (lg_sl ([.ref h0, .int x1, .int x2, .int x3, .int x4, .int x5]) ++ List.replicate (6 - (lg_sl ([.ref h0, .int x1, .int x2, .int x3, .int x4, .int x5])).length) Slot.unset).toArray = ls at hl ⊢
  have hl : lv_has ls 6 [(0, .ref h0), (1, .int x1), (2, .int x2), (3, .int x3), (4, .int x4), (5, .int x5)] := hl
  refine lv_aload_n hx hb dX7_addLeaf_0 rfl (lv_at hl 0 rfl) ?_
  have b_ : 0 ≤ (v0 7).toInt ∧ (v0 7).toInt ≤ 40 := hv0 7
  refine va_get (D := (dC, dI)) (ci := 7) (v := .int (v0 7)) (C := RX7) (T := TX7) (N := 12) hx hb hG zuX7 hown hK hP 0 rfl rfl 7 (by decide) (hG _ zw259) (fun _ h9 => h9) rfl dX7_addLeaf_1 ?_
  refine lv_bipush (v := 40) hx hb dX7_addLeaf_4 (by decide) ?_
  refine lv_icmp_ge (tgt := 105) hx hb dX7_addLeaf_6 (by decide) (fun c_ => ?_) (fun c_ => ?_)
  · skip
    have b_ := zT_ge rfl zk_40 c_
    refine W.widen (k := 0) (n := 0) (by decide) (by decide) ?_
    have b_ : 0 ≤ (v0 9).toInt ∧ (v0 9).toInt ≤ 270 := hv0 9
    have b_ : -2147483648 ≤ (v0 10).toInt ∧ (v0 10).toInt ≤ 2147483647 := ⟨zlo _, zhi _⟩
    have b_ : -2147483648 ≤ (v0 11).toInt ∧ (v0 11).toInt ≤ 2147483647 := ⟨zlo _, zhi _⟩
    have hpost : (1 ≤ (v0 7).toInt ∧ (v0 7).toInt ≤ 40) ∧ (0 ≤ (v0 9).toInt ∧ (v0 9).toInt ≤ 270) := ⟨⟨by omega, by omega⟩, ⟨by omega, by omega⟩⟩
    have hP9 : va_P (dC, dI) vwCl [(h0, .inr (7, mX7 h1 h2 h3 h4 h5 h6 h7 (upd (upd (upd (upd v0 7 (v0 7)) 9 (v0 9)) 10 (v0 10)) 11 (v0 11)))), (h1, .inl (k1, 40, .inl f1)), (h2, .inl (k2, 40, .inl f2)), (h3, .inl (k3, 40, .inl f3)), (h4, .inl (k4, 40, .inl f4)), (h5, .inl (k5, 40, .inl f5)), (h7, .inl (k7, 270, .inl f7))] s.heap := hP
    have hD9 : va_D A [(h0, .inr (7, mX7 h1 h2 h3 h4 h5 h6 h7 (upd (upd (upd (upd v0 7 (v0 7)) 9 (v0 9)) 10 (v0 10)) 11 (v0 11)))), (h1, .inl (k1, 40, .inl f1)), (h2, .inl (k2, 40, .inl f2)), (h3, .inl (k3, 40, .inl f3)), (h4, .inl (k4, 40, .inl f4)), (h5, .inl (k5, 40, .inl f5)), (h7, .inl (k7, 270, .inl f7))] := hD
    exact W.vret hx hb hr (fun t ht hW => ⟨⟨(fun i => ([(v0 7), (v0 9), (v0 10), (v0 11)] : List (Int32)).getD i 0), rfl, hpost, (fun _ => 0), (fun i => ([f1, f2, f3, f4, f5, f7] : List (Nat → Int32)).getD i (fun _ => 0)), (fun _ => (fun _ => 0)), hf7, by rw [ht]; exact hP9, va_K.moved hW.alike hK, hD9⟩, hS.F ht⟩) hS.2.2 dX7_addLeaf_105
  · skip
    have b_ := zF_ge rfl zk_40 c_
    refine lv_aload_n hx hb dX7_addLeaf_9 rfl (lv_at hl 0 rfl) ?_
    refine va_get (D := (dC, dI)) (ci := 7) (v := .ref h1) (C := RX7) (T := TX7) (N := 12) hx hb hG zuX7 hown hK hP 0 rfl rfl 0 (by decide) (hG _ zw265) (fun _ h9 => h9) rfl dX7_addLeaf_10 ?_
    refine lv_aload_n hx hb dX7_addLeaf_13 rfl (lv_at hl 0 rfl) ?_
    refine va_get (D := (dC, dI)) (ci := 7) (v := .int (v0 7)) (C := RX7) (T := TX7) (N := 12) hx hb hG zuX7 hown hK hP 0 rfl rfl 7 (by decide) (hG _ zw259) (fun _ h9 => h9) rfl dX7_addLeaf_14 ?_
    refine lv_iload_n hx hb dX7_addLeaf_17 rfl (lv_at hl 1 rfl) ?_
    refine va_iast hx hb hK hP hD hS 1 0 rfl rfl (zin_lit ⟨by omega, by omega⟩) dX7_addLeaf_18 (fun H locs hP hD hS => ?_)
    obtain ⟨f_18, e_f_18⟩ : ∃ z : Nat → Int32, z = upd f1 ((v0 7) : Int32).toNatClampNeg x1 := ⟨_, rfl⟩
    have hP : va_P (dC, dI) vwCl [(h0, .inr (7, mX7 h1 h2 h3 h4 h5 h6 h7 v0)), (h1, .inl (k1, 40, .inl f_18)), (h2, .inl (k2, 40, .inl f2)), (h3, .inl (k3, 40, .inl f3)), (h4, .inl (k4, 40, .inl f4)), (h5, .inl (k5, 40, .inl f5)), (h7, .inl (k7, 270, .inl f7))] H := by rw [e_f_18]; exact hP
    have hD : va_D A [(h0, .inr (7, mX7 h1 h2 h3 h4 h5 h6 h7 v0)), (h1, .inl (k1, 40, .inl f_18)), (h2, .inl (k2, 40, .inl f2)), (h3, .inl (k3, 40, .inl f3)), (h4, .inl (k4, 40, .inl f4)), (h5, .inl (k5, 40, .inl f5)), (h7, .inl (k7, 270, .inl f7))] := by rw [e_f_18]; exact hD
    refine lv_aload_n hx hb dX7_addLeaf_19 rfl (lv_at hl 0 rfl) ?_
    refine va_get (D := (dC, dI)) (ci := 7) (v := .ref h2) (C := RX7) (T := TX7) (N := 12) hx hb hG zuX7 hown hK hP 0 rfl rfl 1 (by decide) (hG _ zw270) (fun _ h9 => h9) rfl dX7_addLeaf_20 ?_
    refine lv_aload_n hx hb dX7_addLeaf_23 rfl (lv_at hl 0 rfl) ?_
    refine va_get (D := (dC, dI)) (ci := 7) (v := .int (v0 7)) (C := RX7) (T := TX7) (N := 12) hx hb hG zuX7 hown hK hP 0 rfl rfl 7 (by decide) (hG _ zw259) (fun _ h9 => h9) rfl dX7_addLeaf_24 ?_
    refine lv_iload_n hx hb dX7_addLeaf_27 rfl (lv_at hl 2 rfl) ?_
    refine va_iast hx hb hK hP hD hS 2 1 rfl rfl (zin_lit ⟨by omega, by omega⟩) dX7_addLeaf_28 (fun H locs hP hD hS => ?_)
    obtain ⟨f_28, e_f_28⟩ : ∃ z : Nat → Int32, z = upd f2 ((v0 7) : Int32).toNatClampNeg x2 := ⟨_, rfl⟩
    have hP : va_P (dC, dI) vwCl [(h0, .inr (7, mX7 h1 h2 h3 h4 h5 h6 h7 v0)), (h1, .inl (k1, 40, .inl f_18)), (h2, .inl (k2, 40, .inl f_28)), (h3, .inl (k3, 40, .inl f3)), (h4, .inl (k4, 40, .inl f4)), (h5, .inl (k5, 40, .inl f5)), (h7, .inl (k7, 270, .inl f7))] H := by rw [e_f_28]; exact hP
    have hD : va_D A [(h0, .inr (7, mX7 h1 h2 h3 h4 h5 h6 h7 v0)), (h1, .inl (k1, 40, .inl f_18)), (h2, .inl (k2, 40, .inl f_28)), (h3, .inl (k3, 40, .inl f3)), (h4, .inl (k4, 40, .inl f4)), (h5, .inl (k5, 40, .inl f5)), (h7, .inl (k7, 270, .inl f7))] := by rw [e_f_28]; exact hD
    refine lv_aload_n hx hb dX7_addLeaf_29 rfl (lv_at hl 0 rfl) ?_
    refine va_get (D := (dC, dI)) (ci := 7) (v := .ref h3) (C := RX7) (T := TX7) (N := 12) hx hb hG zuX7 hown hK hP 0 rfl rfl 2 (by decide) (hG _ zw271) (fun _ h9 => h9) rfl dX7_addLeaf_30 ?_
    refine lv_aload_n hx hb dX7_addLeaf_33 rfl (lv_at hl 0 rfl) ?_
    refine va_get (D := (dC, dI)) (ci := 7) (v := .int (v0 7)) (C := RX7) (T := TX7) (N := 12) hx hb hG zuX7 hown hK hP 0 rfl rfl 7 (by decide) (hG _ zw259) (fun _ h9 => h9) rfl dX7_addLeaf_34 ?_
    refine lv_iload_n hx hb dX7_addLeaf_37 rfl (lv_at hl 3 rfl) ?_
    refine va_iast hx hb hK hP hD hS 3 2 rfl rfl (zin_lit ⟨by omega, by omega⟩) dX7_addLeaf_38 (fun H locs hP hD hS => ?_)
    obtain ⟨f_38, e_f_38⟩ : ∃ z : Nat → Int32, z = upd f3 ((v0 7) : Int32).toNatClampNeg x3 := ⟨_, rfl⟩
    have hP : va_P (dC, dI) vwCl [(h0, .inr (7, mX7 h1 h2 h3 h4 h5 h6 h7 v0)), (h1, .inl (k1, 40, .inl f_18)), (h2, .inl (k2, 40, .inl f_28)), (h3, .inl (k3, 40, .inl f_38)), (h4, .inl (k4, 40, .inl f4)), (h5, .inl (k5, 40, .inl f5)), (h7, .inl (k7, 270, .inl f7))] H := by rw [e_f_38]; exact hP
    have hD : va_D A [(h0, .inr (7, mX7 h1 h2 h3 h4 h5 h6 h7 v0)), (h1, .inl (k1, 40, .inl f_18)), (h2, .inl (k2, 40, .inl f_28)), (h3, .inl (k3, 40, .inl f_38)), (h4, .inl (k4, 40, .inl f4)), (h5, .inl (k5, 40, .inl f5)), (h7, .inl (k7, 270, .inl f7))] := by rw [e_f_38]; exact hD
    refine lv_aload_n hx hb dX7_addLeaf_39 rfl (lv_at hl 0 rfl) ?_
    refine va_get (D := (dC, dI)) (ci := 7) (v := .ref h4) (C := RX7) (T := TX7) (N := 12) hx hb hG zuX7 hown hK hP 0 rfl rfl 3 (by decide) (hG _ zw272) (fun _ h9 => h9) rfl dX7_addLeaf_40 ?_
    refine lv_aload_n hx hb dX7_addLeaf_43 rfl (lv_at hl 0 rfl) ?_
    refine va_get (D := (dC, dI)) (ci := 7) (v := .int (v0 7)) (C := RX7) (T := TX7) (N := 12) hx hb hG zuX7 hown hK hP 0 rfl rfl 7 (by decide) (hG _ zw259) (fun _ h9 => h9) rfl dX7_addLeaf_44 ?_
    refine lv_iload hx hb dX7_addLeaf_47 (lv_at hl 4 rfl) ?_
    refine va_iast hx hb hK hP hD hS 4 3 rfl rfl (zin_lit ⟨by omega, by omega⟩) dX7_addLeaf_49 (fun H locs hP hD hS => ?_)
    obtain ⟨f_49, e_f_49⟩ : ∃ z : Nat → Int32, z = upd f4 ((v0 7) : Int32).toNatClampNeg x4 := ⟨_, rfl⟩
    have hP : va_P (dC, dI) vwCl [(h0, .inr (7, mX7 h1 h2 h3 h4 h5 h6 h7 v0)), (h1, .inl (k1, 40, .inl f_18)), (h2, .inl (k2, 40, .inl f_28)), (h3, .inl (k3, 40, .inl f_38)), (h4, .inl (k4, 40, .inl f_49)), (h5, .inl (k5, 40, .inl f5)), (h7, .inl (k7, 270, .inl f7))] H := by rw [e_f_49]; exact hP
    have hD : va_D A [(h0, .inr (7, mX7 h1 h2 h3 h4 h5 h6 h7 v0)), (h1, .inl (k1, 40, .inl f_18)), (h2, .inl (k2, 40, .inl f_28)), (h3, .inl (k3, 40, .inl f_38)), (h4, .inl (k4, 40, .inl f_49)), (h5, .inl (k5, 40, .inl f5)), (h7, .inl (k7, 270, .inl f7))] := by rw [e_f_49]; exact hD
    refine lv_aload_n hx hb dX7_addLeaf_50 rfl (lv_at hl 0 rfl) ?_
    refine va_get (D := (dC, dI)) (ci := 7) (v := .ref h5) (C := RX7) (T := TX7) (N := 12) hx hb hG zuX7 hown hK hP 0 rfl rfl 4 (by decide) (hG _ zw273) (fun _ h9 => h9) rfl dX7_addLeaf_51 ?_
    refine lv_aload_n hx hb dX7_addLeaf_54 rfl (lv_at hl 0 rfl) ?_
    refine va_get (D := (dC, dI)) (ci := 7) (v := .int (v0 7)) (C := RX7) (T := TX7) (N := 12) hx hb hG zuX7 hown hK hP 0 rfl rfl 7 (by decide) (hG _ zw259) (fun _ h9 => h9) rfl dX7_addLeaf_55 ?_
    refine lv_iload hx hb dX7_addLeaf_58 (lv_at hl 5 rfl) ?_
    refine va_zast hx hb hK hP hD hS 5 4 rfl rfl (zin_lit ⟨by omega, by omega⟩) dX7_addLeaf_60 (fun H locs hP hD hS => ?_)
    obtain ⟨f_60, e_f_60⟩ : ∃ z : Nat → Int32, z = upd f5 ((v0 7) : Int32).toNatClampNeg (vp_nar .boolean x5) := ⟨_, rfl⟩
    have hP : va_P (dC, dI) vwCl [(h0, .inr (7, mX7 h1 h2 h3 h4 h5 h6 h7 v0)), (h1, .inl (k1, 40, .inl f_18)), (h2, .inl (k2, 40, .inl f_28)), (h3, .inl (k3, 40, .inl f_38)), (h4, .inl (k4, 40, .inl f_49)), (h5, .inl (k5, 40, .inl f_60)), (h7, .inl (k7, 270, .inl f7))] H := by rw [e_f_60]; exact hP
    have hD : va_D A [(h0, .inr (7, mX7 h1 h2 h3 h4 h5 h6 h7 v0)), (h1, .inl (k1, 40, .inl f_18)), (h2, .inl (k2, 40, .inl f_28)), (h3, .inl (k3, 40, .inl f_38)), (h4, .inl (k4, 40, .inl f_49)), (h5, .inl (k5, 40, .inl f_60)), (h7, .inl (k7, 270, .inl f7))] := by rw [e_f_60]; exact hD
    refine lv_aload_n hx hb dX7_addLeaf_61 rfl (lv_at hl 0 rfl) ?_
    refine lv_iload_n hx hb dX7_addLeaf_62 rfl (lv_at hl 1 rfl) ?_
    refine lv_aload_n hx hb dX7_addLeaf_63 rfl (lv_at hl 0 rfl) ?_
    refine va_get (D := (dC, dI)) (ci := 7) (v := .int (v0 7)) (C := RX7) (T := TX7) (N := 12) hx hb hG zuX7 hown hK hP 0 rfl rfl 7 (by decide) (hG _ zw259) (fun _ h9 => h9) rfl dX7_addLeaf_64 ?_
    have hPc := hP.sub (ws' := [(h0, .inr (7, mX7 h1 h2 h3 h4 h5 h6 h7 v0)), (h7, .inl (k7, 270, .inl f7))]) [0, 6] rfl
    have hDc := hD.sub (ws' := [(h0, .inr (7, mX7 h1 h2 h3 h4 h5 h6 h7 v0)), (h7, .inl (k7, 270, .inl f7))]) [0, 6] (by decide) rfl
    have hKc := hK.sub (tys' := [(k7, .int)]) [5] rfl
    have hFc := va_free (wc := [(h0, .inr (7, mX7 h1 h2 h3 h4 h5 h6 h7 v0)), (h7, .inl (k7, 270, .inl f7))]) hD hS hA [0, 6] rfl
    refine va_callv (va_runV (As := [.int x1, .int (v0 7)]) (rest := []) ⟨hx, hb, hml, hown, hG⟩ (sX7_addStep_0 l dC dI adK adV h0 h7 h1 h2 h3 h4 h5 h6 k7 H.size v0 f7 x1 (v0 7) hv0 hf7 ⟨show (1 : Int) ≤ (x1 : Int32).toInt from by omega, show (x1 : Int32).toInt ≤ (11 : Int) from by omega⟩ ⟨show ((-1) : Int) ≤ ((v0 7) : Int32).toInt from by omega, show ((v0 7) : Int32).toInt ≤ (999 : Int) from by omega⟩) (cwV 2 hG (zgV zw276 zw277 zw278 zw268 zw279) rfl rfl rfl (by decide +kernel) ⟨Nat.le_of_ble_eq_true rfl, Nat.le_of_ble_eq_true rfl⟩) ⟨zPc_blind, va_recv hKc hPc (ci := 7) (q0 := 0) rfl rfl, zPc_pre hPc hKc hDc hE hS hFc hZ⟩ rfl rfl hl.1 rfl (lv_room (Nat.le_of_ble_eq_true rfl)) dX7_addLeaf_67 ⟨Nat.le_of_ble_eq_true rfl, Nat.le_of_ble_eq_true rfl⟩) hS (fun q _ h => hFc q h) hFc (fun u67_ t H1 locs ht hvm hw hB hz1 hk1 hS => ?_)
    have hw : (1 ≤ (u67_ 0).toInt ∧ (u67_ 0).toInt ≤ 270) := hw
    have b_ := hw
    obtain ⟨w67_, a67_, b67_, ha67_0, hP1, hK1, hD1⟩ := hB
    rw [ht] at hP1
    obtain ⟨hP, hD⟩ := va_join (wr := [(h1, .inl (k1, 40, .inl f_18)), (h2, .inl (k2, 40, .inl f_28)), (h3, .inl (k3, 40, .inl f_38)), (h4, .inl (k4, 40, .inl f_49)), (h5, .inl (k5, 40, .inl f_60))]) (w1 := [(h0, .inr (7, mX7 h1 h2 h3 h4 h5 h6 h7 (upd v0 9 (u67_ 0)))), (h7, .inl (k7, 270, .inl (a67_ 0)))]) hP hD [0, 6] [1, 2, 3, 4, 5] rfl rfl (by decide) (by decide) hk1 hFc hP1 hD1
    have hP : va_P (dC, dI) vwCl [(h0, .inr (7, mX7 h1 h2 h3 h4 h5 h6 h7 (upd v0 9 (u67_ 0)))), (h1, .inl (k1, 40, .inl f_18)), (h2, .inl (k2, 40, .inl f_28)), (h3, .inl (k3, 40, .inl f_38)), (h4, .inl (k4, 40, .inl f_49)), (h5, .inl (k5, 40, .inl f_60)), (h7, .inl (k7, 270, .inl (a67_ 0)))] H1 := hP.sub [5, 0, 1, 2, 3, 4, 6] rfl
    have hD : va_D A [(h0, .inr (7, mX7 h1 h2 h3 h4 h5 h6 h7 (upd v0 9 (u67_ 0)))), (h1, .inl (k1, 40, .inl f_18)), (h2, .inl (k2, 40, .inl f_28)), (h3, .inl (k3, 40, .inl f_38)), (h4, .inl (k4, 40, .inl f_49)), (h5, .inl (k5, 40, .inl f_60)), (h7, .inl (k7, 270, .inl (a67_ 0)))] := hD.sub [5, 0, 1, 2, 3, 4, 6] (by decide) rfl
    generalize H1 = H at hP hS ⊢
    clear hz1
    refine lv_aload_n hx hb dX7_addLeaf_70 rfl (lv_at hl 0 rfl) ?_
    refine lv_dup hx hb dX7_addLeaf_71 rfl ?_
    refine va_get (D := (dC, dI)) (ci := 7) (v := .int (v0 7)) (C := RX7) (T := TX7) (N := 12) hx hb hG zuX7 hown hK hP 0 rfl rfl 7 (by decide) (hG _ zw259) (fun _ h9 => h9) rfl dX7_addLeaf_72 ?_
    refine lv_iconst (v := 1) hx hb dX7_addLeaf_75 (by decide) ?_
    refine lv_iadd hx hb dX7_addLeaf_76 ?_
    refine lv_topi (fun z76 e_z76 => ?_)
    have b_ := zadd rfl zk_1 e_z76 (by omega) (by omega)
    refine va_put (D := (dC, dI)) (ci := 7) (v := .int z76) (ty := .int) (C := RX7) (T := TX7) (N := 12) hx hb hG zuX7 tyX7 tyX7_ok nmX7 hown hK hP hD hS 0 rfl rfl 7 (by decide) (hG _ zw259) (fun _ h9 => h9) rfl (by decide +kernel) rfl rfl (Nat.le_of_ble_eq_true rfl) dX7_addLeaf_77 (fun H locs hP hD hS => ?_)
    have hP : va_P (dC, dI) vwCl [(h0, .inr (7, mX7 h1 h2 h3 h4 h5 h6 h7 (upd (upd v0 7 z76) 9 (u67_ 0)))), (h1, .inl (k1, 40, .inl f_18)), (h2, .inl (k2, 40, .inl f_28)), (h3, .inl (k3, 40, .inl f_38)), (h4, .inl (k4, 40, .inl f_49)), (h5, .inl (k5, 40, .inl f_60)), (h7, .inl (k7, 270, .inl (a67_ 0)))] H := hP
    have hD : va_D A [(h0, .inr (7, mX7 h1 h2 h3 h4 h5 h6 h7 (upd (upd v0 7 z76) 9 (u67_ 0)))), (h1, .inl (k1, 40, .inl f_18)), (h2, .inl (k2, 40, .inl f_28)), (h3, .inl (k3, 40, .inl f_38)), (h4, .inl (k4, 40, .inl f_49)), (h5, .inl (k5, 40, .inl f_60)), (h7, .inl (k7, 270, .inl (a67_ 0)))] := hD
    refine lv_aload_n hx hb dX7_addLeaf_80 rfl (lv_at hl 0 rfl) ?_
    refine lv_dup hx hb dX7_addLeaf_81 rfl ?_
    refine va_get (D := (dC, dI)) (ci := 7) (v := .int (v0 10)) (C := RX7) (T := TX7) (N := 12) hx hb hG zuX7 hown hK hP 0 rfl rfl 10 (by decide) (hG _ zw262) (fun _ h9 => h9) rfl dX7_addLeaf_82 ?_
    refine lv_iconst (v := 1) hx hb dX7_addLeaf_85 (by decide) ?_
    have b_ : -2147483648 ≤ (v0 10).toInt ∧ (v0 10).toInt ≤ 2147483647 := ⟨zlo _, zhi _⟩
    refine lv_iadd hx hb dX7_addLeaf_86 ?_
    refine lv_topi (fun z86 e_z86 => ?_)
    refine va_put (D := (dC, dI)) (ci := 7) (v := .int z86) (ty := .int) (C := RX7) (T := TX7) (N := 12) hx hb hG zuX7 tyX7 tyX7_ok nmX7 hown hK hP hD hS 0 rfl rfl 10 (by decide) (hG _ zw262) (fun _ h9 => h9) rfl (by decide +kernel) rfl rfl (Nat.le_of_ble_eq_true rfl) dX7_addLeaf_87 (fun H locs hP hD hS => ?_)
    have hP : va_P (dC, dI) vwCl [(h0, .inr (7, mX7 h1 h2 h3 h4 h5 h6 h7 (upd (upd (upd v0 7 z76) 9 (u67_ 0)) 10 z86))), (h1, .inl (k1, 40, .inl f_18)), (h2, .inl (k2, 40, .inl f_28)), (h3, .inl (k3, 40, .inl f_38)), (h4, .inl (k4, 40, .inl f_49)), (h5, .inl (k5, 40, .inl f_60)), (h7, .inl (k7, 270, .inl (a67_ 0)))] H := hP
    have hD : va_D A [(h0, .inr (7, mX7 h1 h2 h3 h4 h5 h6 h7 (upd (upd (upd v0 7 z76) 9 (u67_ 0)) 10 z86))), (h1, .inl (k1, 40, .inl f_18)), (h2, .inl (k2, 40, .inl f_28)), (h3, .inl (k3, 40, .inl f_38)), (h4, .inl (k4, 40, .inl f_49)), (h5, .inl (k5, 40, .inl f_60)), (h7, .inl (k7, 270, .inl (a67_ 0)))] := hD
    refine lv_aload_n hx hb dX7_addLeaf_90 rfl (lv_at hl 0 rfl) ?_
    refine lv_aload_n hx hb dX7_addLeaf_91 rfl (lv_at hl 0 rfl) ?_
    refine va_get (D := (dC, dI)) (ci := 7) (v := .int (v0 11)) (C := RX7) (T := TX7) (N := 12) hx hb hG zuX7 hown hK hP 0 rfl rfl 11 (by decide) (hG _ zw263) (fun _ h9 => h9) rfl dX7_addLeaf_92 ?_
    refine lv_aload_n hx hb dX7_addLeaf_95 rfl (lv_at hl 0 rfl) ?_
    refine va_get (D := (dC, dI)) (ci := 7) (v := .int z86) (C := RX7) (T := TX7) (N := 12) hx hb hG zuX7 hown hK hP 0 rfl rfl 10 (by decide) (hG _ zw262) (fun _ h9 => h9) rfl dX7_addLeaf_96 ?_
    have b_ : -2147483648 ≤ (v0 11).toInt ∧ (v0 11).toInt ≤ 2147483647 := ⟨zlo _, zhi _⟩
    have b_ : -2147483648 ≤ z86.toInt ∧ z86.toInt ≤ 2147483647 := ⟨zlo _, zhi _⟩
    refine va_mmax hx hb (by rw [hml]; exact hl.1.symm) hown (hG _ zw275) (hG _ zw8) (hG _ zw9) (hG _ zw10) (Nat.le_of_ble_eq_true rfl) (Nat.le_of_ble_eq_true rfl) (Nat.le_of_ble_eq_true rfl) (Nat.le_of_ble_eq_true rfl) dX7_addLeaf_99 ?_
    refine lv_topi (fun z99 e_z99 => ?_)
    have b_ := zmax rfl rfl e_z99
    refine va_put (D := (dC, dI)) (ci := 7) (v := .int z99) (ty := .int) (C := RX7) (T := TX7) (N := 12) hx hb hG zuX7 tyX7 tyX7_ok nmX7 hown hK hP hD hS 0 rfl rfl 11 (by decide) (hG _ zw263) (fun _ h9 => h9) rfl (by decide +kernel) rfl rfl (Nat.le_of_ble_eq_true rfl) dX7_addLeaf_102 (fun H locs hP hD hS => ?_)
    have hP : va_P (dC, dI) vwCl [(h0, .inr (7, mX7 h1 h2 h3 h4 h5 h6 h7 (upd (upd (upd (upd v0 7 z76) 9 (u67_ 0)) 10 z86) 11 z99))), (h1, .inl (k1, 40, .inl f_18)), (h2, .inl (k2, 40, .inl f_28)), (h3, .inl (k3, 40, .inl f_38)), (h4, .inl (k4, 40, .inl f_49)), (h5, .inl (k5, 40, .inl f_60)), (h7, .inl (k7, 270, .inl (a67_ 0)))] H := hP
    have hD : va_D A [(h0, .inr (7, mX7 h1 h2 h3 h4 h5 h6 h7 (upd (upd (upd (upd v0 7 z76) 9 (u67_ 0)) 10 z86) 11 z99))), (h1, .inl (k1, 40, .inl f_18)), (h2, .inl (k2, 40, .inl f_28)), (h3, .inl (k3, 40, .inl f_38)), (h4, .inl (k4, 40, .inl f_49)), (h5, .inl (k5, 40, .inl f_60)), (h7, .inl (k7, 270, .inl (a67_ 0)))] := hD
    refine W.widen (k := 0) (n := 0) (by decide) (by decide) ?_
    have hpost : (1 ≤ z76.toInt ∧ z76.toInt ≤ 40) ∧ (0 ≤ (u67_ 0).toInt ∧ (u67_ 0).toInt ≤ 270) := ⟨⟨by omega, by omega⟩, ⟨by omega, by omega⟩⟩
    have hP9 : va_P (dC, dI) vwCl [(h0, .inr (7, mX7 h1 h2 h3 h4 h5 h6 h7 (upd (upd (upd (upd v0 7 z76) 9 (u67_ 0)) 10 z86) 11 z99))), (h1, .inl (k1, 40, .inl f_18)), (h2, .inl (k2, 40, .inl f_28)), (h3, .inl (k3, 40, .inl f_38)), (h4, .inl (k4, 40, .inl f_49)), (h5, .inl (k5, 40, .inl f_60)), (h7, .inl (k7, 270, .inl (a67_ 0)))] H := hP
    have hD9 : va_D A [(h0, .inr (7, mX7 h1 h2 h3 h4 h5 h6 h7 (upd (upd (upd (upd v0 7 z76) 9 (u67_ 0)) 10 z86) 11 z99))), (h1, .inl (k1, 40, .inl f_18)), (h2, .inl (k2, 40, .inl f_28)), (h3, .inl (k3, 40, .inl f_38)), (h4, .inl (k4, 40, .inl f_49)), (h5, .inl (k5, 40, .inl f_60)), (h7, .inl (k7, 270, .inl (a67_ 0)))] := hD
    exact W.vret hx hb hr (fun t ht hW => ⟨⟨(fun i => ([z76, (u67_ 0), z86, z99] : List (Int32)).getD i 0), rfl, hpost, (fun _ => 0), (fun i => ([f_18, f_28, f_38, f_49, f_60, (a67_ 0)] : List (Nat → Int32)).getD i (fun _ => 0)), (fun _ => (fun _ => 0)), ha67_0, by rw [ht]; exact hP9, va_K.moved hW.alike hK, hD9⟩, hS.F ht⟩) hS.2.2 dX7_addLeaf_105
set_option maxHeartbeats 8000000 in
set_option maxRecDepth 100000 in
theorem sX7_addJoint_0 (l : Launch) (dC : Nat → ClassId) (dI : Nat → Nat → Nat) (adK adV : Nat → Nat) (h0 : Nat) (h7 : Nat) (h1 : Nat) (h2 : Nat) (h3 : Nat) (h4 : Nat) (h5 : Nat) (h6 : Nat) (k7 : ClassId) (sz : Nat) (v0 : Nat → Int32) (f7 : Nat → Int32) (x1 : Int32) (x2 : Int32) (hv0 : zR rg_Query v0) (hf7 : zA 0 12000 f7) (hx1 : 1 ≤ x1.toInt ∧ x1.toInt ≤ 11) (hx2 : (-1) ≤ x2.toInt ∧ x2.toInt ≤ 999) : Met l yX7_addJoint (zw yX7_addJoint cX7_addJoint 3 none) { frames := 1, cells := 0, slots := 0, locals := 22 } (zPc dC dI adK adV [.ref h0, .int x1, .int x2] sz [(h0, .inr (7, mX7 h1 h2 h3 h4 h5 h6 h7 v0)), (h7, .inl (k7, 270, .inl f7))] [(k7, .int)]) (va_Qv (fun (u : Nat → Int32) => (1 ≤ (u 0).toInt ∧ (u 0).toInt ≤ 270)) (fun (u : Nat → Int32) (t : State) => ∃ (ww : Nat → Int64) (aa : Nat → Nat → Int32) (bb : Nat → Nat → Int64), zA 0 12000 (aa 0) ∧ va_P (dC, dI) vwCl [(h0, .inr (7, mX7 h1 h2 h3 h4 h5 h6 h7 (upd (upd v0 9 (u 0)) 10 (u 1)))), (h7, .inl (k7, 270, .inl (aa 0)))] t.heap ∧ va_K (dC, dI) vwCl [(k7, .int)] t ∧ va_D (va_A [(h0, .inr (7, mX7 h1 h2 h3 h4 h5 h6 h7 v0)), (h7, .inl (k7, 270, .inl f7))] sz) [(h0, .inr (7, mX7 h1 h2 h3 h4 h5 h6 h7 (upd (upd v0 9 (u 0)) 10 (u 1)))), (h7, .inl (k7, 270, .inl (aa 0)))]) (va_A [(h0, .inr (7, mX7 h1 h2 h3 h4 h5 h6 h7 v0)), (h7, .inl (k7, 270, .inl f7))] sz)) 0 0 (va_A [(h0, .inr (7, mX7 h1 h2 h3 h4 h5 h6 h7 v0)), (h7, .inl (k7, 270, .inl f7))] sz) := by
  refine Met.ofW (cc := cX7_addJoint) (maxL := 3) (ret := none) (by decide) rfl ?_
  intro p e s m args below meth c s₁ B hml hv
  obtain ⟨rfl, hsz, hP, hK, hD0, hE, hZ⟩ := hv
  have hx := B.exec
  have hb := B.bytes
  have hr := B.returns
  have hG : ∀ w ∈ zG, w.before _ s = true := fun w h => atoms_spec (ws := (zw yX7_addJoint cX7_addJoint 3 none)) B.pre w (List.mem_cons_of_mem _ h)
  have hown : s.vm.findClass RX7 = some m.cls := findClass_of_methodNamed B.named
  have hlocks := B.notSynchronized

  subst hsz
  have hD := hD0.self (sz := s.heap.size)
  generalize hAe : va_A [(h0, .inr (7, mX7 h1 h2 h3 h4 h5 h6 h7 v0)), (h7, .inl (k7, 270, .inl f7))] s.heap.size = A at hD hZ ⊢
  have hA : ∀ q : Nat, s.heap.size ≤ q → A q := fun q h => by rw [← hAe]; exact Or.inr h
  have hS : va_S A s.heap s.heap [] := va_S.rf
  have hl := lv_entry ([.ref h0, .int x1, .int x2]) (n := 3) (Nat.le_of_ble_eq_true rfl)
  rw [lg_entry_eq]
  generalize (lg_sl ([.ref h0, .int x1, .int x2]) ++ List.replicate (3 - (lg_sl ([.ref h0, .int x1, .int x2])).length) Slot.unset).toArray = ls at hl ⊢
  have hl : lv_has ls 3 [(0, .ref h0), (1, .int x1), (2, .int x2)] := hl
  refine lv_aload_n hx hb dX7_addJoint_0 rfl (lv_at hl 0 rfl) ?_
  refine lv_iload_n hx hb dX7_addJoint_1 rfl (lv_at hl 1 rfl) ?_
  refine lv_iload_n hx hb dX7_addJoint_2 rfl (lv_at hl 2 rfl) ?_
  have hPc := hP.sub (ws' := [(h0, .inr (7, mX7 h1 h2 h3 h4 h5 h6 h7 v0)), (h7, .inl (k7, 270, .inl f7))]) [0, 1] rfl
  have hDc := hD.sub (ws' := [(h0, .inr (7, mX7 h1 h2 h3 h4 h5 h6 h7 v0)), (h7, .inl (k7, 270, .inl f7))]) [0, 1] (by decide) rfl
  have hKc := hK.sub (tys' := [(k7, .int)]) [0] rfl
  have hFc := va_free (wc := [(h0, .inr (7, mX7 h1 h2 h3 h4 h5 h6 h7 v0)), (h7, .inl (k7, 270, .inl f7))]) hD hS hA [0, 1] rfl
  refine va_callv (va_runV (As := [.int x1, .int x2]) (rest := []) ⟨hx, hb, hml, hown, hG⟩ (sX7_addStep_0 l dC dI adK adV h0 h7 h1 h2 h3 h4 h5 h6 k7 s.heap.size v0 f7 x1 x2 hv0 hf7 ⟨show (1 : Int) ≤ (x1 : Int32).toInt from by omega, show (x1 : Int32).toInt ≤ (11 : Int) from by omega⟩ ⟨show ((-1) : Int) ≤ (x2 : Int32).toInt from by omega, show (x2 : Int32).toInt ≤ (999 : Int) from by omega⟩) (cwV 2 hG (zgV zw276 zw277 zw278 zw268 zw279) rfl rfl rfl (by decide +kernel) ⟨Nat.le_of_ble_eq_true rfl, Nat.le_of_ble_eq_true rfl⟩) ⟨zPc_blind, va_recv hKc hPc (ci := 7) (q0 := 0) rfl rfl, zPc_pre hPc hKc hDc hE hS hFc hZ⟩ rfl rfl hl.1 rfl (lv_room (Nat.le_of_ble_eq_true rfl)) dX7_addJoint_3 ⟨Nat.le_of_ble_eq_true rfl, Nat.le_of_ble_eq_true rfl⟩) hS (fun q _ h => hFc q h) hFc (fun u3_ t H1 locs ht hvm hw hB hz1 hk1 hS => ?_)
  have hw : (1 ≤ (u3_ 0).toInt ∧ (u3_ 0).toInt ≤ 270) := hw
  have b_ := hw
  obtain ⟨w3_, a3_, b3_, ha3_0, hP1, hK1, hD1⟩ := hB
  rw [ht] at hP1
  obtain ⟨hP, hD⟩ := va_join (wr := []) (w1 := [(h0, .inr (7, mX7 h1 h2 h3 h4 h5 h6 h7 (upd v0 9 (u3_ 0)))), (h7, .inl (k7, 270, .inl (a3_ 0)))]) hP hD [0, 1] [] rfl rfl (by decide) (by decide) hk1 hFc hP1 hD1
  have hP : va_P (dC, dI) vwCl [(h0, .inr (7, mX7 h1 h2 h3 h4 h5 h6 h7 (upd v0 9 (u3_ 0)))), (h7, .inl (k7, 270, .inl (a3_ 0)))] H1 := hP.sub [0, 1] rfl
  have hD : va_D A [(h0, .inr (7, mX7 h1 h2 h3 h4 h5 h6 h7 (upd v0 9 (u3_ 0)))), (h7, .inl (k7, 270, .inl (a3_ 0)))] := hD.sub [0, 1] (by decide) rfl
  generalize H1 = H at hP hS ⊢
  clear hz1
  refine lv_aload_n hx hb dX7_addJoint_6 rfl (lv_at hl 0 rfl) ?_
  refine lv_dup hx hb dX7_addJoint_7 rfl ?_
  refine va_get (D := (dC, dI)) (ci := 7) (v := .int (v0 10)) (C := RX7) (T := TX7) (N := 12) hx hb hG zuX7 hown hK hP 0 rfl rfl 10 (by decide) (hG _ zw262) (fun _ h9 => h9) rfl dX7_addJoint_8 ?_
  refine lv_iconst (v := 1) hx hb dX7_addJoint_11 (by decide) ?_
  have b_ : -2147483648 ≤ (v0 10).toInt ∧ (v0 10).toInt ≤ 2147483647 := ⟨zlo _, zhi _⟩
  refine lv_isub hx hb dX7_addJoint_12 ?_
  refine lv_topi (fun z12 e_z12 => ?_)
  refine va_put (D := (dC, dI)) (ci := 7) (v := .int z12) (ty := .int) (C := RX7) (T := TX7) (N := 12) hx hb hG zuX7 tyX7 tyX7_ok nmX7 hown hK hP hD hS 0 rfl rfl 10 (by decide) (hG _ zw262) (fun _ h9 => h9) rfl (by decide +kernel) rfl rfl (Nat.le_of_ble_eq_true rfl) dX7_addJoint_13 (fun H locs hP hD hS => ?_)
  have hP : va_P (dC, dI) vwCl [(h0, .inr (7, mX7 h1 h2 h3 h4 h5 h6 h7 (upd (upd v0 9 (u3_ 0)) 10 z12))), (h7, .inl (k7, 270, .inl (a3_ 0)))] H := hP
  have hD : va_D A [(h0, .inr (7, mX7 h1 h2 h3 h4 h5 h6 h7 (upd (upd v0 9 (u3_ 0)) 10 z12))), (h7, .inl (k7, 270, .inl (a3_ 0)))] := hD
  refine W.widen (k := 0) (n := 0) (by decide) (by decide) ?_
  have b_ : -2147483648 ≤ z12.toInt ∧ z12.toInt ≤ 2147483647 := ⟨zlo _, zhi _⟩
  have hpost : (1 ≤ (u3_ 0).toInt ∧ (u3_ 0).toInt ≤ 270) := ⟨by omega, by omega⟩
  have hP9 : va_P (dC, dI) vwCl [(h0, .inr (7, mX7 h1 h2 h3 h4 h5 h6 h7 (upd (upd v0 9 (u3_ 0)) 10 z12))), (h7, .inl (k7, 270, .inl (a3_ 0)))] H := hP
  have hD9 : va_D A [(h0, .inr (7, mX7 h1 h2 h3 h4 h5 h6 h7 (upd (upd v0 9 (u3_ 0)) 10 z12))), (h7, .inl (k7, 270, .inl (a3_ 0)))] := hD
  exact W.vret hx hb hr (fun t ht hW => ⟨⟨(fun i => ([(u3_ 0), z12] : List (Int32)).getD i 0), rfl, hpost, (fun _ => 0), (fun i => ([(a3_ 0)] : List (Nat → Int32)).getD i (fun _ => 0)), (fun _ => (fun _ => 0)), ha3_0, by rw [ht]; exact hP9, va_K.moved hW.alike hK, hD9⟩, hS.F ht⟩) hS.2.2 dX7_addJoint_16
set_option maxHeartbeats 8000000 in
set_option maxRecDepth 100000 in
theorem sJ7_fill_53178_4 (l : Launch) (dC : Nat → ClassId) (dI : Nat → Nat → Nat) (adK adV : Nat → Nat) (h0 : Nat) (k0 : ClassId) (sz : Nat) (f0 : Nat → Int32) (x1 : Int32) : Met l yJ7_fill_53178 (zw yJ7_fill_53178 cJ7_fill_53178 4 none) { frames := 0, cells := 0, slots := 0, locals := 0 } (zPc dC dI adK adV [.ref h0, .int x1] sz [(h0, .inl (k0, 26, .inl f0))] [(k0, .int)]) (va_Qv (fun (u : Nat → Int32) => True) (fun (u : Nat → Int32) (t : State) => ∃ (ww : Nat → Int64) (aa : Nat → Nat → Int32) (bb : Nat → Nat → Int64), (∀ j : Nat, (j : Int) < 26 → (aa 0) j = (x1 : Int32)) ∧ va_P (dC, dI) vwCl [(h0, .inl (k0, 26, .inl (aa 0)))] t.heap ∧ va_K (dC, dI) vwCl [(k0, .int)] t ∧ va_D (va_A [(h0, .inl (k0, 26, .inl f0))] sz) [(h0, .inl (k0, 26, .inl (aa 0)))]) (va_A [(h0, .inl (k0, 26, .inl f0))] sz)) 0 0 (va_A [(h0, .inl (k0, 26, .inl f0))] sz) := by
  refine Met.ofW (cc := cJ7_fill_53178) (maxL := 4) (ret := none) (by decide) rfl ?_
  intro p e s m args below meth c s₁ B hml hv
  obtain ⟨rfl, hsz, hP, hK, hD0, hE, hZ⟩ := hv
  have hx := B.exec
  have hb := B.bytes
  have hr := B.returns
  have hG : ∀ w ∈ zG, w.before _ s = true := fun w h => atoms_spec (ws := (zw yJ7_fill_53178 cJ7_fill_53178 4 none)) B.pre w (List.mem_cons_of_mem _ h)
  have hown : s.vm.findClass RJ7 = some m.cls := findClass_of_methodNamed B.named
  have hlocks := B.notSynchronized

  subst hsz
  have hD := hD0.self (sz := s.heap.size)
  generalize hAe : va_A [(h0, .inl (k0, 26, .inl f0))] s.heap.size = A at hD hZ ⊢
  have hA : ∀ q : Nat, s.heap.size ≤ q → A q := fun q h => by rw [← hAe]; exact Or.inr h
  have hS : va_S A s.heap s.heap [] := va_S.rf
  have hl := lv_entry ([.ref h0, .int x1]) (n := 4) (Nat.le_of_ble_eq_true rfl)
  rw [lg_entry_eq]
  generalize (lg_sl ([.ref h0, .int x1]) ++ List.replicate (4 - (lg_sl ([.ref h0, .int x1])).length) Slot.unset).toArray = ls at hl ⊢
  have hl : lv_has ls 4 [(0, .ref h0), (1, .int x1)] := hl
  have b_ := zk_0
  refine lv_iconst (v := 0) hx hb dJ7_fill_53178_0 (by decide) ?_
  refine lv_istore_n (lv' := [(2, .int 0), (0, .ref h0), (1, .int x1)]) hx hb dJ7_fill_53178_1 rfl hl (by decide) rfl (fun ls hl => ?_)
  refine lv_aload_n hx hb dJ7_fill_53178_2 rfl (lv_at hl 1 rfl) ?_
  refine va_alen (v := 26) hx hb hK hP 0 0 rfl rfl (show Int32.ofNat 26 = 26 from by decide +kernel) dJ7_fill_53178_3 ?_
  refine lv_istore_n (lv' := [(3, .int 26), (2, .int 0), (0, .ref h0), (1, .int x1)]) hx hb dJ7_fill_53178_4 rfl hl (by decide) rfl (fun ls hl => ?_)
  refine zcutL (fun u5_ => (26 - (u5_ 0).toInt).toNat) (fun H locs ls u5_ w5_ a5_ b5_ => va_P (dC, dI) vwCl [(h0, .inl (k0, 26, .inl (a5_ 0)))] H ∧ va_D A [(h0, .inl (k0, 26, .inl (a5_ 0)))] ∧ va_S A s.heap H locs ∧ lv_has ls 4 [(0, .ref h0), (1, .int x1), (2, .int (u5_ 0)), (3, .int 26)] ∧ (0 ≤ (u5_ 0).toInt ∧ (u5_ 0).toInt ≤ 26) ∧ (∀ j : Nat, (j : Int) < (u5_ 0).toInt → (a5_ 0) j = (x1 : Int32))) (fun ls u5_ w5_ => F0 m 5 ls []) 0 0 ?_ (fun hJ5 => ?_)
  · skip
    intro H locs ls u5_ w5_ a5_ b5_ hc hJ5
    obtain ⟨hP, hD, hS, hl, b_, hI5_0⟩ := hc
    refine lv_iload_n hx hb dJ7_fill_53178_5 rfl (lv_at hl 2 rfl) ?_
    refine lv_iload_n hx hb dJ7_fill_53178_6 rfl (lv_at hl 3 rfl) ?_
    refine lv_icmp_ge (tgt := 20) hx hb dJ7_fill_53178_7 (by decide) (fun c_ => ?_) (fun c_ => ?_)
    · skip
      have b_ := zT_ge rfl zk_26 c_
      refine W.widen (k := 0) (n := 0) (by decide) (by decide) ?_
      have hpost : True := trivial
      have hP9 : va_P (dC, dI) vwCl [(h0, .inl (k0, 26, .inl (a5_ 0)))] H := hP
      have hD9 : va_D A [(h0, .inl (k0, 26, .inl (a5_ 0)))] := hD
      have hB0 : ∀ j : Nat, (j : Int) < 26 → (a5_ 0) j = (x1 : Int32) := by intro j hj; exact hI5_0 j (by omega)
      exact W.vret hx hb hr (fun t ht hW => ⟨⟨(fun _ => 0), rfl, hpost, (fun _ => 0), (fun i => ([(a5_ 0)] : List (Nat → Int32)).getD i (fun _ => 0)), (fun _ => (fun _ => 0)), hB0, by rw [ht]; exact hP9, va_K.moved hW.alike hK, hD9⟩, hS.F ht⟩) hS.2.2 dJ7_fill_53178_20
    · skip
      have b_ := zF_ge rfl zk_26 c_
      refine lv_aload_n hx hb dJ7_fill_53178_10 rfl (lv_at hl 0 rfl) ?_
      refine lv_iload_n hx hb dJ7_fill_53178_11 rfl (lv_at hl 2 rfl) ?_
      refine lv_iload_n hx hb dJ7_fill_53178_12 rfl (lv_at hl 1 rfl) ?_
      refine va_iast hx hb hK hP hD hS 0 0 rfl rfl (zin_lit ⟨by omega, by omega⟩) dJ7_fill_53178_13 (fun H locs hP hD hS => ?_)
      obtain ⟨f_13, e_f_13⟩ : ∃ z : Nat → Int32, z = upd (a5_ 0) ((u5_ 0) : Int32).toNatClampNeg x1 := ⟨_, rfl⟩
      have hP : va_P (dC, dI) vwCl [(h0, .inl (k0, 26, .inl f_13))] H := by rw [e_f_13]; exact hP
      have hD : va_D A [(h0, .inl (k0, 26, .inl f_13))] := by rw [e_f_13]; exact hD
      obtain ⟨z14, e_z14⟩ : ∃ z : Int32, z = (u5_ 0) + Int32.ofInt 1 := ⟨_, rfl⟩
      have b_ := zadd (x := (u5_ 0)) (y := Int32.ofInt 1) rfl (show (Int32.ofInt 1).toInt = 1 from by decide) e_z14 (by omega) (by omega)
      refine lv_iinc (v := z14) (lv' := [(2, .int z14), (0, .ref h0), (1, .int x1), (3, .int 26)]) hx hb dJ7_fill_53178_14 hl (k := 2) rfl e_z14.symm (by decide) rfl (fun ls hl => ?_)
      refine lv_goto (tgt := 5) hx hb dJ7_fill_53178_17 (by decide) ?_
      have b_ : -2147483648 ≤ x1.toInt ∧ x1.toInt ≤ 2147483647 := ⟨zlo _, zhi _⟩
      have hc : va_P (dC, dI) vwCl [(h0, .inl (k0, 26, .inl f_13))] H ∧ va_D A [(h0, .inl (k0, 26, .inl f_13))] ∧ va_S A s.heap H locs ∧ lv_has ls 4 [(0, .ref h0), (1, .int x1), (2, .int z14), (3, .int 26)] ∧ (0 ≤ z14.toInt ∧ z14.toInt ≤ 26) ∧ (∀ j : Nat, (j : Int) < z14.toInt → f_13 j = (x1 : Int32)) := ⟨hP, hD, hS, lv_sub hl [1, 2, 0, 3] rfl, ⟨by omega, by omega⟩, by first | (intro j hj; omega) | (rw [e_f_13]; exact zfill (by assumption) (by omega) (by omega))⟩
      exact hJ5 H locs ls (fun i => ([z14] : List (Int32)).getD i 0) (fun _ => 0) (fun i => ([f_13] : List (Nat → Int32)).getD i (fun _ => 0)) (fun _ => (fun _ => 0)) hc (show (26 - z14.toInt).toNat < (26 - (u5_ 0).toInt).toNat from by omega)
  · skip
    have b_ : -2147483648 ≤ x1.toInt ∧ x1.toInt ≤ 2147483647 := ⟨zlo _, zhi _⟩
    have hc : va_P (dC, dI) vwCl [(h0, .inl (k0, 26, .inl f0))] s.heap ∧ va_D A [(h0, .inl (k0, 26, .inl f0))] ∧ va_S A s.heap s.heap [] ∧ lv_has ls 4 [(0, .ref h0), (1, .int x1), (2, .int 0), (3, .int 26)] ∧ (0 ≤ (0 : Int32).toInt ∧ (0 : Int32).toInt ≤ 26) ∧ (∀ j : Nat, (j : Int) < (0 : Int32).toInt → f0 j = (x1 : Int32)) := ⟨hP, hD, hS, lv_sub hl [2, 3, 1, 0] rfl, ⟨by omega, by omega⟩, by first | (intro j hj; omega) | (rw [e_f_13]; exact zfill (by assumption) (by omega) (by omega))⟩
    exact hJ5 s.heap [] ls (fun i => ([0] : List (Int32)).getD i 0) (fun _ => 0) (fun i => ([f0] : List (Nat → Int32)).getD i (fun _ => 0)) (fun _ => (fun _ => 0)) hc
set_option maxHeartbeats 8000000 in
set_option maxRecDepth 100000 in
theorem sX5_clear_0 (l : Launch) (dC : Nat → ClassId) (dI : Nat → Nat → Nat) (adK adV : Nat → Nat) (h0 : Nat) (h1 : Nat) (k1 : ClassId) (sz : Nat) (f1 : Nat → Int32) : Met l yX5_clear (zw yX5_clear cX5_clear 1 none) { frames := 1, cells := 0, slots := 0, locals := 23 } (zPc dC dI adK adV [.ref h0] sz [(h0, .inr (5, mX5 h1)), (h1, .inl (k1, 26, .inl f1))] [(k1, .int)]) (va_Qv (fun (u : Nat → Int32) => True) (fun (u : Nat → Int32) (t : State) => ∃ (ww : Nat → Int64) (aa : Nat → Nat → Int32) (bb : Nat → Nat → Int64), va_P (dC, dI) vwCl [(h0, .inr (5, mX5 h1)), (h1, .inl (k1, 26, .inl (aa 0)))] t.heap ∧ va_K (dC, dI) vwCl [(k1, .int)] t ∧ va_D (va_A [(h0, .inr (5, mX5 h1)), (h1, .inl (k1, 26, .inl f1))] sz) [(h0, .inr (5, mX5 h1)), (h1, .inl (k1, 26, .inl (aa 0)))]) (va_A [(h0, .inr (5, mX5 h1)), (h1, .inl (k1, 26, .inl f1))] sz)) 0 0 (va_A [(h0, .inr (5, mX5 h1)), (h1, .inl (k1, 26, .inl f1))] sz) := by
  refine Met.ofW (cc := cX5_clear) (maxL := 1) (ret := none) (by decide) rfl ?_
  intro p e s m args below meth c s₁ B hml hv
  obtain ⟨rfl, hsz, hP, hK, hD0, hE, hZ⟩ := hv
  have hx := B.exec
  have hb := B.bytes
  have hr := B.returns
  have hG : ∀ w ∈ zG, w.before _ s = true := fun w h => atoms_spec (ws := (zw yX5_clear cX5_clear 1 none)) B.pre w (List.mem_cons_of_mem _ h)
  have hown : s.vm.findClass RX5 = some m.cls := findClass_of_methodNamed B.named
  have hlocks := B.notSynchronized

  subst hsz
  have hD := hD0.self (sz := s.heap.size)
  generalize hAe : va_A [(h0, .inr (5, mX5 h1)), (h1, .inl (k1, 26, .inl f1))] s.heap.size = A at hD hZ ⊢
  have hA : ∀ q : Nat, s.heap.size ≤ q → A q := fun q h => by rw [← hAe]; exact Or.inr h
  have hS : va_S A s.heap s.heap [] := va_S.rf
  have hl := lv_entry ([.ref h0]) (n := 1) (Nat.le_of_ble_eq_true rfl)
  rw [lg_entry_eq]
  generalize (lg_sl ([.ref h0]) ++ List.replicate (1 - (lg_sl ([.ref h0])).length) Slot.unset).toArray = ls at hl ⊢
  have hl : lv_has ls 1 [(0, .ref h0)] := hl
  refine lv_aload_n hx hb dX5_clear_0 rfl (lv_at hl 0 rfl) ?_
  refine va_get (D := (dC, dI)) (ci := 5) (v := .ref h1) (C := RX5) (T := TX5) (N := 1) hx hb hG zuX5 hown hK hP 0 rfl rfl 0 (by decide) (hG _ zw280) (fun _ h9 => h9) rfl dX5_clear_1 ?_
  refine lv_iconst (v := 0) hx hb dX5_clear_4 (by decide) ?_
  have hPc := hP.sub (ws' := [(h1, .inl (k1, 26, .inl f1))]) [1] rfl
  have hDc := hD.sub (ws' := [(h1, .inl (k1, 26, .inl f1))]) [1] (by decide) rfl
  have hKc := hK.sub (tys' := [(k1, .int)]) [0] rfl
  have hFc := va_free (wc := [(h1, .inl (k1, 26, .inl f1))]) hD hS hA [1] rfl
  refine va_callv (va_runS (As := [.ref h1, .int 0]) (rest := []) ⟨hx, hb, hml, hown, hG⟩ (sJ7_fill_53178_4 l dC dI adK adV h1 k1 s.heap.size f1 0) (va_cwS 2 hG (zgS zw281 zw102 zw103 zw104) rfl rfl rfl (by decide +kernel) ⟨Nat.le_of_ble_eq_true rfl, Nat.le_of_ble_eq_true rfl⟩) ⟨zPc_blind, zPc_pre hPc hKc hDc hE hS hFc hZ⟩ rfl rfl hl.1 rfl (lv_room (Nat.le_of_ble_eq_true rfl)) dX5_clear_5 ⟨Nat.le_of_ble_eq_true rfl, Nat.le_of_ble_eq_true rfl⟩) hS (fun q _ h => hFc q h) hFc (fun u5_ t H1 locs ht hvm hw hB hz1 hk1 hS => ?_)
  obtain ⟨w5_, a5_, b5_, hB5_0, hP1, hK1, hD1⟩ := hB
  have hB5_0 : ∀ j : Nat, (j : Int) < 26 → (a5_ 0) j = (0 : Int32) := hB5_0
  rw [ht] at hP1
  obtain ⟨hP, hD⟩ := va_join (wr := [(h0, .inr (5, mX5 h1))]) (w1 := [(h1, .inl (k1, 26, .inl (a5_ 0)))]) hP hD [1] [0] rfl rfl (by decide) (by decide) hk1 hFc hP1 hD1
  have hP : va_P (dC, dI) vwCl [(h0, .inr (5, mX5 h1)), (h1, .inl (k1, 26, .inl (a5_ 0)))] H1 := hP.sub [0, 1] rfl
  have hD : va_D A [(h0, .inr (5, mX5 h1)), (h1, .inl (k1, 26, .inl (a5_ 0)))] := hD.sub [0, 1] (by decide) rfl
  generalize H1 = H at hP hS ⊢
  clear hz1
  refine W.widen (k := 0) (n := 0) (by decide) (by decide) ?_
  have hpost : True := trivial
  have hP9 : va_P (dC, dI) vwCl [(h0, .inr (5, mX5 h1)), (h1, .inl (k1, 26, .inl (a5_ 0)))] H := hP
  have hD9 : va_D A [(h0, .inr (5, mX5 h1)), (h1, .inl (k1, 26, .inl (a5_ 0)))] := hD
  exact W.vret hx hb hr (fun t ht hW => ⟨⟨(fun _ => 0), rfl, hpost, (fun _ => 0), (fun i => ([(a5_ 0)] : List (Nat → Int32)).getD i (fun _ => 0)), (fun _ => (fun _ => 0)), by rw [ht]; exact hP9, va_K.moved hW.alike hK, hD9⟩, hS.F ht⟩) hS.2.2 dX5_clear_8
set_option maxHeartbeats 8000000 in
set_option maxRecDepth 100000 in
theorem sX5_clearTitle_0 (l : Launch) (dC : Nat → ClassId) (dI : Nat → Nat → Nat) (adK adV : Nat → Nat) (h0 : Nat) (h1 : Nat) (k1 : ClassId) (sz : Nat) (f1 : Nat → Int32) : Met l yX5_clearTitle (zw yX5_clearTitle cX5_clearTitle 2 none) { frames := 0, cells := 0, slots := 0, locals := 0 } (zPc dC dI adK adV [.ref h0] sz [(h0, .inr (5, mX5 h1)), (h1, .inl (k1, 26, .inl f1))] [(k1, .int)]) (va_Qv (fun (u : Nat → Int32) => True) (fun (u : Nat → Int32) (t : State) => ∃ (ww : Nat → Int64) (aa : Nat → Nat → Int32) (bb : Nat → Nat → Int64), va_P (dC, dI) vwCl [(h0, .inr (5, mX5 h1)), (h1, .inl (k1, 26, .inl (aa 0)))] t.heap ∧ va_K (dC, dI) vwCl [(k1, .int)] t ∧ va_D (va_A [(h0, .inr (5, mX5 h1)), (h1, .inl (k1, 26, .inl f1))] sz) [(h0, .inr (5, mX5 h1)), (h1, .inl (k1, 26, .inl (aa 0)))]) (va_A [(h0, .inr (5, mX5 h1)), (h1, .inl (k1, 26, .inl f1))] sz)) 0 0 (va_A [(h0, .inr (5, mX5 h1)), (h1, .inl (k1, 26, .inl f1))] sz) := by
  refine Met.ofW (cc := cX5_clearTitle) (maxL := 2) (ret := none) (by decide) rfl ?_
  intro p e s m args below meth c s₁ B hml hv
  obtain ⟨rfl, hsz, hP, hK, hD0, hE, hZ⟩ := hv
  have hx := B.exec
  have hb := B.bytes
  have hr := B.returns
  have hG : ∀ w ∈ zG, w.before _ s = true := fun w h => atoms_spec (ws := (zw yX5_clearTitle cX5_clearTitle 2 none)) B.pre w (List.mem_cons_of_mem _ h)
  have hown : s.vm.findClass RX5 = some m.cls := findClass_of_methodNamed B.named
  have hlocks := B.notSynchronized

  subst hsz
  have hD := hD0.self (sz := s.heap.size)
  generalize hAe : va_A [(h0, .inr (5, mX5 h1)), (h1, .inl (k1, 26, .inl f1))] s.heap.size = A at hD hZ ⊢
  have hA : ∀ q : Nat, s.heap.size ≤ q → A q := fun q h => by rw [← hAe]; exact Or.inr h
  have hS : va_S A s.heap s.heap [] := va_S.rf
  have hl := lv_entry ([.ref h0]) (n := 2) (Nat.le_of_ble_eq_true rfl)
  rw [lg_entry_eq]
  generalize (lg_sl ([.ref h0]) ++ List.replicate (2 - (lg_sl ([.ref h0])).length) Slot.unset).toArray = ls at hl ⊢
  have hl : lv_has ls 2 [(0, .ref h0)] := hl
  have b_ := zk_0
  refine lv_iconst (v := 0) hx hb dX5_clearTitle_0 (by decide) ?_
  refine lv_istore_n (lv' := [(1, .int 0), (0, .ref h0)]) hx hb dX5_clearTitle_1 rfl hl (by decide) rfl (fun ls hl => ?_)
  refine zcutL (fun u2_ => (16 - (u2_ 0).toInt).toNat) (fun H locs ls u2_ w2_ a2_ b2_ => va_P (dC, dI) vwCl [(h0, .inr (5, mX5 h1)), (h1, .inl (k1, 26, .inl (a2_ 0)))] H ∧ va_D A [(h0, .inr (5, mX5 h1)), (h1, .inl (k1, 26, .inl (a2_ 0)))] ∧ va_S A s.heap H locs ∧ lv_has ls 2 [(0, .ref h0), (1, .int (u2_ 0))] ∧ (0 ≤ (u2_ 0).toInt ∧ (u2_ 0).toInt ≤ 16)) (fun ls u2_ w2_ => F0 m 2 ls []) 0 0 ?_ (fun hJ2 => ?_)
  · skip
    intro H locs ls u2_ w2_ a2_ b2_ hc hJ2
    obtain ⟨hP, hD, hS, hl, b_⟩ := hc
    refine lv_iload_n hx hb dX5_clearTitle_2 rfl (lv_at hl 1 rfl) ?_
    refine lv_bipush (v := 16) hx hb dX5_clearTitle_3 (by decide) ?_
    refine lv_icmp_ge (tgt := 21) hx hb dX5_clearTitle_5 (by decide) (fun c_ => ?_) (fun c_ => ?_)
    · skip
      have b_ := zT_ge rfl zk_16 c_
      refine W.widen (k := 0) (n := 0) (by decide) (by decide) ?_
      have hpost : True := trivial
      have hP9 : va_P (dC, dI) vwCl [(h0, .inr (5, mX5 h1)), (h1, .inl (k1, 26, .inl (a2_ 0)))] H := hP
      have hD9 : va_D A [(h0, .inr (5, mX5 h1)), (h1, .inl (k1, 26, .inl (a2_ 0)))] := hD
      exact W.vret hx hb hr (fun t ht hW => ⟨⟨(fun _ => 0), rfl, hpost, (fun _ => 0), (fun i => ([(a2_ 0)] : List (Nat → Int32)).getD i (fun _ => 0)), (fun _ => (fun _ => 0)), by rw [ht]; exact hP9, va_K.moved hW.alike hK, hD9⟩, hS.F ht⟩) hS.2.2 dX5_clearTitle_21
    · skip
      have b_ := zF_ge rfl zk_16 c_
      refine lv_aload_n hx hb dX5_clearTitle_8 rfl (lv_at hl 0 rfl) ?_
      refine va_get (D := (dC, dI)) (ci := 5) (v := .ref h1) (C := RX5) (T := TX5) (N := 1) hx hb hG zuX5 hown hK hP 0 rfl rfl 0 (by decide) (hG _ zw280) (fun _ h9 => h9) rfl dX5_clearTitle_9 ?_
      refine lv_iload_n hx hb dX5_clearTitle_12 rfl (lv_at hl 1 rfl) ?_
      refine lv_iconst (v := 0) hx hb dX5_clearTitle_13 (by decide) ?_
      refine va_iast hx hb hK hP hD hS 1 0 rfl rfl (zin_lit ⟨by omega, by omega⟩) dX5_clearTitle_14 (fun H locs hP hD hS => ?_)
      obtain ⟨f_14, e_f_14⟩ : ∃ z : Nat → Int32, z = upd (a2_ 0) ((u2_ 0) : Int32).toNatClampNeg 0 := ⟨_, rfl⟩
      have hP : va_P (dC, dI) vwCl [(h0, .inr (5, mX5 h1)), (h1, .inl (k1, 26, .inl f_14))] H := by rw [e_f_14]; exact hP
      have hD : va_D A [(h0, .inr (5, mX5 h1)), (h1, .inl (k1, 26, .inl f_14))] := by rw [e_f_14]; exact hD
      obtain ⟨z15, e_z15⟩ : ∃ z : Int32, z = (u2_ 0) + Int32.ofInt 1 := ⟨_, rfl⟩
      have b_ := zadd (x := (u2_ 0)) (y := Int32.ofInt 1) rfl (show (Int32.ofInt 1).toInt = 1 from by decide) e_z15 (by omega) (by omega)
      refine lv_iinc (v := z15) (lv' := [(1, .int z15), (0, .ref h0)]) hx hb dX5_clearTitle_15 hl (k := 1) rfl e_z15.symm (by decide) rfl (fun ls hl => ?_)
      refine lv_goto (tgt := 2) hx hb dX5_clearTitle_18 (by decide) ?_
      have hc : va_P (dC, dI) vwCl [(h0, .inr (5, mX5 h1)), (h1, .inl (k1, 26, .inl f_14))] H ∧ va_D A [(h0, .inr (5, mX5 h1)), (h1, .inl (k1, 26, .inl f_14))] ∧ va_S A s.heap H locs ∧ lv_has ls 2 [(0, .ref h0), (1, .int z15)] ∧ (0 ≤ z15.toInt ∧ z15.toInt ≤ 16) := ⟨hP, hD, hS, lv_sub hl [1, 0] rfl, ⟨by omega, by omega⟩⟩
      exact hJ2 H locs ls (fun i => ([z15] : List (Int32)).getD i 0) (fun _ => 0) (fun i => ([f_14] : List (Nat → Int32)).getD i (fun _ => 0)) (fun _ => (fun _ => 0)) hc (show (16 - z15.toInt).toNat < (16 - (u2_ 0).toInt).toNat from by omega)
  · skip
    have hc : va_P (dC, dI) vwCl [(h0, .inr (5, mX5 h1)), (h1, .inl (k1, 26, .inl f1))] s.heap ∧ va_D A [(h0, .inr (5, mX5 h1)), (h1, .inl (k1, 26, .inl f1))] ∧ va_S A s.heap s.heap [] ∧ lv_has ls 2 [(0, .ref h0), (1, .int 0)] ∧ (0 ≤ (0 : Int32).toInt ∧ (0 : Int32).toInt ≤ 16) := ⟨hP, hD, hS, lv_sub hl [1, 0] rfl, ⟨by omega, by omega⟩⟩
    exact hJ2 s.heap [] ls (fun i => ([0] : List (Int32)).getD i 0) (fun _ => 0) (fun i => ([f1] : List (Nat → Int32)).getD i (fun _ => 0)) (fun _ => (fun _ => 0)) hc
set_option maxHeartbeats 8000000 in
set_option maxRecDepth 100000 in
theorem sX5_clearBody_0 (l : Launch) (dC : Nat → ClassId) (dI : Nat → Nat → Nat) (adK adV : Nat → Nat) (h0 : Nat) (h1 : Nat) (k1 : ClassId) (sz : Nat) (f1 : Nat → Int32) : Met l yX5_clearBody (zw yX5_clearBody cX5_clearBody 2 none) { frames := 0, cells := 0, slots := 0, locals := 0 } (zPc dC dI adK adV [.ref h0] sz [(h0, .inr (5, mX5 h1)), (h1, .inl (k1, 26, .inl f1))] [(k1, .int)]) (va_Qv (fun (u : Nat → Int32) => True) (fun (u : Nat → Int32) (t : State) => ∃ (ww : Nat → Int64) (aa : Nat → Nat → Int32) (bb : Nat → Nat → Int64), va_P (dC, dI) vwCl [(h0, .inr (5, mX5 h1)), (h1, .inl (k1, 26, .inl (aa 0)))] t.heap ∧ va_K (dC, dI) vwCl [(k1, .int)] t ∧ va_D (va_A [(h0, .inr (5, mX5 h1)), (h1, .inl (k1, 26, .inl f1))] sz) [(h0, .inr (5, mX5 h1)), (h1, .inl (k1, 26, .inl (aa 0)))]) (va_A [(h0, .inr (5, mX5 h1)), (h1, .inl (k1, 26, .inl f1))] sz)) 0 0 (va_A [(h0, .inr (5, mX5 h1)), (h1, .inl (k1, 26, .inl f1))] sz) := by
  refine Met.ofW (cc := cX5_clearBody) (maxL := 2) (ret := none) (by decide) rfl ?_
  intro p e s m args below meth c s₁ B hml hv
  obtain ⟨rfl, hsz, hP, hK, hD0, hE, hZ⟩ := hv
  have hx := B.exec
  have hb := B.bytes
  have hr := B.returns
  have hG : ∀ w ∈ zG, w.before _ s = true := fun w h => atoms_spec (ws := (zw yX5_clearBody cX5_clearBody 2 none)) B.pre w (List.mem_cons_of_mem _ h)
  have hown : s.vm.findClass RX5 = some m.cls := findClass_of_methodNamed B.named
  have hlocks := B.notSynchronized

  subst hsz
  have hD := hD0.self (sz := s.heap.size)
  generalize hAe : va_A [(h0, .inr (5, mX5 h1)), (h1, .inl (k1, 26, .inl f1))] s.heap.size = A at hD hZ ⊢
  have hA : ∀ q : Nat, s.heap.size ≤ q → A q := fun q h => by rw [← hAe]; exact Or.inr h
  have hS : va_S A s.heap s.heap [] := va_S.rf
  have hl := lv_entry ([.ref h0]) (n := 2) (Nat.le_of_ble_eq_true rfl)
  rw [lg_entry_eq]
  generalize (lg_sl ([.ref h0]) ++ List.replicate (2 - (lg_sl ([.ref h0])).length) Slot.unset).toArray = ls at hl ⊢
  have hl : lv_has ls 2 [(0, .ref h0)] := hl
  have b_ := zk_16
  refine lv_bipush (v := 16) hx hb dX5_clearBody_0 (by decide) ?_
  refine lv_istore_n (lv' := [(1, .int 16), (0, .ref h0)]) hx hb dX5_clearBody_2 rfl hl (by decide) rfl (fun ls hl => ?_)
  refine zcutL (fun u3_ => (26 - (u3_ 0).toInt).toNat) (fun H locs ls u3_ w3_ a3_ b3_ => va_P (dC, dI) vwCl [(h0, .inr (5, mX5 h1)), (h1, .inl (k1, 26, .inl (a3_ 0)))] H ∧ va_D A [(h0, .inr (5, mX5 h1)), (h1, .inl (k1, 26, .inl (a3_ 0)))] ∧ va_S A s.heap H locs ∧ lv_has ls 2 [(0, .ref h0), (1, .int (u3_ 0))] ∧ (16 ≤ (u3_ 0).toInt ∧ (u3_ 0).toInt ≤ 26)) (fun ls u3_ w3_ => F0 m 3 ls []) 0 0 ?_ (fun hJ3 => ?_)
  · skip
    intro H locs ls u3_ w3_ a3_ b3_ hc hJ3
    obtain ⟨hP, hD, hS, hl, b_⟩ := hc
    refine lv_iload_n hx hb dX5_clearBody_3 rfl (lv_at hl 1 rfl) ?_
    refine lv_bipush (v := 26) hx hb dX5_clearBody_4 (by decide) ?_
    refine lv_icmp_ge (tgt := 22) hx hb dX5_clearBody_6 (by decide) (fun c_ => ?_) (fun c_ => ?_)
    · skip
      have b_ := zT_ge rfl zk_26 c_
      refine W.widen (k := 0) (n := 0) (by decide) (by decide) ?_
      have hpost : True := trivial
      have hP9 : va_P (dC, dI) vwCl [(h0, .inr (5, mX5 h1)), (h1, .inl (k1, 26, .inl (a3_ 0)))] H := hP
      have hD9 : va_D A [(h0, .inr (5, mX5 h1)), (h1, .inl (k1, 26, .inl (a3_ 0)))] := hD
      exact W.vret hx hb hr (fun t ht hW => ⟨⟨(fun _ => 0), rfl, hpost, (fun _ => 0), (fun i => ([(a3_ 0)] : List (Nat → Int32)).getD i (fun _ => 0)), (fun _ => (fun _ => 0)), by rw [ht]; exact hP9, va_K.moved hW.alike hK, hD9⟩, hS.F ht⟩) hS.2.2 dX5_clearBody_22
    · skip
      have b_ := zF_ge rfl zk_26 c_
      refine lv_aload_n hx hb dX5_clearBody_9 rfl (lv_at hl 0 rfl) ?_
      refine va_get (D := (dC, dI)) (ci := 5) (v := .ref h1) (C := RX5) (T := TX5) (N := 1) hx hb hG zuX5 hown hK hP 0 rfl rfl 0 (by decide) (hG _ zw280) (fun _ h9 => h9) rfl dX5_clearBody_10 ?_
      refine lv_iload_n hx hb dX5_clearBody_13 rfl (lv_at hl 1 rfl) ?_
      refine lv_iconst (v := 0) hx hb dX5_clearBody_14 (by decide) ?_
      refine va_iast hx hb hK hP hD hS 1 0 rfl rfl (zin_lit ⟨by omega, by omega⟩) dX5_clearBody_15 (fun H locs hP hD hS => ?_)
      obtain ⟨f_15, e_f_15⟩ : ∃ z : Nat → Int32, z = upd (a3_ 0) ((u3_ 0) : Int32).toNatClampNeg 0 := ⟨_, rfl⟩
      have hP : va_P (dC, dI) vwCl [(h0, .inr (5, mX5 h1)), (h1, .inl (k1, 26, .inl f_15))] H := by rw [e_f_15]; exact hP
      have hD : va_D A [(h0, .inr (5, mX5 h1)), (h1, .inl (k1, 26, .inl f_15))] := by rw [e_f_15]; exact hD
      obtain ⟨z16, e_z16⟩ : ∃ z : Int32, z = (u3_ 0) + Int32.ofInt 1 := ⟨_, rfl⟩
      have b_ := zadd (x := (u3_ 0)) (y := Int32.ofInt 1) rfl (show (Int32.ofInt 1).toInt = 1 from by decide) e_z16 (by omega) (by omega)
      refine lv_iinc (v := z16) (lv' := [(1, .int z16), (0, .ref h0)]) hx hb dX5_clearBody_16 hl (k := 1) rfl e_z16.symm (by decide) rfl (fun ls hl => ?_)
      refine lv_goto (tgt := 3) hx hb dX5_clearBody_19 (by decide) ?_
      have hc : va_P (dC, dI) vwCl [(h0, .inr (5, mX5 h1)), (h1, .inl (k1, 26, .inl f_15))] H ∧ va_D A [(h0, .inr (5, mX5 h1)), (h1, .inl (k1, 26, .inl f_15))] ∧ va_S A s.heap H locs ∧ lv_has ls 2 [(0, .ref h0), (1, .int z16)] ∧ (16 ≤ z16.toInt ∧ z16.toInt ≤ 26) := ⟨hP, hD, hS, lv_sub hl [1, 0] rfl, ⟨by omega, by omega⟩⟩
      exact hJ3 H locs ls (fun i => ([z16] : List (Int32)).getD i 0) (fun _ => 0) (fun i => ([f_15] : List (Nat → Int32)).getD i (fun _ => 0)) (fun _ => (fun _ => 0)) hc (show (26 - z16.toInt).toNat < (26 - (u3_ 0).toInt).toNat from by omega)
  · skip
    have hc : va_P (dC, dI) vwCl [(h0, .inr (5, mX5 h1)), (h1, .inl (k1, 26, .inl f1))] s.heap ∧ va_D A [(h0, .inr (5, mX5 h1)), (h1, .inl (k1, 26, .inl f1))] ∧ va_S A s.heap s.heap [] ∧ lv_has ls 2 [(0, .ref h0), (1, .int 16)] ∧ (16 ≤ (16 : Int32).toInt ∧ (16 : Int32).toInt ≤ 26) := ⟨hP, hD, hS, lv_sub hl [1, 0] rfl, ⟨by omega, by omega⟩⟩
    exact hJ3 s.heap [] ls (fun i => ([16] : List (Int32)).getD i 0) (fun _ => 0) (fun i => ([f1] : List (Nat → Int32)).getD i (fun _ => 0)) (fun _ => (fun _ => 0)) hc
set_option maxHeartbeats 8000000 in
set_option maxRecDepth 100000 in
theorem sX5_put_0 (l : Launch) (dC : Nat → ClassId) (dI : Nat → Nat → Nat) (adK adV : Nat → Nat) (h0 : Nat) (h1 : Nat) (k1 : ClassId) (sz : Nat) (f1 : Nat → Int32) (x1 : Int32) : Met l yX5_put (zw yX5_put cX5_put 2 none) { frames := 0, cells := 0, slots := 0, locals := 0 } (zPc dC dI adK adV [.ref h0, .int x1] sz [(h0, .inr (5, mX5 h1)), (h1, .inl (k1, 26, .inl f1))] [(k1, .int)]) (va_Qv (fun (u : Nat → Int32) => True) (fun (u : Nat → Int32) (t : State) => ∃ (ww : Nat → Int64) (aa : Nat → Nat → Int32) (bb : Nat → Nat → Int64), va_P (dC, dI) vwCl [(h0, .inr (5, mX5 h1)), (h1, .inl (k1, 26, .inl (aa 0)))] t.heap ∧ va_K (dC, dI) vwCl [(k1, .int)] t ∧ va_D (va_A [(h0, .inr (5, mX5 h1)), (h1, .inl (k1, 26, .inl f1))] sz) [(h0, .inr (5, mX5 h1)), (h1, .inl (k1, 26, .inl (aa 0)))]) (va_A [(h0, .inr (5, mX5 h1)), (h1, .inl (k1, 26, .inl f1))] sz)) 0 0 (va_A [(h0, .inr (5, mX5 h1)), (h1, .inl (k1, 26, .inl f1))] sz) := by
  refine Met.ofW (cc := cX5_put) (maxL := 2) (ret := none) (by decide) rfl ?_
  intro p e s m args below meth c s₁ B hml hv
  obtain ⟨rfl, hsz, hP, hK, hD0, hE, hZ⟩ := hv
  have hx := B.exec
  have hb := B.bytes
  have hr := B.returns
  have hG : ∀ w ∈ zG, w.before _ s = true := fun w h => atoms_spec (ws := (zw yX5_put cX5_put 2 none)) B.pre w (List.mem_cons_of_mem _ h)
  have hown : s.vm.findClass RX5 = some m.cls := findClass_of_methodNamed B.named
  have hlocks := B.notSynchronized

  subst hsz
  have hD := hD0.self (sz := s.heap.size)
  generalize hAe : va_A [(h0, .inr (5, mX5 h1)), (h1, .inl (k1, 26, .inl f1))] s.heap.size = A at hD hZ ⊢
  have hA : ∀ q : Nat, s.heap.size ≤ q → A q := fun q h => by rw [← hAe]; exact Or.inr h
  have hS : va_S A s.heap s.heap [] := va_S.rf
  have hl := lv_entry ([.ref h0, .int x1]) (n := 2) (Nat.le_of_ble_eq_true rfl)
  rw [lg_entry_eq]
  generalize (lg_sl ([.ref h0, .int x1]) ++ List.replicate (2 - (lg_sl ([.ref h0, .int x1])).length) Slot.unset).toArray = ls at hl ⊢
  have hl : lv_has ls 2 [(0, .ref h0), (1, .int x1)] := hl
  refine lv_iload_n hx hb dX5_put_0 rfl (lv_at hl 1 rfl) ?_
  have b_ : -2147483648 ≤ x1.toInt ∧ x1.toInt ≤ 2147483647 := ⟨zlo _, zhi _⟩
  refine lv_if_lt (tgt := 29) hx hb dX5_put_1 (by decide) (fun c_ => ?_) (fun c_ => ?_)
  · skip
    have b_ := zT_lt rfl zk_0 c_
    refine W.widen (k := 0) (n := 0) (by decide) (by decide) ?_
    have hpost : True := trivial
    have hP9 : va_P (dC, dI) vwCl [(h0, .inr (5, mX5 h1)), (h1, .inl (k1, 26, .inl f1))] s.heap := hP
    have hD9 : va_D A [(h0, .inr (5, mX5 h1)), (h1, .inl (k1, 26, .inl f1))] := hD
    exact W.vret hx hb hr (fun t ht hW => ⟨⟨(fun _ => 0), rfl, hpost, (fun _ => 0), (fun i => ([f1] : List (Nat → Int32)).getD i (fun _ => 0)), (fun _ => (fun _ => 0)), by rw [ht]; exact hP9, va_K.moved hW.alike hK, hD9⟩, hS.F ht⟩) hS.2.2 dX5_put_29
  · skip
    have b_ := zF_lt rfl zk_0 c_
    refine lv_iload_n hx hb dX5_put_4 rfl (lv_at hl 1 rfl) ?_
    refine lv_sipush (v := 832) hx hb dX5_put_5 (by decide) ?_
    refine lv_icmp_ge (tgt := 29) hx hb dX5_put_8 (by decide) (fun c_ => ?_) (fun c_ => ?_)
    · skip
      have b_ := zT_ge rfl zk_832 c_
      refine W.widen (k := 0) (n := 0) (by decide) (by decide) ?_
      have hpost : True := trivial
      have hP9 : va_P (dC, dI) vwCl [(h0, .inr (5, mX5 h1)), (h1, .inl (k1, 26, .inl f1))] s.heap := hP
      have hD9 : va_D A [(h0, .inr (5, mX5 h1)), (h1, .inl (k1, 26, .inl f1))] := hD
      exact W.vret hx hb hr (fun t ht hW => ⟨⟨(fun _ => 0), rfl, hpost, (fun _ => 0), (fun i => ([f1] : List (Nat → Int32)).getD i (fun _ => 0)), (fun _ => (fun _ => 0)), by rw [ht]; exact hP9, va_K.moved hW.alike hK, hD9⟩, hS.F ht⟩) hS.2.2 dX5_put_29
    · skip
      have b_ := zF_ge rfl zk_832 c_
      refine lv_aload_n hx hb dX5_put_11 rfl (lv_at hl 0 rfl) ?_
      refine va_get (D := (dC, dI)) (ci := 5) (v := .ref h1) (C := RX5) (T := TX5) (N := 1) hx hb hG zuX5 hown hK hP 0 rfl rfl 0 (by decide) (hG _ zw280) (fun _ h9 => h9) rfl dX5_put_12 ?_
      refine lv_iload_n hx hb dX5_put_15 rfl (lv_at hl 1 rfl) ?_
      refine lv_bipush (v := 32) hx hb dX5_put_16 (by decide) ?_
      refine lv_idiv hx hb dX5_put_18 (by decide) ?_
      refine lv_topi (fun z18 e_z18 => ?_)
      have b_ := zdiv rfl zk_32 e_z18 (by omega) (by decide)
      refine lv_dup2_11 hx hb dX5_put_19 rfl rfl ?_
      refine va_iald hx hb hK hP 1 0 rfl rfl (zin_lit ⟨by omega, by omega⟩) dX5_put_20 ?_
      refine lv_topi (fun z20 e_z20 => ?_)
      refine lv_iconst (v := 1) hx hb dX5_put_21 (by decide) ?_
      refine lv_iload_n hx hb dX5_put_22 rfl (lv_at hl 1 rfl) ?_
      refine lv_bipush (v := 32) hx hb dX5_put_23 (by decide) ?_
      refine lv_irem hx hb dX5_put_25 (by decide) ?_
      refine lv_topi (fun z25 e_z25 => ?_)
      have b_ := zrem rfl zk_32 e_z25 (by omega) (by decide)
      refine lv_ishl hx hb dX5_put_26 ?_
      refine lv_topi (fun z26 e_z26 => ?_)
      have b_ : -2147483648 ≤ z20.toInt ∧ z20.toInt ≤ 2147483647 := ⟨zlo _, zhi _⟩
      have b_ : -2147483648 ≤ z26.toInt ∧ z26.toInt ≤ 2147483647 := ⟨zlo _, zhi _⟩
      refine lv_ior hx hb dX5_put_27 ?_
      refine lv_topi (fun z27 e_z27 => ?_)
      refine va_iast hx hb hK hP hD hS 1 0 rfl rfl (zin_lit ⟨by omega, by omega⟩) dX5_put_28 (fun H locs hP hD hS => ?_)
      obtain ⟨f_28, e_f_28⟩ : ∃ z : Nat → Int32, z = upd f1 (z18 : Int32).toNatClampNeg z27 := ⟨_, rfl⟩
      have hP : va_P (dC, dI) vwCl [(h0, .inr (5, mX5 h1)), (h1, .inl (k1, 26, .inl f_28))] H := by rw [e_f_28]; exact hP
      have hD : va_D A [(h0, .inr (5, mX5 h1)), (h1, .inl (k1, 26, .inl f_28))] := by rw [e_f_28]; exact hD
      refine W.widen (k := 0) (n := 0) (by decide) (by decide) ?_
      have hpost : True := trivial
      have hP9 : va_P (dC, dI) vwCl [(h0, .inr (5, mX5 h1)), (h1, .inl (k1, 26, .inl f_28))] H := hP
      have hD9 : va_D A [(h0, .inr (5, mX5 h1)), (h1, .inl (k1, 26, .inl f_28))] := hD
      exact W.vret hx hb hr (fun t ht hW => ⟨⟨(fun _ => 0), rfl, hpost, (fun _ => 0), (fun i => ([f_28] : List (Nat → Int32)).getD i (fun _ => 0)), (fun _ => (fun _ => 0)), by rw [ht]; exact hP9, va_K.moved hW.alike hK, hD9⟩, hS.F ht⟩) hS.2.2 dX5_put_29
set_option maxHeartbeats 8000000 in
set_option maxRecDepth 100000 in
theorem sX5_putAll_0 (l : Launch) (dC : Nat → ClassId) (dI : Nat → Nat → Nat) (adK adV : Nat → Nat) (h0 : Nat) (h1 : Nat) (h2 : Nat) (h3 : Nat) (k1 : ClassId) (k3 : ClassId) (sz : Nat) (f1 : Nat → Int32) (f3 : Nat → Int32) : Met l yX5_putAll (zw yX5_putAll cX5_putAll 3 none) { frames := 0, cells := 0, slots := 0, locals := 0 } (zPc dC dI adK adV [.ref h0, .ref h2] sz [(h0, .inr (5, mX5 h1)), (h1, .inl (k1, 26, .inl f1)), (h2, .inr (5, mX5 h3)), (h3, .inl (k3, 26, .inl f3))] [(k1, .int), (k3, .int)]) (va_Qv (fun (u : Nat → Int32) => True) (fun (u : Nat → Int32) (t : State) => ∃ (ww : Nat → Int64) (aa : Nat → Nat → Int32) (bb : Nat → Nat → Int64), va_P (dC, dI) vwCl [(h0, .inr (5, mX5 h1)), (h1, .inl (k1, 26, .inl (aa 0))), (h2, .inr (5, mX5 h3)), (h3, .inl (k3, 26, .inl f3))] t.heap ∧ va_K (dC, dI) vwCl [(k1, .int), (k3, .int)] t ∧ va_D (va_A [(h0, .inr (5, mX5 h1)), (h1, .inl (k1, 26, .inl f1)), (h2, .inr (5, mX5 h3)), (h3, .inl (k3, 26, .inl f3))] sz) [(h0, .inr (5, mX5 h1)), (h1, .inl (k1, 26, .inl (aa 0))), (h2, .inr (5, mX5 h3)), (h3, .inl (k3, 26, .inl f3))]) (va_A [(h0, .inr (5, mX5 h1)), (h1, .inl (k1, 26, .inl f1)), (h2, .inr (5, mX5 h3)), (h3, .inl (k3, 26, .inl f3))] sz)) 0 0 (va_A [(h0, .inr (5, mX5 h1)), (h1, .inl (k1, 26, .inl f1)), (h2, .inr (5, mX5 h3)), (h3, .inl (k3, 26, .inl f3))] sz) := by
  refine Met.ofW (cc := cX5_putAll) (maxL := 3) (ret := none) (by decide) rfl ?_
  intro p e s m args below meth c s₁ B hml hv
  obtain ⟨rfl, hsz, hP, hK, hD0, hE, hZ⟩ := hv
  have hx := B.exec
  have hb := B.bytes
  have hr := B.returns
  have hG : ∀ w ∈ zG, w.before _ s = true := fun w h => atoms_spec (ws := (zw yX5_putAll cX5_putAll 3 none)) B.pre w (List.mem_cons_of_mem _ h)
  have hown : s.vm.findClass RX5 = some m.cls := findClass_of_methodNamed B.named
  have hlocks := B.notSynchronized

  subst hsz
  have hD := hD0.self (sz := s.heap.size)
  generalize hAe : va_A [(h0, .inr (5, mX5 h1)), (h1, .inl (k1, 26, .inl f1)), (h2, .inr (5, mX5 h3)), (h3, .inl (k3, 26, .inl f3))] s.heap.size = A at hD hZ ⊢
  have hA : ∀ q : Nat, s.heap.size ≤ q → A q := fun q h => by rw [← hAe]; exact Or.inr h
  have hS : va_S A s.heap s.heap [] := va_S.rf
  have hl := lv_entry ([.ref h0, .ref h2]) (n := 3) (Nat.le_of_ble_eq_true rfl)
  rw [lg_entry_eq]
  generalize (lg_sl ([.ref h0, .ref h2]) ++ List.replicate (3 - (lg_sl ([.ref h0, .ref h2])).length) Slot.unset).toArray = ls at hl ⊢
  have hl : lv_has ls 3 [(0, .ref h0), (1, .ref h2)] := hl
  have b_ := zk_0
  refine lv_iconst (v := 0) hx hb dX5_putAll_0 (by decide) ?_
  refine lv_istore_n (lv' := [(2, .int 0), (0, .ref h0), (1, .ref h2)]) hx hb dX5_putAll_1 rfl hl (by decide) rfl (fun ls hl => ?_)
  refine zcutL (fun u2_ => (26 - (u2_ 0).toInt).toNat) (fun H locs ls u2_ w2_ a2_ b2_ => va_P (dC, dI) vwCl [(h0, .inr (5, mX5 h1)), (h1, .inl (k1, 26, .inl (a2_ 0))), (h2, .inr (5, mX5 h3)), (h3, .inl (k3, 26, .inl f3))] H ∧ va_D A [(h0, .inr (5, mX5 h1)), (h1, .inl (k1, 26, .inl (a2_ 0))), (h2, .inr (5, mX5 h3)), (h3, .inl (k3, 26, .inl f3))] ∧ va_S A s.heap H locs ∧ lv_has ls 3 [(0, .ref h0), (1, .ref h2), (2, .int (u2_ 0))] ∧ (0 ≤ (u2_ 0).toInt ∧ (u2_ 0).toInt ≤ 26)) (fun ls u2_ w2_ => F0 m 2 ls []) 0 0 ?_ (fun hJ2 => ?_)
  · skip
    intro H locs ls u2_ w2_ a2_ b2_ hc hJ2
    obtain ⟨hP, hD, hS, hl, b_⟩ := hc
    refine lv_iload_n hx hb dX5_putAll_2 rfl (lv_at hl 2 rfl) ?_
    refine lv_bipush (v := 26) hx hb dX5_putAll_3 (by decide) ?_
    refine lv_icmp_ge (tgt := 29) hx hb dX5_putAll_5 (by decide) (fun c_ => ?_) (fun c_ => ?_)
    · skip
      have b_ := zT_ge rfl zk_26 c_
      refine W.widen (k := 0) (n := 0) (by decide) (by decide) ?_
      have hpost : True := trivial
      have hP9 : va_P (dC, dI) vwCl [(h0, .inr (5, mX5 h1)), (h1, .inl (k1, 26, .inl (a2_ 0))), (h2, .inr (5, mX5 h3)), (h3, .inl (k3, 26, .inl f3))] H := hP
      have hD9 : va_D A [(h0, .inr (5, mX5 h1)), (h1, .inl (k1, 26, .inl (a2_ 0))), (h2, .inr (5, mX5 h3)), (h3, .inl (k3, 26, .inl f3))] := hD
      exact W.vret hx hb hr (fun t ht hW => ⟨⟨(fun _ => 0), rfl, hpost, (fun _ => 0), (fun i => ([(a2_ 0)] : List (Nat → Int32)).getD i (fun _ => 0)), (fun _ => (fun _ => 0)), by rw [ht]; exact hP9, va_K.moved hW.alike hK, hD9⟩, hS.F ht⟩) hS.2.2 dX5_putAll_29
    · skip
      have b_ := zF_ge rfl zk_26 c_
      refine lv_aload_n hx hb dX5_putAll_8 rfl (lv_at hl 0 rfl) ?_
      refine va_get (D := (dC, dI)) (ci := 5) (v := .ref h1) (C := RX5) (T := TX5) (N := 1) hx hb hG zuX5 hown hK hP 0 rfl rfl 0 (by decide) (hG _ zw280) (fun _ h9 => h9) rfl dX5_putAll_9 ?_
      refine lv_iload_n hx hb dX5_putAll_12 rfl (lv_at hl 2 rfl) ?_
      refine lv_dup2_11 hx hb dX5_putAll_13 rfl rfl ?_
      refine va_iald hx hb hK hP 1 0 rfl rfl (zin_lit ⟨by omega, by omega⟩) dX5_putAll_14 ?_
      refine lv_topi (fun z14 e_z14 => ?_)
      refine lv_aload_n hx hb dX5_putAll_15 rfl (lv_at hl 1 rfl) ?_
      refine va_get (D := (dC, dI)) (ci := 5) (v := .ref h3) (C := RX5) (T := TX5) (N := 1) hx hb hG zuX5 hown hK hP 2 rfl rfl 0 (by decide) (hG _ zw280) (fun _ h9 => h9) rfl dX5_putAll_16 ?_
      refine lv_iload_n hx hb dX5_putAll_19 rfl (lv_at hl 2 rfl) ?_
      refine va_iald hx hb hK hP 3 1 rfl rfl (zin_lit ⟨by omega, by omega⟩) dX5_putAll_20 ?_
      refine lv_topi (fun z20 e_z20 => ?_)
      have b_ : -2147483648 ≤ z14.toInt ∧ z14.toInt ≤ 2147483647 := ⟨zlo _, zhi _⟩
      have b_ : -2147483648 ≤ z20.toInt ∧ z20.toInt ≤ 2147483647 := ⟨zlo _, zhi _⟩
      refine lv_ior hx hb dX5_putAll_21 ?_
      refine lv_topi (fun z21 e_z21 => ?_)
      refine va_iast hx hb hK hP hD hS 1 0 rfl rfl (zin_lit ⟨by omega, by omega⟩) dX5_putAll_22 (fun H locs hP hD hS => ?_)
      obtain ⟨f_22, e_f_22⟩ : ∃ z : Nat → Int32, z = upd (a2_ 0) ((u2_ 0) : Int32).toNatClampNeg z21 := ⟨_, rfl⟩
      have hP : va_P (dC, dI) vwCl [(h0, .inr (5, mX5 h1)), (h1, .inl (k1, 26, .inl f_22)), (h2, .inr (5, mX5 h3)), (h3, .inl (k3, 26, .inl f3))] H := by rw [e_f_22]; exact hP
      have hD : va_D A [(h0, .inr (5, mX5 h1)), (h1, .inl (k1, 26, .inl f_22)), (h2, .inr (5, mX5 h3)), (h3, .inl (k3, 26, .inl f3))] := by rw [e_f_22]; exact hD
      obtain ⟨z23, e_z23⟩ : ∃ z : Int32, z = (u2_ 0) + Int32.ofInt 1 := ⟨_, rfl⟩
      have b_ := zadd (x := (u2_ 0)) (y := Int32.ofInt 1) rfl (show (Int32.ofInt 1).toInt = 1 from by decide) e_z23 (by omega) (by omega)
      refine lv_iinc (v := z23) (lv' := [(2, .int z23), (0, .ref h0), (1, .ref h2)]) hx hb dX5_putAll_23 hl (k := 2) rfl e_z23.symm (by decide) rfl (fun ls hl => ?_)
      refine lv_goto (tgt := 2) hx hb dX5_putAll_26 (by decide) ?_
      have hc : va_P (dC, dI) vwCl [(h0, .inr (5, mX5 h1)), (h1, .inl (k1, 26, .inl f_22)), (h2, .inr (5, mX5 h3)), (h3, .inl (k3, 26, .inl f3))] H ∧ va_D A [(h0, .inr (5, mX5 h1)), (h1, .inl (k1, 26, .inl f_22)), (h2, .inr (5, mX5 h3)), (h3, .inl (k3, 26, .inl f3))] ∧ va_S A s.heap H locs ∧ lv_has ls 3 [(0, .ref h0), (1, .ref h2), (2, .int z23)] ∧ (0 ≤ z23.toInt ∧ z23.toInt ≤ 26) := ⟨hP, hD, hS, lv_sub hl [1, 2, 0] rfl, ⟨by omega, by omega⟩⟩
      exact hJ2 H locs ls (fun i => ([z23] : List (Int32)).getD i 0) (fun _ => 0) (fun i => ([f_22] : List (Nat → Int32)).getD i (fun _ => 0)) (fun _ => (fun _ => 0)) hc (show (26 - z23.toInt).toNat < (26 - (u2_ 0).toInt).toNat from by omega)
  · skip
    have hc : va_P (dC, dI) vwCl [(h0, .inr (5, mX5 h1)), (h1, .inl (k1, 26, .inl f1)), (h2, .inr (5, mX5 h3)), (h3, .inl (k3, 26, .inl f3))] s.heap ∧ va_D A [(h0, .inr (5, mX5 h1)), (h1, .inl (k1, 26, .inl f1)), (h2, .inr (5, mX5 h3)), (h3, .inl (k3, 26, .inl f3))] ∧ va_S A s.heap s.heap [] ∧ lv_has ls 3 [(0, .ref h0), (1, .ref h2), (2, .int 0)] ∧ (0 ≤ (0 : Int32).toInt ∧ (0 : Int32).toInt ≤ 26) := ⟨hP, hD, hS, lv_sub hl [1, 2, 0] rfl, ⟨by omega, by omega⟩⟩
    exact hJ2 s.heap [] ls (fun i => ([0] : List (Int32)).getD i 0) (fun _ => 0) (fun i => ([f1] : List (Nat → Int32)).getD i (fun _ => 0)) (fun _ => (fun _ => 0)) hc
set_option maxHeartbeats 8000000 in
set_option maxRecDepth 100000 in
theorem sJ6_numberOfTrailingZeros_0f7a4_0 (l : Launch) (dC : Nat → ClassId) (dI : Nat → Nat → Nat) (adK adV : Nat → Nat) (sz : Nat) (x0 : Int32) : Met l yJ6_numberOfTrailingZeros_0f7a4 (zw yJ6_numberOfTrailingZeros_0f7a4 cJ6_numberOfTrailingZeros_0f7a4 2 (some .int)) { frames := 0, cells := 0, slots := 0, locals := 0 } (zPc dC dI adK adV [.int x0] sz [] []) (va_Qi (fun (r : Int32) (u : Nat → Int32) => (0 ≤ r.toInt ∧ r.toInt ≤ 32) ∧ (x0.toInt ≠ 0 → r.toInt ≤ 31)) (fun (u : Nat → Int32) (t : State) => ∃ (ww : Nat → Int64) (aa : Nat → Nat → Int32) (bb : Nat → Nat → Int64), va_P (dC, dI) vwCl [] t.heap ∧ va_K (dC, dI) vwCl [] t ∧ va_D (va_A [] sz) []) (va_A [] sz)) 0 0 (va_A [] sz) := by
  refine Met.ofW (cc := cJ6_numberOfTrailingZeros_0f7a4) (maxL := 2) (ret := (some .int)) (by decide) rfl ?_
  intro p e s m args below meth c s₁ B hml hv
  obtain ⟨rfl, hsz, hP, hK, hD0, hE, hZ⟩ := hv
  have hx := B.exec
  have hb := B.bytes
  have hr := B.returns
  have hG : ∀ w ∈ zG, w.before _ s = true := fun w h => atoms_spec (ws := (zw yJ6_numberOfTrailingZeros_0f7a4 cJ6_numberOfTrailingZeros_0f7a4 2 (some .int))) B.pre w (List.mem_cons_of_mem _ h)
  have hown : s.vm.findClass RJ6 = some m.cls := findClass_of_methodNamed B.named
  have hlocks := B.notSynchronized

  subst hsz
  have hD := hD0.self (sz := s.heap.size)
  generalize hAe : va_A [] s.heap.size = A at hD hZ ⊢
  have hA : ∀ q : Nat, s.heap.size ≤ q → A q := fun q h => by rw [← hAe]; exact Or.inr h
  have hS : va_S A s.heap s.heap [] := va_S.rf
  have hl := lv_entry ([.int x0]) (n := 2) (Nat.le_of_ble_eq_true rfl)
  rw [lg_entry_eq]
  generalize (lg_sl ([.int x0]) ++ List.replicate (2 - (lg_sl ([.int x0])).length) Slot.unset).toArray = ls at hl ⊢
  have hl : lv_has ls 2 [(0, .int x0)] := hl
  refine lv_iload_n hx hb dJ6_numberOfTrailingZeros_0f7a4_0 rfl (lv_at hl 0 rfl) ?_
  refine lv_iconst (v := (-1)) hx hb dJ6_numberOfTrailingZeros_0f7a4_1 (by decide) ?_
  have b_ : -2147483648 ≤ x0.toInt ∧ x0.toInt ≤ 2147483647 := ⟨zlo _, zhi _⟩
  refine lv_ixor hx hb dJ6_numberOfTrailingZeros_0f7a4_2 ?_
  refine lv_topi (fun z2 e_z2 => ?_)
  refine lv_iload_n hx hb dJ6_numberOfTrailingZeros_0f7a4_3 rfl (lv_at hl 0 rfl) ?_
  refine lv_iconst (v := 1) hx hb dJ6_numberOfTrailingZeros_0f7a4_4 (by decide) ?_
  refine lv_isub hx hb dJ6_numberOfTrailingZeros_0f7a4_5 ?_
  refine lv_topi (fun z5 e_z5 => ?_)
  have b_ : -2147483648 ≤ z2.toInt ∧ z2.toInt ≤ 2147483647 := ⟨zlo _, zhi _⟩
  have b_ : -2147483648 ≤ z5.toInt ∧ z5.toInt ≤ 2147483647 := ⟨zlo _, zhi _⟩
  refine lv_iand hx hb dJ6_numberOfTrailingZeros_0f7a4_6 ?_
  refine lv_topi (fun z6 e_z6 => ?_)
  refine lv_istore_n (lv' := [(0, .int z6)]) hx hb dJ6_numberOfTrailingZeros_0f7a4_7 rfl hl (by decide) rfl (fun ls hl => ?_)
  refine lv_iload_n hx hb dJ6_numberOfTrailingZeros_0f7a4_8 rfl (lv_at hl 0 rfl) ?_
  have b_ : -2147483648 ≤ z6.toInt ∧ z6.toInt ≤ 2147483647 := ⟨zlo _, zhi _⟩
  refine lv_if_gt (tgt := 17) hx hb dJ6_numberOfTrailingZeros_0f7a4_9 (by decide) (fun c_ => ?_) (fun c_ => ?_)
  · skip
    have b_ := zT_gt rfl zk_0 c_
    refine lv_iconst (v := 1) hx hb dJ6_numberOfTrailingZeros_0f7a4_17 (by decide) ?_
    refine lv_istore_n (lv' := [(1, .int 1), (0, .int z6)]) hx hb dJ6_numberOfTrailingZeros_0f7a4_18 rfl hl (by decide) rfl (fun ls hl => ?_)
    refine lv_iload_n hx hb dJ6_numberOfTrailingZeros_0f7a4_19 rfl (lv_at hl 1 rfl) ?_
    refine lv_ldcw hx hb hown (hG _ zw154) dJ6_numberOfTrailingZeros_0f7a4_20 ?_
    refine lv_icmp_le (tgt := 34) hx hb dJ6_numberOfTrailingZeros_0f7a4_23 (by decide) (fun c_ => ?_) (fun c_ => ?_)
    · skip
      have b_ := zT_le rfl zk_65536 c_
      refine lv_iload_n hx hb dJ6_numberOfTrailingZeros_0f7a4_34 rfl (lv_at hl 1 rfl) ?_
      refine lv_sipush (v := 256) hx hb dJ6_numberOfTrailingZeros_0f7a4_35 (by decide) ?_
      refine lv_icmp_le (tgt := 49) hx hb dJ6_numberOfTrailingZeros_0f7a4_38 (by decide) (fun c_ => ?_) (fun c_ => ?_)
      · skip
        have b_ := zT_le rfl zk_256 c_
        refine lv_iload_n hx hb dJ6_numberOfTrailingZeros_0f7a4_49 rfl (lv_at hl 1 rfl) ?_
        refine lv_bipush (v := 16) hx hb dJ6_numberOfTrailingZeros_0f7a4_50 (by decide) ?_
        refine lv_icmp_le (tgt := 62) hx hb dJ6_numberOfTrailingZeros_0f7a4_52 (by decide) (fun c_ => ?_) (fun c_ => ?_)
        · skip
          have b_ := zT_le rfl zk_16 c_
          refine lv_iload_n hx hb dJ6_numberOfTrailingZeros_0f7a4_62 rfl (lv_at hl 1 rfl) ?_
          refine lv_iconst (v := 4) hx hb dJ6_numberOfTrailingZeros_0f7a4_63 (by decide) ?_
          refine lv_icmp_le (tgt := 74) hx hb dJ6_numberOfTrailingZeros_0f7a4_64 (by decide) (fun c_ => ?_) (fun c_ => ?_)
          · skip
            have b_ := zT_le rfl zk_4 c_
            refine lv_iload_n hx hb dJ6_numberOfTrailingZeros_0f7a4_74 rfl (lv_at hl 0 rfl) ?_
            refine lv_iload_n hx hb dJ6_numberOfTrailingZeros_0f7a4_75 rfl (lv_at hl 1 rfl) ?_
            refine lv_iconst (v := 1) hx hb dJ6_numberOfTrailingZeros_0f7a4_76 (by decide) ?_
            refine lv_iushr hx hb dJ6_numberOfTrailingZeros_0f7a4_77 rfl ?_
            refine lv_topi (fun z77 e_z77 => ?_)
            have b_ := zushr1 rfl e_z77 (by omega)
            refine lv_iadd hx hb dJ6_numberOfTrailingZeros_0f7a4_78 ?_
            refine lv_topi (fun z78 e_z78 => ?_)
            have b_ := zadd zk_1 rfl e_z78 (by omega) (by omega)
            refine W.widen (k := 0) (n := 0) (by decide) (by decide) ?_
            have hpost : (0 ≤ z78.toInt ∧ z78.toInt ≤ 32) ∧ (x0.toInt ≠ 0 → z78.toInt ≤ 31) := ⟨⟨by omega, by omega⟩, by omega⟩
            have hP9 : va_P (dC, dI) vwCl [] s.heap := hP
            have hD9 : va_D A [] := hD
            exact W.iret (v := z78) hx hb hr (fun t ht hW => ⟨⟨z78, (fun _ => 0), rfl, hpost, (fun _ => 0), (fun _ => (fun _ => 0)), (fun _ => (fun _ => 0)), by rw [ht]; exact hP9, va_K.moved hW.alike hK, hD9⟩, hS.F ht⟩) hS.2.2 dJ6_numberOfTrailingZeros_0f7a4_79
          · skip
            have b_ := zF_le rfl zk_4 c_
            refine lv_iinc (v := 3) (lv' := [(1, .int 3), (0, .int z6)]) hx hb dJ6_numberOfTrailingZeros_0f7a4_67 hl (k := 0) rfl (by decide) (by decide) rfl (fun ls hl => ?_)
            refine lv_iload_n hx hb dJ6_numberOfTrailingZeros_0f7a4_70 rfl (lv_at hl 1 rfl) ?_
            refine lv_iconst (v := 2) hx hb dJ6_numberOfTrailingZeros_0f7a4_71 (by decide) ?_
            refine lv_iushr hx hb dJ6_numberOfTrailingZeros_0f7a4_72 rfl ?_
            refine lv_topi (fun z72 e_z72 => ?_)
            have b_ := zushr2 rfl e_z72 (by omega)
            refine lv_istore_n (lv' := [(0, .int z72), (1, .int 3)]) hx hb dJ6_numberOfTrailingZeros_0f7a4_73 rfl hl (by decide) rfl (fun ls hl => ?_)
            refine lv_iload_n hx hb dJ6_numberOfTrailingZeros_0f7a4_74 rfl (lv_at hl 1 rfl) ?_
            refine lv_iload_n hx hb dJ6_numberOfTrailingZeros_0f7a4_75 rfl (lv_at hl 0 rfl) ?_
            refine lv_iconst (v := 1) hx hb dJ6_numberOfTrailingZeros_0f7a4_76 (by decide) ?_
            refine lv_iushr hx hb dJ6_numberOfTrailingZeros_0f7a4_77 rfl ?_
            refine lv_topi (fun z77 e_z77 => ?_)
            have b_ := zushr1 rfl e_z77 (by omega)
            refine lv_iadd hx hb dJ6_numberOfTrailingZeros_0f7a4_78 ?_
            refine lv_topi (fun z78 e_z78 => ?_)
            have b_ := zadd zk_3 rfl e_z78 (by omega) (by omega)
            refine W.widen (k := 0) (n := 0) (by decide) (by decide) ?_
            have hpost : (0 ≤ z78.toInt ∧ z78.toInt ≤ 32) ∧ (x0.toInt ≠ 0 → z78.toInt ≤ 31) := ⟨⟨by omega, by omega⟩, by omega⟩
            have hP9 : va_P (dC, dI) vwCl [] s.heap := hP
            have hD9 : va_D A [] := hD
            exact W.iret (v := z78) hx hb hr (fun t ht hW => ⟨⟨z78, (fun _ => 0), rfl, hpost, (fun _ => 0), (fun _ => (fun _ => 0)), (fun _ => (fun _ => 0)), by rw [ht]; exact hP9, va_K.moved hW.alike hK, hD9⟩, hS.F ht⟩) hS.2.2 dJ6_numberOfTrailingZeros_0f7a4_79
        · skip
          have b_ := zF_le rfl zk_16 c_
          refine lv_iinc (v := 5) (lv' := [(1, .int 5), (0, .int z6)]) hx hb dJ6_numberOfTrailingZeros_0f7a4_55 hl (k := 0) rfl (by decide) (by decide) rfl (fun ls hl => ?_)
          refine lv_iload_n hx hb dJ6_numberOfTrailingZeros_0f7a4_58 rfl (lv_at hl 1 rfl) ?_
          refine lv_iconst (v := 4) hx hb dJ6_numberOfTrailingZeros_0f7a4_59 (by decide) ?_
          refine lv_iushr hx hb dJ6_numberOfTrailingZeros_0f7a4_60 rfl ?_
          refine lv_topi (fun z60 e_z60 => ?_)
          have b_ := zushr4 rfl e_z60 (by omega)
          refine lv_istore_n (lv' := [(0, .int z60), (1, .int 5)]) hx hb dJ6_numberOfTrailingZeros_0f7a4_61 rfl hl (by decide) rfl (fun ls hl => ?_)
          refine lv_iload_n hx hb dJ6_numberOfTrailingZeros_0f7a4_62 rfl (lv_at hl 0 rfl) ?_
          refine lv_iconst (v := 4) hx hb dJ6_numberOfTrailingZeros_0f7a4_63 (by decide) ?_
          refine lv_icmp_le (tgt := 74) hx hb dJ6_numberOfTrailingZeros_0f7a4_64 (by decide) (fun c_ => ?_) (fun c_ => ?_)
          · skip
            have b_ := zT_le rfl zk_4 c_
            refine lv_iload_n hx hb dJ6_numberOfTrailingZeros_0f7a4_74 rfl (lv_at hl 1 rfl) ?_
            refine lv_iload_n hx hb dJ6_numberOfTrailingZeros_0f7a4_75 rfl (lv_at hl 0 rfl) ?_
            refine lv_iconst (v := 1) hx hb dJ6_numberOfTrailingZeros_0f7a4_76 (by decide) ?_
            refine lv_iushr hx hb dJ6_numberOfTrailingZeros_0f7a4_77 rfl ?_
            refine lv_topi (fun z77 e_z77 => ?_)
            have b_ := zushr1 rfl e_z77 (by omega)
            refine lv_iadd hx hb dJ6_numberOfTrailingZeros_0f7a4_78 ?_
            refine lv_topi (fun z78 e_z78 => ?_)
            have b_ := zadd zk_5 rfl e_z78 (by omega) (by omega)
            refine W.widen (k := 0) (n := 0) (by decide) (by decide) ?_
            have hpost : (0 ≤ z78.toInt ∧ z78.toInt ≤ 32) ∧ (x0.toInt ≠ 0 → z78.toInt ≤ 31) := ⟨⟨by omega, by omega⟩, by omega⟩
            have hP9 : va_P (dC, dI) vwCl [] s.heap := hP
            have hD9 : va_D A [] := hD
            exact W.iret (v := z78) hx hb hr (fun t ht hW => ⟨⟨z78, (fun _ => 0), rfl, hpost, (fun _ => 0), (fun _ => (fun _ => 0)), (fun _ => (fun _ => 0)), by rw [ht]; exact hP9, va_K.moved hW.alike hK, hD9⟩, hS.F ht⟩) hS.2.2 dJ6_numberOfTrailingZeros_0f7a4_79
          · skip
            have b_ := zF_le rfl zk_4 c_
            refine lv_iinc (v := 7) (lv' := [(1, .int 7), (0, .int z60)]) hx hb dJ6_numberOfTrailingZeros_0f7a4_67 hl (k := 1) rfl (by decide) (by decide) rfl (fun ls hl => ?_)
            refine lv_iload_n hx hb dJ6_numberOfTrailingZeros_0f7a4_70 rfl (lv_at hl 1 rfl) ?_
            refine lv_iconst (v := 2) hx hb dJ6_numberOfTrailingZeros_0f7a4_71 (by decide) ?_
            refine lv_iushr hx hb dJ6_numberOfTrailingZeros_0f7a4_72 rfl ?_
            refine lv_topi (fun z72 e_z72 => ?_)
            have b_ := zushr2 rfl e_z72 (by omega)
            refine lv_istore_n (lv' := [(0, .int z72), (1, .int 7)]) hx hb dJ6_numberOfTrailingZeros_0f7a4_73 rfl hl (by decide) rfl (fun ls hl => ?_)
            refine lv_iload_n hx hb dJ6_numberOfTrailingZeros_0f7a4_74 rfl (lv_at hl 1 rfl) ?_
            refine lv_iload_n hx hb dJ6_numberOfTrailingZeros_0f7a4_75 rfl (lv_at hl 0 rfl) ?_
            refine lv_iconst (v := 1) hx hb dJ6_numberOfTrailingZeros_0f7a4_76 (by decide) ?_
            refine lv_iushr hx hb dJ6_numberOfTrailingZeros_0f7a4_77 rfl ?_
            refine lv_topi (fun z77 e_z77 => ?_)
            have b_ := zushr1 rfl e_z77 (by omega)
            refine lv_iadd hx hb dJ6_numberOfTrailingZeros_0f7a4_78 ?_
            refine lv_topi (fun z78 e_z78 => ?_)
            have b_ := zadd zk_7 rfl e_z78 (by omega) (by omega)
            refine W.widen (k := 0) (n := 0) (by decide) (by decide) ?_
            have hpost : (0 ≤ z78.toInt ∧ z78.toInt ≤ 32) ∧ (x0.toInt ≠ 0 → z78.toInt ≤ 31) := ⟨⟨by omega, by omega⟩, by omega⟩
            have hP9 : va_P (dC, dI) vwCl [] s.heap := hP
            have hD9 : va_D A [] := hD
            exact W.iret (v := z78) hx hb hr (fun t ht hW => ⟨⟨z78, (fun _ => 0), rfl, hpost, (fun _ => 0), (fun _ => (fun _ => 0)), (fun _ => (fun _ => 0)), by rw [ht]; exact hP9, va_K.moved hW.alike hK, hD9⟩, hS.F ht⟩) hS.2.2 dJ6_numberOfTrailingZeros_0f7a4_79
      · skip
        have b_ := zF_le rfl zk_256 c_
        refine lv_iinc (v := 9) (lv' := [(1, .int 9), (0, .int z6)]) hx hb dJ6_numberOfTrailingZeros_0f7a4_41 hl (k := 0) rfl (by decide) (by decide) rfl (fun ls hl => ?_)
        refine lv_iload_n hx hb dJ6_numberOfTrailingZeros_0f7a4_44 rfl (lv_at hl 1 rfl) ?_
        refine lv_bipush (v := 8) hx hb dJ6_numberOfTrailingZeros_0f7a4_45 (by decide) ?_
        refine lv_iushr hx hb dJ6_numberOfTrailingZeros_0f7a4_47 rfl ?_
        refine lv_topi (fun z47 e_z47 => ?_)
        have b_ := zushr8 rfl e_z47 (by omega)
        refine lv_istore_n (lv' := [(0, .int z47), (1, .int 9)]) hx hb dJ6_numberOfTrailingZeros_0f7a4_48 rfl hl (by decide) rfl (fun ls hl => ?_)
        refine lv_iload_n hx hb dJ6_numberOfTrailingZeros_0f7a4_49 rfl (lv_at hl 0 rfl) ?_
        refine lv_bipush (v := 16) hx hb dJ6_numberOfTrailingZeros_0f7a4_50 (by decide) ?_
        refine lv_icmp_le (tgt := 62) hx hb dJ6_numberOfTrailingZeros_0f7a4_52 (by decide) (fun c_ => ?_) (fun c_ => ?_)
        · skip
          have b_ := zT_le rfl zk_16 c_
          refine lv_iload_n hx hb dJ6_numberOfTrailingZeros_0f7a4_62 rfl (lv_at hl 0 rfl) ?_
          refine lv_iconst (v := 4) hx hb dJ6_numberOfTrailingZeros_0f7a4_63 (by decide) ?_
          refine lv_icmp_le (tgt := 74) hx hb dJ6_numberOfTrailingZeros_0f7a4_64 (by decide) (fun c_ => ?_) (fun c_ => ?_)
          · skip
            have b_ := zT_le rfl zk_4 c_
            refine lv_iload_n hx hb dJ6_numberOfTrailingZeros_0f7a4_74 rfl (lv_at hl 1 rfl) ?_
            refine lv_iload_n hx hb dJ6_numberOfTrailingZeros_0f7a4_75 rfl (lv_at hl 0 rfl) ?_
            refine lv_iconst (v := 1) hx hb dJ6_numberOfTrailingZeros_0f7a4_76 (by decide) ?_
            refine lv_iushr hx hb dJ6_numberOfTrailingZeros_0f7a4_77 rfl ?_
            refine lv_topi (fun z77 e_z77 => ?_)
            have b_ := zushr1 rfl e_z77 (by omega)
            refine lv_iadd hx hb dJ6_numberOfTrailingZeros_0f7a4_78 ?_
            refine lv_topi (fun z78 e_z78 => ?_)
            have b_ := zadd zk_9 rfl e_z78 (by omega) (by omega)
            refine W.widen (k := 0) (n := 0) (by decide) (by decide) ?_
            have hpost : (0 ≤ z78.toInt ∧ z78.toInt ≤ 32) ∧ (x0.toInt ≠ 0 → z78.toInt ≤ 31) := ⟨⟨by omega, by omega⟩, by omega⟩
            have hP9 : va_P (dC, dI) vwCl [] s.heap := hP
            have hD9 : va_D A [] := hD
            exact W.iret (v := z78) hx hb hr (fun t ht hW => ⟨⟨z78, (fun _ => 0), rfl, hpost, (fun _ => 0), (fun _ => (fun _ => 0)), (fun _ => (fun _ => 0)), by rw [ht]; exact hP9, va_K.moved hW.alike hK, hD9⟩, hS.F ht⟩) hS.2.2 dJ6_numberOfTrailingZeros_0f7a4_79
          · skip
            have b_ := zF_le rfl zk_4 c_
            refine lv_iinc (v := 11) (lv' := [(1, .int 11), (0, .int z47)]) hx hb dJ6_numberOfTrailingZeros_0f7a4_67 hl (k := 1) rfl (by decide) (by decide) rfl (fun ls hl => ?_)
            refine lv_iload_n hx hb dJ6_numberOfTrailingZeros_0f7a4_70 rfl (lv_at hl 1 rfl) ?_
            refine lv_iconst (v := 2) hx hb dJ6_numberOfTrailingZeros_0f7a4_71 (by decide) ?_
            refine lv_iushr hx hb dJ6_numberOfTrailingZeros_0f7a4_72 rfl ?_
            refine lv_topi (fun z72 e_z72 => ?_)
            have b_ := zushr2 rfl e_z72 (by omega)
            refine lv_istore_n (lv' := [(0, .int z72), (1, .int 11)]) hx hb dJ6_numberOfTrailingZeros_0f7a4_73 rfl hl (by decide) rfl (fun ls hl => ?_)
            refine lv_iload_n hx hb dJ6_numberOfTrailingZeros_0f7a4_74 rfl (lv_at hl 1 rfl) ?_
            refine lv_iload_n hx hb dJ6_numberOfTrailingZeros_0f7a4_75 rfl (lv_at hl 0 rfl) ?_
            refine lv_iconst (v := 1) hx hb dJ6_numberOfTrailingZeros_0f7a4_76 (by decide) ?_
            refine lv_iushr hx hb dJ6_numberOfTrailingZeros_0f7a4_77 rfl ?_
            refine lv_topi (fun z77 e_z77 => ?_)
            have b_ := zushr1 rfl e_z77 (by omega)
            refine lv_iadd hx hb dJ6_numberOfTrailingZeros_0f7a4_78 ?_
            refine lv_topi (fun z78 e_z78 => ?_)
            have b_ := zadd zk_11 rfl e_z78 (by omega) (by omega)
            refine W.widen (k := 0) (n := 0) (by decide) (by decide) ?_
            have hpost : (0 ≤ z78.toInt ∧ z78.toInt ≤ 32) ∧ (x0.toInt ≠ 0 → z78.toInt ≤ 31) := ⟨⟨by omega, by omega⟩, by omega⟩
            have hP9 : va_P (dC, dI) vwCl [] s.heap := hP
            have hD9 : va_D A [] := hD
            exact W.iret (v := z78) hx hb hr (fun t ht hW => ⟨⟨z78, (fun _ => 0), rfl, hpost, (fun _ => 0), (fun _ => (fun _ => 0)), (fun _ => (fun _ => 0)), by rw [ht]; exact hP9, va_K.moved hW.alike hK, hD9⟩, hS.F ht⟩) hS.2.2 dJ6_numberOfTrailingZeros_0f7a4_79
        · skip
          have b_ := zF_le rfl zk_16 c_
          refine lv_iinc (v := 13) (lv' := [(1, .int 13), (0, .int z47)]) hx hb dJ6_numberOfTrailingZeros_0f7a4_55 hl (k := 1) rfl (by decide) (by decide) rfl (fun ls hl => ?_)
          refine lv_iload_n hx hb dJ6_numberOfTrailingZeros_0f7a4_58 rfl (lv_at hl 1 rfl) ?_
          refine lv_iconst (v := 4) hx hb dJ6_numberOfTrailingZeros_0f7a4_59 (by decide) ?_
          refine lv_iushr hx hb dJ6_numberOfTrailingZeros_0f7a4_60 rfl ?_
          refine lv_topi (fun z60 e_z60 => ?_)
          have b_ := zushr4 rfl e_z60 (by omega)
          refine lv_istore_n (lv' := [(0, .int z60), (1, .int 13)]) hx hb dJ6_numberOfTrailingZeros_0f7a4_61 rfl hl (by decide) rfl (fun ls hl => ?_)
          refine lv_iload_n hx hb dJ6_numberOfTrailingZeros_0f7a4_62 rfl (lv_at hl 0 rfl) ?_
          refine lv_iconst (v := 4) hx hb dJ6_numberOfTrailingZeros_0f7a4_63 (by decide) ?_
          refine lv_icmp_le (tgt := 74) hx hb dJ6_numberOfTrailingZeros_0f7a4_64 (by decide) (fun c_ => ?_) (fun c_ => ?_)
          · skip
            have b_ := zT_le rfl zk_4 c_
            refine lv_iload_n hx hb dJ6_numberOfTrailingZeros_0f7a4_74 rfl (lv_at hl 1 rfl) ?_
            refine lv_iload_n hx hb dJ6_numberOfTrailingZeros_0f7a4_75 rfl (lv_at hl 0 rfl) ?_
            refine lv_iconst (v := 1) hx hb dJ6_numberOfTrailingZeros_0f7a4_76 (by decide) ?_
            refine lv_iushr hx hb dJ6_numberOfTrailingZeros_0f7a4_77 rfl ?_
            refine lv_topi (fun z77 e_z77 => ?_)
            have b_ := zushr1 rfl e_z77 (by omega)
            refine lv_iadd hx hb dJ6_numberOfTrailingZeros_0f7a4_78 ?_
            refine lv_topi (fun z78 e_z78 => ?_)
            have b_ := zadd zk_13 rfl e_z78 (by omega) (by omega)
            refine W.widen (k := 0) (n := 0) (by decide) (by decide) ?_
            have hpost : (0 ≤ z78.toInt ∧ z78.toInt ≤ 32) ∧ (x0.toInt ≠ 0 → z78.toInt ≤ 31) := ⟨⟨by omega, by omega⟩, by omega⟩
            have hP9 : va_P (dC, dI) vwCl [] s.heap := hP
            have hD9 : va_D A [] := hD
            exact W.iret (v := z78) hx hb hr (fun t ht hW => ⟨⟨z78, (fun _ => 0), rfl, hpost, (fun _ => 0), (fun _ => (fun _ => 0)), (fun _ => (fun _ => 0)), by rw [ht]; exact hP9, va_K.moved hW.alike hK, hD9⟩, hS.F ht⟩) hS.2.2 dJ6_numberOfTrailingZeros_0f7a4_79
          · skip
            have b_ := zF_le rfl zk_4 c_
            refine lv_iinc (v := 15) (lv' := [(1, .int 15), (0, .int z60)]) hx hb dJ6_numberOfTrailingZeros_0f7a4_67 hl (k := 1) rfl (by decide) (by decide) rfl (fun ls hl => ?_)
            refine lv_iload_n hx hb dJ6_numberOfTrailingZeros_0f7a4_70 rfl (lv_at hl 1 rfl) ?_
            refine lv_iconst (v := 2) hx hb dJ6_numberOfTrailingZeros_0f7a4_71 (by decide) ?_
            refine lv_iushr hx hb dJ6_numberOfTrailingZeros_0f7a4_72 rfl ?_
            refine lv_topi (fun z72 e_z72 => ?_)
            have b_ := zushr2 rfl e_z72 (by omega)
            refine lv_istore_n (lv' := [(0, .int z72), (1, .int 15)]) hx hb dJ6_numberOfTrailingZeros_0f7a4_73 rfl hl (by decide) rfl (fun ls hl => ?_)
            refine lv_iload_n hx hb dJ6_numberOfTrailingZeros_0f7a4_74 rfl (lv_at hl 1 rfl) ?_
            refine lv_iload_n hx hb dJ6_numberOfTrailingZeros_0f7a4_75 rfl (lv_at hl 0 rfl) ?_
            refine lv_iconst (v := 1) hx hb dJ6_numberOfTrailingZeros_0f7a4_76 (by decide) ?_
            refine lv_iushr hx hb dJ6_numberOfTrailingZeros_0f7a4_77 rfl ?_
            refine lv_topi (fun z77 e_z77 => ?_)
            have b_ := zushr1 rfl e_z77 (by omega)
            refine lv_iadd hx hb dJ6_numberOfTrailingZeros_0f7a4_78 ?_
            refine lv_topi (fun z78 e_z78 => ?_)
            have b_ := zadd zk_15 rfl e_z78 (by omega) (by omega)
            refine W.widen (k := 0) (n := 0) (by decide) (by decide) ?_
            have hpost : (0 ≤ z78.toInt ∧ z78.toInt ≤ 32) ∧ (x0.toInt ≠ 0 → z78.toInt ≤ 31) := ⟨⟨by omega, by omega⟩, by omega⟩
            have hP9 : va_P (dC, dI) vwCl [] s.heap := hP
            have hD9 : va_D A [] := hD
            exact W.iret (v := z78) hx hb hr (fun t ht hW => ⟨⟨z78, (fun _ => 0), rfl, hpost, (fun _ => 0), (fun _ => (fun _ => 0)), (fun _ => (fun _ => 0)), by rw [ht]; exact hP9, va_K.moved hW.alike hK, hD9⟩, hS.F ht⟩) hS.2.2 dJ6_numberOfTrailingZeros_0f7a4_79
    · skip
      have b_ := zF_le rfl zk_65536 c_
      refine lv_iinc (v := 17) (lv' := [(1, .int 17), (0, .int z6)]) hx hb dJ6_numberOfTrailingZeros_0f7a4_26 hl (k := 0) rfl (by decide) (by decide) rfl (fun ls hl => ?_)
      refine lv_iload_n hx hb dJ6_numberOfTrailingZeros_0f7a4_29 rfl (lv_at hl 1 rfl) ?_
      refine lv_bipush (v := 16) hx hb dJ6_numberOfTrailingZeros_0f7a4_30 (by decide) ?_
      refine lv_iushr hx hb dJ6_numberOfTrailingZeros_0f7a4_32 rfl ?_
      refine lv_topi (fun z32 e_z32 => ?_)
      have b_ := zushr16 rfl e_z32 (by omega)
      refine lv_istore_n (lv' := [(0, .int z32), (1, .int 17)]) hx hb dJ6_numberOfTrailingZeros_0f7a4_33 rfl hl (by decide) rfl (fun ls hl => ?_)
      refine lv_iload_n hx hb dJ6_numberOfTrailingZeros_0f7a4_34 rfl (lv_at hl 0 rfl) ?_
      refine lv_sipush (v := 256) hx hb dJ6_numberOfTrailingZeros_0f7a4_35 (by decide) ?_
      refine lv_icmp_le (tgt := 49) hx hb dJ6_numberOfTrailingZeros_0f7a4_38 (by decide) (fun c_ => ?_) (fun c_ => ?_)
      · skip
        have b_ := zT_le rfl zk_256 c_
        refine lv_iload_n hx hb dJ6_numberOfTrailingZeros_0f7a4_49 rfl (lv_at hl 0 rfl) ?_
        refine lv_bipush (v := 16) hx hb dJ6_numberOfTrailingZeros_0f7a4_50 (by decide) ?_
        refine lv_icmp_le (tgt := 62) hx hb dJ6_numberOfTrailingZeros_0f7a4_52 (by decide) (fun c_ => ?_) (fun c_ => ?_)
        · skip
          have b_ := zT_le rfl zk_16 c_
          refine lv_iload_n hx hb dJ6_numberOfTrailingZeros_0f7a4_62 rfl (lv_at hl 0 rfl) ?_
          refine lv_iconst (v := 4) hx hb dJ6_numberOfTrailingZeros_0f7a4_63 (by decide) ?_
          refine lv_icmp_le (tgt := 74) hx hb dJ6_numberOfTrailingZeros_0f7a4_64 (by decide) (fun c_ => ?_) (fun c_ => ?_)
          · skip
            have b_ := zT_le rfl zk_4 c_
            refine lv_iload_n hx hb dJ6_numberOfTrailingZeros_0f7a4_74 rfl (lv_at hl 1 rfl) ?_
            refine lv_iload_n hx hb dJ6_numberOfTrailingZeros_0f7a4_75 rfl (lv_at hl 0 rfl) ?_
            refine lv_iconst (v := 1) hx hb dJ6_numberOfTrailingZeros_0f7a4_76 (by decide) ?_
            refine lv_iushr hx hb dJ6_numberOfTrailingZeros_0f7a4_77 rfl ?_
            refine lv_topi (fun z77 e_z77 => ?_)
            have b_ := zushr1 rfl e_z77 (by omega)
            refine lv_iadd hx hb dJ6_numberOfTrailingZeros_0f7a4_78 ?_
            refine lv_topi (fun z78 e_z78 => ?_)
            have b_ := zadd zk_17 rfl e_z78 (by omega) (by omega)
            refine W.widen (k := 0) (n := 0) (by decide) (by decide) ?_
            have hpost : (0 ≤ z78.toInt ∧ z78.toInt ≤ 32) ∧ (x0.toInt ≠ 0 → z78.toInt ≤ 31) := ⟨⟨by omega, by omega⟩, by omega⟩
            have hP9 : va_P (dC, dI) vwCl [] s.heap := hP
            have hD9 : va_D A [] := hD
            exact W.iret (v := z78) hx hb hr (fun t ht hW => ⟨⟨z78, (fun _ => 0), rfl, hpost, (fun _ => 0), (fun _ => (fun _ => 0)), (fun _ => (fun _ => 0)), by rw [ht]; exact hP9, va_K.moved hW.alike hK, hD9⟩, hS.F ht⟩) hS.2.2 dJ6_numberOfTrailingZeros_0f7a4_79
          · skip
            have b_ := zF_le rfl zk_4 c_
            refine lv_iinc (v := 19) (lv' := [(1, .int 19), (0, .int z32)]) hx hb dJ6_numberOfTrailingZeros_0f7a4_67 hl (k := 1) rfl (by decide) (by decide) rfl (fun ls hl => ?_)
            refine lv_iload_n hx hb dJ6_numberOfTrailingZeros_0f7a4_70 rfl (lv_at hl 1 rfl) ?_
            refine lv_iconst (v := 2) hx hb dJ6_numberOfTrailingZeros_0f7a4_71 (by decide) ?_
            refine lv_iushr hx hb dJ6_numberOfTrailingZeros_0f7a4_72 rfl ?_
            refine lv_topi (fun z72 e_z72 => ?_)
            have b_ := zushr2 rfl e_z72 (by omega)
            refine lv_istore_n (lv' := [(0, .int z72), (1, .int 19)]) hx hb dJ6_numberOfTrailingZeros_0f7a4_73 rfl hl (by decide) rfl (fun ls hl => ?_)
            refine lv_iload_n hx hb dJ6_numberOfTrailingZeros_0f7a4_74 rfl (lv_at hl 1 rfl) ?_
            refine lv_iload_n hx hb dJ6_numberOfTrailingZeros_0f7a4_75 rfl (lv_at hl 0 rfl) ?_
            refine lv_iconst (v := 1) hx hb dJ6_numberOfTrailingZeros_0f7a4_76 (by decide) ?_
            refine lv_iushr hx hb dJ6_numberOfTrailingZeros_0f7a4_77 rfl ?_
            refine lv_topi (fun z77 e_z77 => ?_)
            have b_ := zushr1 rfl e_z77 (by omega)
            refine lv_iadd hx hb dJ6_numberOfTrailingZeros_0f7a4_78 ?_
            refine lv_topi (fun z78 e_z78 => ?_)
            have b_ := zadd zk_19 rfl e_z78 (by omega) (by omega)
            refine W.widen (k := 0) (n := 0) (by decide) (by decide) ?_
            have hpost : (0 ≤ z78.toInt ∧ z78.toInt ≤ 32) ∧ (x0.toInt ≠ 0 → z78.toInt ≤ 31) := ⟨⟨by omega, by omega⟩, by omega⟩
            have hP9 : va_P (dC, dI) vwCl [] s.heap := hP
            have hD9 : va_D A [] := hD
            exact W.iret (v := z78) hx hb hr (fun t ht hW => ⟨⟨z78, (fun _ => 0), rfl, hpost, (fun _ => 0), (fun _ => (fun _ => 0)), (fun _ => (fun _ => 0)), by rw [ht]; exact hP9, va_K.moved hW.alike hK, hD9⟩, hS.F ht⟩) hS.2.2 dJ6_numberOfTrailingZeros_0f7a4_79
        · skip
          have b_ := zF_le rfl zk_16 c_
          refine lv_iinc (v := 21) (lv' := [(1, .int 21), (0, .int z32)]) hx hb dJ6_numberOfTrailingZeros_0f7a4_55 hl (k := 1) rfl (by decide) (by decide) rfl (fun ls hl => ?_)
          refine lv_iload_n hx hb dJ6_numberOfTrailingZeros_0f7a4_58 rfl (lv_at hl 1 rfl) ?_
          refine lv_iconst (v := 4) hx hb dJ6_numberOfTrailingZeros_0f7a4_59 (by decide) ?_
          refine lv_iushr hx hb dJ6_numberOfTrailingZeros_0f7a4_60 rfl ?_
          refine lv_topi (fun z60 e_z60 => ?_)
          have b_ := zushr4 rfl e_z60 (by omega)
          refine lv_istore_n (lv' := [(0, .int z60), (1, .int 21)]) hx hb dJ6_numberOfTrailingZeros_0f7a4_61 rfl hl (by decide) rfl (fun ls hl => ?_)
          refine lv_iload_n hx hb dJ6_numberOfTrailingZeros_0f7a4_62 rfl (lv_at hl 0 rfl) ?_
          refine lv_iconst (v := 4) hx hb dJ6_numberOfTrailingZeros_0f7a4_63 (by decide) ?_
          refine lv_icmp_le (tgt := 74) hx hb dJ6_numberOfTrailingZeros_0f7a4_64 (by decide) (fun c_ => ?_) (fun c_ => ?_)
          · skip
            have b_ := zT_le rfl zk_4 c_
            refine lv_iload_n hx hb dJ6_numberOfTrailingZeros_0f7a4_74 rfl (lv_at hl 1 rfl) ?_
            refine lv_iload_n hx hb dJ6_numberOfTrailingZeros_0f7a4_75 rfl (lv_at hl 0 rfl) ?_
            refine lv_iconst (v := 1) hx hb dJ6_numberOfTrailingZeros_0f7a4_76 (by decide) ?_
            refine lv_iushr hx hb dJ6_numberOfTrailingZeros_0f7a4_77 rfl ?_
            refine lv_topi (fun z77 e_z77 => ?_)
            have b_ := zushr1 rfl e_z77 (by omega)
            refine lv_iadd hx hb dJ6_numberOfTrailingZeros_0f7a4_78 ?_
            refine lv_topi (fun z78 e_z78 => ?_)
            have b_ := zadd zk_21 rfl e_z78 (by omega) (by omega)
            refine W.widen (k := 0) (n := 0) (by decide) (by decide) ?_
            have hpost : (0 ≤ z78.toInt ∧ z78.toInt ≤ 32) ∧ (x0.toInt ≠ 0 → z78.toInt ≤ 31) := ⟨⟨by omega, by omega⟩, by omega⟩
            have hP9 : va_P (dC, dI) vwCl [] s.heap := hP
            have hD9 : va_D A [] := hD
            exact W.iret (v := z78) hx hb hr (fun t ht hW => ⟨⟨z78, (fun _ => 0), rfl, hpost, (fun _ => 0), (fun _ => (fun _ => 0)), (fun _ => (fun _ => 0)), by rw [ht]; exact hP9, va_K.moved hW.alike hK, hD9⟩, hS.F ht⟩) hS.2.2 dJ6_numberOfTrailingZeros_0f7a4_79
          · skip
            have b_ := zF_le rfl zk_4 c_
            refine lv_iinc (v := 23) (lv' := [(1, .int 23), (0, .int z60)]) hx hb dJ6_numberOfTrailingZeros_0f7a4_67 hl (k := 1) rfl (by decide) (by decide) rfl (fun ls hl => ?_)
            refine lv_iload_n hx hb dJ6_numberOfTrailingZeros_0f7a4_70 rfl (lv_at hl 1 rfl) ?_
            refine lv_iconst (v := 2) hx hb dJ6_numberOfTrailingZeros_0f7a4_71 (by decide) ?_
            refine lv_iushr hx hb dJ6_numberOfTrailingZeros_0f7a4_72 rfl ?_
            refine lv_topi (fun z72 e_z72 => ?_)
            have b_ := zushr2 rfl e_z72 (by omega)
            refine lv_istore_n (lv' := [(0, .int z72), (1, .int 23)]) hx hb dJ6_numberOfTrailingZeros_0f7a4_73 rfl hl (by decide) rfl (fun ls hl => ?_)
            refine lv_iload_n hx hb dJ6_numberOfTrailingZeros_0f7a4_74 rfl (lv_at hl 1 rfl) ?_
            refine lv_iload_n hx hb dJ6_numberOfTrailingZeros_0f7a4_75 rfl (lv_at hl 0 rfl) ?_
            refine lv_iconst (v := 1) hx hb dJ6_numberOfTrailingZeros_0f7a4_76 (by decide) ?_
            refine lv_iushr hx hb dJ6_numberOfTrailingZeros_0f7a4_77 rfl ?_
            refine lv_topi (fun z77 e_z77 => ?_)
            have b_ := zushr1 rfl e_z77 (by omega)
            refine lv_iadd hx hb dJ6_numberOfTrailingZeros_0f7a4_78 ?_
            refine lv_topi (fun z78 e_z78 => ?_)
            have b_ := zadd zk_23 rfl e_z78 (by omega) (by omega)
            refine W.widen (k := 0) (n := 0) (by decide) (by decide) ?_
            have hpost : (0 ≤ z78.toInt ∧ z78.toInt ≤ 32) ∧ (x0.toInt ≠ 0 → z78.toInt ≤ 31) := ⟨⟨by omega, by omega⟩, by omega⟩
            have hP9 : va_P (dC, dI) vwCl [] s.heap := hP
            have hD9 : va_D A [] := hD
            exact W.iret (v := z78) hx hb hr (fun t ht hW => ⟨⟨z78, (fun _ => 0), rfl, hpost, (fun _ => 0), (fun _ => (fun _ => 0)), (fun _ => (fun _ => 0)), by rw [ht]; exact hP9, va_K.moved hW.alike hK, hD9⟩, hS.F ht⟩) hS.2.2 dJ6_numberOfTrailingZeros_0f7a4_79
      · skip
        have b_ := zF_le rfl zk_256 c_
        refine lv_iinc (v := 25) (lv' := [(1, .int 25), (0, .int z32)]) hx hb dJ6_numberOfTrailingZeros_0f7a4_41 hl (k := 1) rfl (by decide) (by decide) rfl (fun ls hl => ?_)
        refine lv_iload_n hx hb dJ6_numberOfTrailingZeros_0f7a4_44 rfl (lv_at hl 1 rfl) ?_
        refine lv_bipush (v := 8) hx hb dJ6_numberOfTrailingZeros_0f7a4_45 (by decide) ?_
        refine lv_iushr hx hb dJ6_numberOfTrailingZeros_0f7a4_47 rfl ?_
        refine lv_topi (fun z47 e_z47 => ?_)
        have b_ := zushr8 rfl e_z47 (by omega)
        refine lv_istore_n (lv' := [(0, .int z47), (1, .int 25)]) hx hb dJ6_numberOfTrailingZeros_0f7a4_48 rfl hl (by decide) rfl (fun ls hl => ?_)
        refine lv_iload_n hx hb dJ6_numberOfTrailingZeros_0f7a4_49 rfl (lv_at hl 0 rfl) ?_
        refine lv_bipush (v := 16) hx hb dJ6_numberOfTrailingZeros_0f7a4_50 (by decide) ?_
        refine lv_icmp_le (tgt := 62) hx hb dJ6_numberOfTrailingZeros_0f7a4_52 (by decide) (fun c_ => ?_) (fun c_ => ?_)
        · skip
          have b_ := zT_le rfl zk_16 c_
          refine lv_iload_n hx hb dJ6_numberOfTrailingZeros_0f7a4_62 rfl (lv_at hl 0 rfl) ?_
          refine lv_iconst (v := 4) hx hb dJ6_numberOfTrailingZeros_0f7a4_63 (by decide) ?_
          refine lv_icmp_le (tgt := 74) hx hb dJ6_numberOfTrailingZeros_0f7a4_64 (by decide) (fun c_ => ?_) (fun c_ => ?_)
          · skip
            have b_ := zT_le rfl zk_4 c_
            refine lv_iload_n hx hb dJ6_numberOfTrailingZeros_0f7a4_74 rfl (lv_at hl 1 rfl) ?_
            refine lv_iload_n hx hb dJ6_numberOfTrailingZeros_0f7a4_75 rfl (lv_at hl 0 rfl) ?_
            refine lv_iconst (v := 1) hx hb dJ6_numberOfTrailingZeros_0f7a4_76 (by decide) ?_
            refine lv_iushr hx hb dJ6_numberOfTrailingZeros_0f7a4_77 rfl ?_
            refine lv_topi (fun z77 e_z77 => ?_)
            have b_ := zushr1 rfl e_z77 (by omega)
            refine lv_iadd hx hb dJ6_numberOfTrailingZeros_0f7a4_78 ?_
            refine lv_topi (fun z78 e_z78 => ?_)
            have b_ := zadd zk_25 rfl e_z78 (by omega) (by omega)
            refine W.widen (k := 0) (n := 0) (by decide) (by decide) ?_
            have hpost : (0 ≤ z78.toInt ∧ z78.toInt ≤ 32) ∧ (x0.toInt ≠ 0 → z78.toInt ≤ 31) := ⟨⟨by omega, by omega⟩, by omega⟩
            have hP9 : va_P (dC, dI) vwCl [] s.heap := hP
            have hD9 : va_D A [] := hD
            exact W.iret (v := z78) hx hb hr (fun t ht hW => ⟨⟨z78, (fun _ => 0), rfl, hpost, (fun _ => 0), (fun _ => (fun _ => 0)), (fun _ => (fun _ => 0)), by rw [ht]; exact hP9, va_K.moved hW.alike hK, hD9⟩, hS.F ht⟩) hS.2.2 dJ6_numberOfTrailingZeros_0f7a4_79
          · skip
            have b_ := zF_le rfl zk_4 c_
            refine lv_iinc (v := 27) (lv' := [(1, .int 27), (0, .int z47)]) hx hb dJ6_numberOfTrailingZeros_0f7a4_67 hl (k := 1) rfl (by decide) (by decide) rfl (fun ls hl => ?_)
            refine lv_iload_n hx hb dJ6_numberOfTrailingZeros_0f7a4_70 rfl (lv_at hl 1 rfl) ?_
            refine lv_iconst (v := 2) hx hb dJ6_numberOfTrailingZeros_0f7a4_71 (by decide) ?_
            refine lv_iushr hx hb dJ6_numberOfTrailingZeros_0f7a4_72 rfl ?_
            refine lv_topi (fun z72 e_z72 => ?_)
            have b_ := zushr2 rfl e_z72 (by omega)
            refine lv_istore_n (lv' := [(0, .int z72), (1, .int 27)]) hx hb dJ6_numberOfTrailingZeros_0f7a4_73 rfl hl (by decide) rfl (fun ls hl => ?_)
            refine lv_iload_n hx hb dJ6_numberOfTrailingZeros_0f7a4_74 rfl (lv_at hl 1 rfl) ?_
            refine lv_iload_n hx hb dJ6_numberOfTrailingZeros_0f7a4_75 rfl (lv_at hl 0 rfl) ?_
            refine lv_iconst (v := 1) hx hb dJ6_numberOfTrailingZeros_0f7a4_76 (by decide) ?_
            refine lv_iushr hx hb dJ6_numberOfTrailingZeros_0f7a4_77 rfl ?_
            refine lv_topi (fun z77 e_z77 => ?_)
            have b_ := zushr1 rfl e_z77 (by omega)
            refine lv_iadd hx hb dJ6_numberOfTrailingZeros_0f7a4_78 ?_
            refine lv_topi (fun z78 e_z78 => ?_)
            have b_ := zadd zk_27 rfl e_z78 (by omega) (by omega)
            refine W.widen (k := 0) (n := 0) (by decide) (by decide) ?_
            have hpost : (0 ≤ z78.toInt ∧ z78.toInt ≤ 32) ∧ (x0.toInt ≠ 0 → z78.toInt ≤ 31) := ⟨⟨by omega, by omega⟩, by omega⟩
            have hP9 : va_P (dC, dI) vwCl [] s.heap := hP
            have hD9 : va_D A [] := hD
            exact W.iret (v := z78) hx hb hr (fun t ht hW => ⟨⟨z78, (fun _ => 0), rfl, hpost, (fun _ => 0), (fun _ => (fun _ => 0)), (fun _ => (fun _ => 0)), by rw [ht]; exact hP9, va_K.moved hW.alike hK, hD9⟩, hS.F ht⟩) hS.2.2 dJ6_numberOfTrailingZeros_0f7a4_79
        · skip
          have b_ := zF_le rfl zk_16 c_
          refine lv_iinc (v := 29) (lv' := [(1, .int 29), (0, .int z47)]) hx hb dJ6_numberOfTrailingZeros_0f7a4_55 hl (k := 1) rfl (by decide) (by decide) rfl (fun ls hl => ?_)
          refine lv_iload_n hx hb dJ6_numberOfTrailingZeros_0f7a4_58 rfl (lv_at hl 1 rfl) ?_
          refine lv_iconst (v := 4) hx hb dJ6_numberOfTrailingZeros_0f7a4_59 (by decide) ?_
          refine lv_iushr hx hb dJ6_numberOfTrailingZeros_0f7a4_60 rfl ?_
          refine lv_topi (fun z60 e_z60 => ?_)
          have b_ := zushr4 rfl e_z60 (by omega)
          refine lv_istore_n (lv' := [(0, .int z60), (1, .int 29)]) hx hb dJ6_numberOfTrailingZeros_0f7a4_61 rfl hl (by decide) rfl (fun ls hl => ?_)
          refine lv_iload_n hx hb dJ6_numberOfTrailingZeros_0f7a4_62 rfl (lv_at hl 0 rfl) ?_
          refine lv_iconst (v := 4) hx hb dJ6_numberOfTrailingZeros_0f7a4_63 (by decide) ?_
          refine lv_icmp_le (tgt := 74) hx hb dJ6_numberOfTrailingZeros_0f7a4_64 (by decide) (fun c_ => ?_) (fun c_ => ?_)
          · skip
            have b_ := zT_le rfl zk_4 c_
            refine lv_iload_n hx hb dJ6_numberOfTrailingZeros_0f7a4_74 rfl (lv_at hl 1 rfl) ?_
            refine lv_iload_n hx hb dJ6_numberOfTrailingZeros_0f7a4_75 rfl (lv_at hl 0 rfl) ?_
            refine lv_iconst (v := 1) hx hb dJ6_numberOfTrailingZeros_0f7a4_76 (by decide) ?_
            refine lv_iushr hx hb dJ6_numberOfTrailingZeros_0f7a4_77 rfl ?_
            refine lv_topi (fun z77 e_z77 => ?_)
            have b_ := zushr1 rfl e_z77 (by omega)
            refine lv_iadd hx hb dJ6_numberOfTrailingZeros_0f7a4_78 ?_
            refine lv_topi (fun z78 e_z78 => ?_)
            have b_ := zadd zk_29 rfl e_z78 (by omega) (by omega)
            refine W.widen (k := 0) (n := 0) (by decide) (by decide) ?_
            have hpost : (0 ≤ z78.toInt ∧ z78.toInt ≤ 32) ∧ (x0.toInt ≠ 0 → z78.toInt ≤ 31) := ⟨⟨by omega, by omega⟩, by omega⟩
            have hP9 : va_P (dC, dI) vwCl [] s.heap := hP
            have hD9 : va_D A [] := hD
            exact W.iret (v := z78) hx hb hr (fun t ht hW => ⟨⟨z78, (fun _ => 0), rfl, hpost, (fun _ => 0), (fun _ => (fun _ => 0)), (fun _ => (fun _ => 0)), by rw [ht]; exact hP9, va_K.moved hW.alike hK, hD9⟩, hS.F ht⟩) hS.2.2 dJ6_numberOfTrailingZeros_0f7a4_79
          · skip
            have b_ := zF_le rfl zk_4 c_
            refine lv_iinc (v := 31) (lv' := [(1, .int 31), (0, .int z60)]) hx hb dJ6_numberOfTrailingZeros_0f7a4_67 hl (k := 1) rfl (by decide) (by decide) rfl (fun ls hl => ?_)
            refine lv_iload_n hx hb dJ6_numberOfTrailingZeros_0f7a4_70 rfl (lv_at hl 1 rfl) ?_
            refine lv_iconst (v := 2) hx hb dJ6_numberOfTrailingZeros_0f7a4_71 (by decide) ?_
            refine lv_iushr hx hb dJ6_numberOfTrailingZeros_0f7a4_72 rfl ?_
            refine lv_topi (fun z72 e_z72 => ?_)
            have b_ := zushr2 rfl e_z72 (by omega)
            refine lv_istore_n (lv' := [(0, .int z72), (1, .int 31)]) hx hb dJ6_numberOfTrailingZeros_0f7a4_73 rfl hl (by decide) rfl (fun ls hl => ?_)
            refine lv_iload_n hx hb dJ6_numberOfTrailingZeros_0f7a4_74 rfl (lv_at hl 1 rfl) ?_
            refine lv_iload_n hx hb dJ6_numberOfTrailingZeros_0f7a4_75 rfl (lv_at hl 0 rfl) ?_
            refine lv_iconst (v := 1) hx hb dJ6_numberOfTrailingZeros_0f7a4_76 (by decide) ?_
            refine lv_iushr hx hb dJ6_numberOfTrailingZeros_0f7a4_77 rfl ?_
            refine lv_topi (fun z77 e_z77 => ?_)
            have b_ := zushr1 rfl e_z77 (by omega)
            refine lv_iadd hx hb dJ6_numberOfTrailingZeros_0f7a4_78 ?_
            refine lv_topi (fun z78 e_z78 => ?_)
            have b_ := zadd zk_31 rfl e_z78 (by omega) (by omega)
            refine W.widen (k := 0) (n := 0) (by decide) (by decide) ?_
            have hpost : (0 ≤ z78.toInt ∧ z78.toInt ≤ 32) ∧ (x0.toInt ≠ 0 → z78.toInt ≤ 31) := ⟨⟨by omega, by omega⟩, by omega⟩
            have hP9 : va_P (dC, dI) vwCl [] s.heap := hP
            have hD9 : va_D A [] := hD
            exact W.iret (v := z78) hx hb hr (fun t ht hW => ⟨⟨z78, (fun _ => 0), rfl, hpost, (fun _ => 0), (fun _ => (fun _ => 0)), (fun _ => (fun _ => 0)), by rw [ht]; exact hP9, va_K.moved hW.alike hK, hD9⟩, hS.F ht⟩) hS.2.2 dJ6_numberOfTrailingZeros_0f7a4_79
  · skip
    have b_ := zF_gt rfl zk_0 c_
    refine lv_iload_n hx hb dJ6_numberOfTrailingZeros_0f7a4_12 rfl (lv_at hl 0 rfl) ?_
    refine lv_bipush (v := 32) hx hb dJ6_numberOfTrailingZeros_0f7a4_13 (by decide) ?_
    refine lv_iand hx hb dJ6_numberOfTrailingZeros_0f7a4_15 ?_
    refine lv_topi (fun z15 e_z15 => ?_)
    have b_ := zand (x := z6) zk_32 e_z15 (by decide)
    have b_ := zntz e_z2 e_z5 e_z6 e_z15 (by omega)
    refine W.widen (k := 0) (n := 0) (by decide) (by decide) ?_
    have hpost : (0 ≤ z15.toInt ∧ z15.toInt ≤ 32) ∧ (x0.toInt ≠ 0 → z15.toInt ≤ 31) := ⟨⟨by omega, by omega⟩, by omega⟩
    have hP9 : va_P (dC, dI) vwCl [] s.heap := hP
    have hD9 : va_D A [] := hD
    exact W.iret (v := z15) hx hb hr (fun t ht hW => ⟨⟨z15, (fun _ => 0), rfl, hpost, (fun _ => 0), (fun _ => (fun _ => 0)), (fun _ => (fun _ => 0)), by rw [ht]; exact hP9, va_K.moved hW.alike hK, hD9⟩, hS.F ht⟩) hS.2.2 dJ6_numberOfTrailingZeros_0f7a4_16
set_option maxHeartbeats 8000000 in
set_option maxRecDepth 100000 in
theorem sX5_nextFrom_0 (l : Launch) (dC : Nat → ClassId) (dI : Nat → Nat → Nat) (adK adV : Nat → Nat) (h0 : Nat) (h1 : Nat) (k1 : ClassId) (sz : Nat) (f1 : Nat → Int32) (x1 : Int32) : Met l yX5_nextFrom (zw yX5_nextFrom cX5_nextFrom 4 (some .int)) { frames := 1, cells := 0, slots := 0, locals := 21 } (zPc dC dI adK adV [.ref h0, .int x1] sz [(h0, .inr (5, mX5 h1)), (h1, .inl (k1, 26, .inl f1))] [(k1, .int)]) (va_Qi (fun (r : Int32) (u : Nat → Int32) => ((-1) ≤ r.toInt ∧ r.toInt ≤ 832) ∧ (r.toInt ≤ 831)) (fun (u : Nat → Int32) (t : State) => ∃ (ww : Nat → Int64) (aa : Nat → Nat → Int32) (bb : Nat → Nat → Int64), va_P (dC, dI) vwCl [(h0, .inr (5, mX5 h1)), (h1, .inl (k1, 26, .inl f1))] t.heap ∧ va_K (dC, dI) vwCl [(k1, .int)] t ∧ va_D (va_A [(h0, .inr (5, mX5 h1)), (h1, .inl (k1, 26, .inl f1))] sz) [(h0, .inr (5, mX5 h1)), (h1, .inl (k1, 26, .inl f1))]) (va_A [(h0, .inr (5, mX5 h1)), (h1, .inl (k1, 26, .inl f1))] sz)) 0 0 (va_A [(h0, .inr (5, mX5 h1)), (h1, .inl (k1, 26, .inl f1))] sz) := by
  refine Met.ofW (cc := cX5_nextFrom) (maxL := 4) (ret := (some .int)) (by decide) rfl ?_
  intro p e s m args below meth c s₁ B hml hv
  obtain ⟨rfl, hsz, hP, hK, hD0, hE, hZ⟩ := hv
  have hx := B.exec
  have hb := B.bytes
  have hr := B.returns
  have hG : ∀ w ∈ zG, w.before _ s = true := fun w h => atoms_spec (ws := (zw yX5_nextFrom cX5_nextFrom 4 (some .int))) B.pre w (List.mem_cons_of_mem _ h)
  have hown : s.vm.findClass RX5 = some m.cls := findClass_of_methodNamed B.named
  have hlocks := B.notSynchronized

  subst hsz
  have hD := hD0.self (sz := s.heap.size)
  generalize hAe : va_A [(h0, .inr (5, mX5 h1)), (h1, .inl (k1, 26, .inl f1))] s.heap.size = A at hD hZ ⊢
  have hA : ∀ q : Nat, s.heap.size ≤ q → A q := fun q h => by rw [← hAe]; exact Or.inr h
  have hS : va_S A s.heap s.heap [] := va_S.rf
  have hl := lv_entry ([.ref h0, .int x1]) (n := 4) (Nat.le_of_ble_eq_true rfl)
  rw [lg_entry_eq]
  generalize (lg_sl ([.ref h0, .int x1]) ++ List.replicate (4 - (lg_sl ([.ref h0, .int x1])).length) Slot.unset).toArray = ls at hl ⊢
  have hl : lv_has ls 4 [(0, .ref h0), (1, .int x1)] := hl
  have b_ := zk_m1
  refine lv_iload_n hx hb dX5_nextFrom_0 rfl (lv_at hl 1 rfl) ?_
  have b_ : -2147483648 ≤ x1.toInt ∧ x1.toInt ≤ 2147483647 := ⟨zlo _, zhi _⟩
  refine lv_if_lt (tgt := 11) hx hb dX5_nextFrom_1 (by decide) (fun c_ => ?_) (fun c_ => ?_)
  · skip
    have b_ := zT_lt rfl zk_0 c_
    refine lv_iconst (v := (-1)) hx hb dX5_nextFrom_11 (by decide) ?_
    refine W.widen (k := 0) (n := 0) (by decide) (by decide) ?_
    have hpost : ((-1) ≤ ((-1) : Int32).toInt ∧ ((-1) : Int32).toInt ≤ 832) ∧ (((-1) : Int32).toInt ≤ 831) := ⟨⟨by omega, by omega⟩, by omega⟩
    have hP9 : va_P (dC, dI) vwCl [(h0, .inr (5, mX5 h1)), (h1, .inl (k1, 26, .inl f1))] s.heap := hP
    have hD9 : va_D A [(h0, .inr (5, mX5 h1)), (h1, .inl (k1, 26, .inl f1))] := hD
    exact W.iret (v := (-1)) hx hb hr (fun t ht hW => ⟨⟨(-1), (fun _ => 0), rfl, hpost, (fun _ => 0), (fun _ => (fun _ => 0)), (fun _ => (fun _ => 0)), by rw [ht]; exact hP9, va_K.moved hW.alike hK, hD9⟩, hS.F ht⟩) hS.2.2 dX5_nextFrom_12
  · skip
    have b_ := zF_lt rfl zk_0 c_
    refine lv_iload_n hx hb dX5_nextFrom_4 rfl (lv_at hl 1 rfl) ?_
    refine lv_sipush (v := 832) hx hb dX5_nextFrom_5 (by decide) ?_
    refine lv_icmp_lt (tgt := 13) hx hb dX5_nextFrom_8 (by decide) (fun c_ => ?_) (fun c_ => ?_)
    · skip
      have b_ := zT_lt rfl zk_832 c_
      refine lv_aload_n hx hb dX5_nextFrom_13 rfl (lv_at hl 0 rfl) ?_
      refine va_get (D := (dC, dI)) (ci := 5) (v := .ref h1) (C := RX5) (T := TX5) (N := 1) hx hb hG zuX5 hown hK hP 0 rfl rfl 0 (by decide) (hG _ zw280) (fun _ h9 => h9) rfl dX5_nextFrom_14 ?_
      refine lv_iload_n hx hb dX5_nextFrom_17 rfl (lv_at hl 1 rfl) ?_
      refine lv_bipush (v := 32) hx hb dX5_nextFrom_18 (by decide) ?_
      refine lv_idiv hx hb dX5_nextFrom_20 (by decide) ?_
      refine lv_topi (fun z20 e_z20 => ?_)
      have b_ := zdiv rfl zk_32 e_z20 (by omega) (by decide)
      refine va_iald hx hb hK hP 1 0 rfl rfl (zin_lit ⟨by omega, by omega⟩) dX5_nextFrom_21 ?_
      refine lv_topi (fun z21 e_z21 => ?_)
      refine lv_iconst (v := (-1)) hx hb dX5_nextFrom_22 (by decide) ?_
      refine lv_iload_n hx hb dX5_nextFrom_23 rfl (lv_at hl 1 rfl) ?_
      refine lv_bipush (v := 32) hx hb dX5_nextFrom_24 (by decide) ?_
      refine lv_irem hx hb dX5_nextFrom_26 (by decide) ?_
      refine lv_topi (fun z26 e_z26 => ?_)
      have b_ := zrem rfl zk_32 e_z26 (by omega) (by decide)
      refine lv_ishl hx hb dX5_nextFrom_27 ?_
      refine lv_topi (fun z27 e_z27 => ?_)
      have b_ : -2147483648 ≤ z21.toInt ∧ z21.toInt ≤ 2147483647 := ⟨zlo _, zhi _⟩
      have b_ : -2147483648 ≤ z27.toInt ∧ z27.toInt ≤ 2147483647 := ⟨zlo _, zhi _⟩
      refine lv_iand hx hb dX5_nextFrom_28 ?_
      refine lv_topi (fun z28 e_z28 => ?_)
      refine lv_istore_n (lv' := [(2, .int z28), (0, .ref h0), (1, .int x1)]) hx hb dX5_nextFrom_29 rfl hl (by decide) rfl (fun ls hl => ?_)
      refine lv_iload_n hx hb dX5_nextFrom_30 rfl (lv_at hl 2 rfl) ?_
      refine lv_bipush (v := 32) hx hb dX5_nextFrom_31 (by decide) ?_
      refine lv_idiv hx hb dX5_nextFrom_33 (by decide) ?_
      refine lv_topi (fun z33 e_z33 => ?_)
      have b_ := zdiv rfl zk_32 e_z33 (by omega) (by decide)
      refine lv_istore_n (lv' := [(3, .int z33), (2, .int z28), (0, .ref h0), (1, .int x1)]) hx hb dX5_nextFrom_34 rfl hl (by decide) rfl (fun ls hl => ?_)
      refine zcutL (fun u35_ => (26 - (u35_ 1).toInt).toNat) (fun H locs ls u35_ w35_ a35_ b35_ => va_P (dC, dI) vwCl [(h0, .inr (5, mX5 h1)), (h1, .inl (k1, 26, .inl f1))] H ∧ va_D A [(h0, .inr (5, mX5 h1)), (h1, .inl (k1, 26, .inl f1))] ∧ va_S A s.heap H locs ∧ lv_has ls 4 [(0, .ref h0), (1, .int x1), (2, .int (u35_ 0)), (3, .int (u35_ 1))] ∧ (0 ≤ (u35_ 1).toInt ∧ (u35_ 1).toInt ≤ 26)) (fun ls u35_ w35_ => F0 m 35 ls []) 0 0 ?_ (fun hJ35 => ?_)
      · skip
        intro H locs ls u35_ w35_ a35_ b35_ hc hJ35
        obtain ⟨hP, hD, hS, hl, b_⟩ := hc
        refine lv_iload_n hx hb dX5_nextFrom_35 rfl (lv_at hl 3 rfl) ?_
        refine lv_bipush (v := 26) hx hb dX5_nextFrom_36 (by decide) ?_
        refine lv_icmp_ge (tgt := 76) hx hb dX5_nextFrom_38 (by decide) (fun c_ => ?_) (fun c_ => ?_)
        · skip
          have b_ := zT_ge rfl zk_26 c_
          refine lv_iconst (v := (-1)) hx hb dX5_nextFrom_76 (by decide) ?_
          refine W.widen (k := 0) (n := 0) (by decide) (by decide) ?_
          have hpost : ((-1) ≤ ((-1) : Int32).toInt ∧ ((-1) : Int32).toInt ≤ 832) ∧ (((-1) : Int32).toInt ≤ 831) := ⟨⟨by omega, by omega⟩, by omega⟩
          have hP9 : va_P (dC, dI) vwCl [(h0, .inr (5, mX5 h1)), (h1, .inl (k1, 26, .inl f1))] H := hP
          have hD9 : va_D A [(h0, .inr (5, mX5 h1)), (h1, .inl (k1, 26, .inl f1))] := hD
          exact W.iret (v := (-1)) hx hb hr (fun t ht hW => ⟨⟨(-1), (fun _ => 0), rfl, hpost, (fun _ => 0), (fun _ => (fun _ => 0)), (fun _ => (fun _ => 0)), by rw [ht]; exact hP9, va_K.moved hW.alike hK, hD9⟩, hS.F ht⟩) hS.2.2 dX5_nextFrom_77
        · skip
          have b_ := zF_ge rfl zk_26 c_
          refine lv_iload_n hx hb dX5_nextFrom_41 rfl (lv_at hl 3 rfl) ?_
          refine lv_iload_n hx hb dX5_nextFrom_42 rfl (lv_at hl 1 rfl) ?_
          refine lv_bipush (v := 32) hx hb dX5_nextFrom_43 (by decide) ?_
          refine lv_idiv hx hb dX5_nextFrom_45 (by decide) ?_
          refine lv_topi (fun z45 e_z45 => ?_)
          have b_ := zdiv rfl zk_32 e_z45 (by omega) (by decide)
          refine zcutW (fun H locs ls u56_ w56_ a56_ b56_ => va_P (dC, dI) vwCl [(h0, .inr (5, mX5 h1)), (h1, .inl (k1, 26, .inl f1))] H ∧ va_D A [(h0, .inr (5, mX5 h1)), (h1, .inl (k1, 26, .inl f1))] ∧ va_S A s.heap H locs ∧ lv_has ls 4 [(0, .ref h0), (1, .int x1), (2, .int (u56_ 0)), (3, .int (u35_ 1))] ∧ (0 ≤ z45.toInt ∧ z45.toInt ≤ 25)) (fun ls u56_ w56_ => F0 m 56 ls []) 0 0 ?_ (fun hJ56 => ?_)
          · skip
            intro H locs ls u56_ w56_ a56_ b56_ hc
            obtain ⟨hP, hD, hS, hl, b_⟩ := hc
            refine lv_iload_n hx hb dX5_nextFrom_56 rfl (lv_at hl 2 rfl) ?_
            have b_ : -2147483648 ≤ (u56_ 0).toInt ∧ (u56_ 0).toInt ≤ 2147483647 := ⟨zlo _, zhi _⟩
            refine lv_if_eq (tgt := 70) hx hb dX5_nextFrom_57 (by decide) (fun c_ => ?_) (fun c_ => ?_)
            · skip
              have b_ := zT_eq rfl zk_0 c_
              obtain ⟨z70, e_z70⟩ : ∃ z : Int32, z = (u35_ 1) + Int32.ofInt 1 := ⟨_, rfl⟩
              have b_ := zadd (x := (u35_ 1)) (y := Int32.ofInt 1) rfl (show (Int32.ofInt 1).toInt = 1 from by decide) e_z70 (by omega) (by omega)
              refine lv_iinc (v := z70) (lv' := [(3, .int z70), (0, .ref h0), (1, .int x1), (2, .int (u56_ 0))]) hx hb dX5_nextFrom_70 hl (k := 3) rfl e_z70.symm (by decide) rfl (fun ls hl => ?_)
              refine lv_goto (tgt := 35) hx hb dX5_nextFrom_73 (by decide) ?_
              have hc : va_P (dC, dI) vwCl [(h0, .inr (5, mX5 h1)), (h1, .inl (k1, 26, .inl f1))] H ∧ va_D A [(h0, .inr (5, mX5 h1)), (h1, .inl (k1, 26, .inl f1))] ∧ va_S A s.heap H locs ∧ lv_has ls 4 [(0, .ref h0), (1, .int x1), (2, .int (u56_ 0)), (3, .int z70)] ∧ (0 ≤ z70.toInt ∧ z70.toInt ≤ 26) := ⟨hP, hD, hS, lv_sub hl [1, 2, 3, 0] rfl, ⟨by omega, by omega⟩⟩
              exact hJ35 H locs ls (fun i => ([(u56_ 0), z70] : List (Int32)).getD i 0) (fun _ => 0) (fun _ => (fun _ => 0)) (fun _ => (fun _ => 0)) hc (show (26 - z70.toInt).toNat < (26 - (u35_ 1).toInt).toNat from by omega)
            · skip
              have b_ := zF_eq rfl zk_0 c_
              refine lv_iload_n hx hb dX5_nextFrom_60 rfl (lv_at hl 3 rfl) ?_
              refine lv_bipush (v := 32) hx hb dX5_nextFrom_61 (by decide) ?_
              refine lv_imul hx hb dX5_nextFrom_63 ?_
              refine lv_topi (fun z63 e_z63 => ?_)
              have b_ := zmul rfl zk_32 e_z63 (by omega) (by omega)
              refine lv_iload_n hx hb dX5_nextFrom_64 rfl (lv_at hl 2 rfl) ?_
              have hPc := hP.sub (ws' := []) [] rfl
              have hDc := hD.sub (ws' := []) [] (by decide) rfl
              have hKc := hK.sub (tys' := []) [] rfl
              have hFc := va_free (wc := []) hD hS hA [] rfl
              refine va_calli (va_runS (As := [.int (u56_ 0)]) (rest := [.int z63]) ⟨hx, hb, hml, hown, hG⟩ (sJ6_numberOfTrailingZeros_0f7a4_0 l dC dI adK adV H.size (u56_ 0)) (va_cwS 1 hG (zgS zw282 zw283 zw157 zw284) rfl rfl rfl (by decide +kernel) ⟨Nat.le_of_ble_eq_true rfl, Nat.le_of_ble_eq_true rfl⟩) ⟨zPc_blind, zPc_pre hPc hKc hDc hE hS hFc hZ⟩ rfl rfl hl.1 rfl (lv_room (Nat.le_of_ble_eq_true rfl)) dX5_nextFrom_65 ⟨Nat.le_of_ble_eq_true rfl, Nat.le_of_ble_eq_true rfl⟩) hS (fun q _ h => hFc q h) hFc (fun r65_ u65_ t H1 locs ht hvm hw hB hz1 hk1 hS => ?_)
              have hw : (0 ≤ r65_.toInt ∧ r65_.toInt ≤ 32) ∧ ((u56_ 0).toInt ≠ 0 → r65_.toInt ≤ 31) := hw
              obtain ⟨b_, hX65_0⟩ := hw
              obtain ⟨w65_, a65_, b65_, hP1, hK1, hD1⟩ := hB
              rw [ht] at hP1
              obtain ⟨hP, hD⟩ := va_join (wr := [(h0, .inr (5, mX5 h1)), (h1, .inl (k1, 26, .inl f1))]) (w1 := []) hP hD [] [0, 1] rfl rfl (by decide) (by decide) hk1 hFc hP1 hD1
              have hP : va_P (dC, dI) vwCl [(h0, .inr (5, mX5 h1)), (h1, .inl (k1, 26, .inl f1))] H1 := hP.sub [0, 1] rfl
              have hD : va_D A [(h0, .inr (5, mX5 h1)), (h1, .inl (k1, 26, .inl f1))] := hD.sub [0, 1] (by decide) rfl
              generalize H1 = H at hP hS ⊢
              clear hz1
              refine lv_iadd hx hb dX5_nextFrom_68 ?_
              refine lv_topi (fun z68 e_z68 => ?_)
              have b_ := zadd rfl rfl e_z68 (by omega) (by omega)
              refine W.widen (k := 0) (n := 0) (by decide) (by decide) ?_
              have hpost : ((-1) ≤ z68.toInt ∧ z68.toInt ≤ 832) ∧ (z68.toInt ≤ 831) := ⟨⟨by omega, by omega⟩, by omega⟩
              have hP9 : va_P (dC, dI) vwCl [(h0, .inr (5, mX5 h1)), (h1, .inl (k1, 26, .inl f1))] H := hP
              have hD9 : va_D A [(h0, .inr (5, mX5 h1)), (h1, .inl (k1, 26, .inl f1))] := hD
              exact W.iret (v := z68) hx hb hr (fun t ht hW => ⟨⟨z68, (fun _ => 0), rfl, hpost, (fun _ => 0), (fun _ => (fun _ => 0)), (fun _ => (fun _ => 0)), by rw [ht]; exact hP9, va_K.moved hW.alike hK, hD9⟩, hS.F ht⟩) hS.2.2 dX5_nextFrom_69
          · skip
            refine lv_icmp_le (tgt := 56) hx hb dX5_nextFrom_46 (by decide) (fun c_ => ?_) (fun c_ => ?_)
            · skip
              have b_ := zT_le rfl rfl c_
              have hc : va_P (dC, dI) vwCl [(h0, .inr (5, mX5 h1)), (h1, .inl (k1, 26, .inl f1))] H ∧ va_D A [(h0, .inr (5, mX5 h1)), (h1, .inl (k1, 26, .inl f1))] ∧ va_S A s.heap H locs ∧ lv_has ls 4 [(0, .ref h0), (1, .int x1), (2, .int (u35_ 0)), (3, .int (u35_ 1))] ∧ (0 ≤ z45.toInt ∧ z45.toInt ≤ 25) := ⟨hP, hD, hS, lv_sub hl [0, 1, 2, 3] rfl, ⟨by omega, by omega⟩⟩
              exact hJ56 H locs ls (fun i => ([(u35_ 0)] : List (Int32)).getD i 0) (fun _ => 0) (fun _ => (fun _ => 0)) (fun _ => (fun _ => 0)) hc
            · skip
              have b_ := zF_le rfl rfl c_
              refine lv_aload_n hx hb dX5_nextFrom_49 rfl (lv_at hl 0 rfl) ?_
              refine va_get (D := (dC, dI)) (ci := 5) (v := .ref h1) (C := RX5) (T := TX5) (N := 1) hx hb hG zuX5 hown hK hP 0 rfl rfl 0 (by decide) (hG _ zw280) (fun _ h9 => h9) rfl dX5_nextFrom_50 ?_
              refine lv_iload_n hx hb dX5_nextFrom_53 rfl (lv_at hl 3 rfl) ?_
              refine va_iald hx hb hK hP 1 0 rfl rfl (zin_lit ⟨by omega, by omega⟩) dX5_nextFrom_54 ?_
              refine lv_topi (fun z54 e_z54 => ?_)
              refine lv_istore_n (lv' := [(2, .int z54), (0, .ref h0), (1, .int x1), (3, .int (u35_ 1))]) hx hb dX5_nextFrom_55 rfl hl (by decide) rfl (fun ls hl => ?_)
              have hc : va_P (dC, dI) vwCl [(h0, .inr (5, mX5 h1)), (h1, .inl (k1, 26, .inl f1))] H ∧ va_D A [(h0, .inr (5, mX5 h1)), (h1, .inl (k1, 26, .inl f1))] ∧ va_S A s.heap H locs ∧ lv_has ls 4 [(0, .ref h0), (1, .int x1), (2, .int z54), (3, .int (u35_ 1))] ∧ (0 ≤ z45.toInt ∧ z45.toInt ≤ 25) := ⟨hP, hD, hS, lv_sub hl [1, 2, 0, 3] rfl, ⟨by omega, by omega⟩⟩
              exact hJ56 H locs ls (fun i => ([z54] : List (Int32)).getD i 0) (fun _ => 0) (fun _ => (fun _ => 0)) (fun _ => (fun _ => 0)) hc
      · skip
        have b_ : -2147483648 ≤ z28.toInt ∧ z28.toInt ≤ 2147483647 := ⟨zlo _, zhi _⟩
        have hc : va_P (dC, dI) vwCl [(h0, .inr (5, mX5 h1)), (h1, .inl (k1, 26, .inl f1))] s.heap ∧ va_D A [(h0, .inr (5, mX5 h1)), (h1, .inl (k1, 26, .inl f1))] ∧ va_S A s.heap s.heap [] ∧ lv_has ls 4 [(0, .ref h0), (1, .int x1), (2, .int z28), (3, .int z33)] ∧ (0 ≤ z33.toInt ∧ z33.toInt ≤ 26) := ⟨hP, hD, hS, lv_sub hl [2, 3, 1, 0] rfl, ⟨by omega, by omega⟩⟩
        exact hJ35 s.heap [] ls (fun i => ([z28, z33] : List (Int32)).getD i 0) (fun _ => 0) (fun _ => (fun _ => 0)) (fun _ => (fun _ => 0)) hc
    · skip
      have b_ := zF_lt rfl zk_832 c_
      refine lv_iconst (v := (-1)) hx hb dX5_nextFrom_11 (by decide) ?_
      refine W.widen (k := 0) (n := 0) (by decide) (by decide) ?_
      have hpost : ((-1) ≤ ((-1) : Int32).toInt ∧ ((-1) : Int32).toInt ≤ 832) ∧ (((-1) : Int32).toInt ≤ 831) := ⟨⟨by omega, by omega⟩, by omega⟩
      have hP9 : va_P (dC, dI) vwCl [(h0, .inr (5, mX5 h1)), (h1, .inl (k1, 26, .inl f1))] s.heap := hP
      have hD9 : va_D A [(h0, .inr (5, mX5 h1)), (h1, .inl (k1, 26, .inl f1))] := hD
      exact W.iret (v := (-1)) hx hb hr (fun t ht hW => ⟨⟨(-1), (fun _ => 0), rfl, hpost, (fun _ => 0), (fun _ => (fun _ => 0)), (fun _ => (fun _ => 0)), by rw [ht]; exact hP9, va_K.moved hW.alike hK, hD9⟩, hS.F ht⟩) hS.2.2 dX5_nextFrom_12
set_option maxHeartbeats 8000000 in
set_option maxRecDepth 100000 in
theorem sJ6_bitCount_0f7a4_0 (l : Launch) (dC : Nat → ClassId) (dI : Nat → Nat → Nat) (adK adV : Nat → Nat) (sz : Nat) (x0 : Int32) : Met l yJ6_bitCount_0f7a4 (zw yJ6_bitCount_0f7a4 cJ6_bitCount_0f7a4 1 (some .int)) { frames := 0, cells := 0, slots := 0, locals := 0 } (zPc dC dI adK adV [.int x0] sz [] []) (va_Qi (fun (r : Int32) (u : Nat → Int32) => (0 ≤ r.toInt ∧ r.toInt ≤ 63)) (fun (u : Nat → Int32) (t : State) => ∃ (ww : Nat → Int64) (aa : Nat → Nat → Int32) (bb : Nat → Nat → Int64), va_P (dC, dI) vwCl [] t.heap ∧ va_K (dC, dI) vwCl [] t ∧ va_D (va_A [] sz) []) (va_A [] sz)) 0 0 (va_A [] sz) := by
  refine Met.ofW (cc := cJ6_bitCount_0f7a4) (maxL := 1) (ret := (some .int)) (by decide) rfl ?_
  intro p e s m args below meth c s₁ B hml hv
  obtain ⟨rfl, hsz, hP, hK, hD0, hE, hZ⟩ := hv
  have hx := B.exec
  have hb := B.bytes
  have hr := B.returns
  have hG : ∀ w ∈ zG, w.before _ s = true := fun w h => atoms_spec (ws := (zw yJ6_bitCount_0f7a4 cJ6_bitCount_0f7a4 1 (some .int))) B.pre w (List.mem_cons_of_mem _ h)
  have hown : s.vm.findClass RJ6 = some m.cls := findClass_of_methodNamed B.named
  have hlocks := B.notSynchronized

  subst hsz
  have hD := hD0.self (sz := s.heap.size)
  generalize hAe : va_A [] s.heap.size = A at hD hZ ⊢
  have hA : ∀ q : Nat, s.heap.size ≤ q → A q := fun q h => by rw [← hAe]; exact Or.inr h
  have hS : va_S A s.heap s.heap [] := va_S.rf
  have hl := lv_entry ([.int x0]) (n := 1) (Nat.le_of_ble_eq_true rfl)
  rw [lg_entry_eq]
  generalize (lg_sl ([.int x0]) ++ List.replicate (1 - (lg_sl ([.int x0])).length) Slot.unset).toArray = ls at hl ⊢
  have hl : lv_has ls 1 [(0, .int x0)] := hl
  refine lv_iload_n hx hb dJ6_bitCount_0f7a4_0 rfl (lv_at hl 0 rfl) ?_
  refine lv_iload_n hx hb dJ6_bitCount_0f7a4_1 rfl (lv_at hl 0 rfl) ?_
  refine lv_iconst (v := 1) hx hb dJ6_bitCount_0f7a4_2 (by decide) ?_
  have b_ : -2147483648 ≤ x0.toInt ∧ x0.toInt ≤ 2147483647 := ⟨zlo _, zhi _⟩
  refine lv_iushr hx hb dJ6_bitCount_0f7a4_3 rfl ?_
  refine lv_topi (fun z3 e_z3 => ?_)
  have b_ := zushrB1 (x := x0) e_z3
  refine lv_ldcw hx hb hown (hG _ zw285) dJ6_bitCount_0f7a4_4 ?_
  refine lv_iand hx hb dJ6_bitCount_0f7a4_7 ?_
  refine lv_topi (fun z7 e_z7 => ?_)
  have b_ := zand (x := z3) zk_1431655765 e_z7 (by decide)
  refine lv_isub hx hb dJ6_bitCount_0f7a4_8 ?_
  refine lv_topi (fun z8 e_z8 => ?_)
  refine lv_istore_n (lv' := [(0, .int z8)]) hx hb dJ6_bitCount_0f7a4_9 rfl hl (by decide) rfl (fun ls hl => ?_)
  refine lv_iload_n hx hb dJ6_bitCount_0f7a4_10 rfl (lv_at hl 0 rfl) ?_
  refine lv_ldcw hx hb hown (hG _ zw286) dJ6_bitCount_0f7a4_11 ?_
  have b_ : -2147483648 ≤ z8.toInt ∧ z8.toInt ≤ 2147483647 := ⟨zlo _, zhi _⟩
  refine lv_iand hx hb dJ6_bitCount_0f7a4_14 ?_
  refine lv_topi (fun z14 e_z14 => ?_)
  have b_ := zand (x := z8) zk_858993459 e_z14 (by decide)
  refine lv_iload_n hx hb dJ6_bitCount_0f7a4_15 rfl (lv_at hl 0 rfl) ?_
  refine lv_iconst (v := 2) hx hb dJ6_bitCount_0f7a4_16 (by decide) ?_
  refine lv_iushr hx hb dJ6_bitCount_0f7a4_17 rfl ?_
  refine lv_topi (fun z17 e_z17 => ?_)
  have b_ := zushrB2 (x := z8) e_z17
  refine lv_ldcw hx hb hown (hG _ zw286) dJ6_bitCount_0f7a4_18 ?_
  refine lv_iand hx hb dJ6_bitCount_0f7a4_21 ?_
  refine lv_topi (fun z21 e_z21 => ?_)
  have b_ := zand (x := z17) zk_858993459 e_z21 (by decide)
  refine lv_iadd hx hb dJ6_bitCount_0f7a4_22 ?_
  refine lv_topi (fun z22 e_z22 => ?_)
  have b_ := zadd rfl rfl e_z22 (by omega) (by omega)
  refine lv_istore_n (lv' := [(0, .int z22)]) hx hb dJ6_bitCount_0f7a4_23 rfl hl (by decide) rfl (fun ls hl => ?_)
  refine lv_iload_n hx hb dJ6_bitCount_0f7a4_24 rfl (lv_at hl 0 rfl) ?_
  refine lv_iload_n hx hb dJ6_bitCount_0f7a4_25 rfl (lv_at hl 0 rfl) ?_
  refine lv_iconst (v := 4) hx hb dJ6_bitCount_0f7a4_26 (by decide) ?_
  refine lv_iushr hx hb dJ6_bitCount_0f7a4_27 rfl ?_
  refine lv_topi (fun z27 e_z27 => ?_)
  have b_ := zushr4 rfl e_z27 (by omega)
  refine lv_iadd hx hb dJ6_bitCount_0f7a4_28 ?_
  refine lv_topi (fun z28 e_z28 => ?_)
  have b_ := zadd rfl rfl e_z28 (by omega) (by omega)
  refine lv_ldcw hx hb hown (hG _ zw287) dJ6_bitCount_0f7a4_29 ?_
  refine lv_iand hx hb dJ6_bitCount_0f7a4_32 ?_
  refine lv_topi (fun z32 e_z32 => ?_)
  have b_ := zand (x := z28) zk_252645135 e_z32 (by decide)
  refine lv_istore_n (lv' := [(0, .int z32)]) hx hb dJ6_bitCount_0f7a4_33 rfl hl (by decide) rfl (fun ls hl => ?_)
  refine lv_iload_n hx hb dJ6_bitCount_0f7a4_34 rfl (lv_at hl 0 rfl) ?_
  refine lv_iload_n hx hb dJ6_bitCount_0f7a4_35 rfl (lv_at hl 0 rfl) ?_
  refine lv_bipush (v := 8) hx hb dJ6_bitCount_0f7a4_36 (by decide) ?_
  refine lv_iushr hx hb dJ6_bitCount_0f7a4_38 rfl ?_
  refine lv_topi (fun z38 e_z38 => ?_)
  have b_ := zushr8 rfl e_z38 (by omega)
  refine lv_iadd hx hb dJ6_bitCount_0f7a4_39 ?_
  refine lv_topi (fun z39 e_z39 => ?_)
  have b_ := zadd rfl rfl e_z39 (by omega) (by omega)
  refine lv_istore_n (lv' := [(0, .int z39)]) hx hb dJ6_bitCount_0f7a4_40 rfl hl (by decide) rfl (fun ls hl => ?_)
  refine lv_iload_n hx hb dJ6_bitCount_0f7a4_41 rfl (lv_at hl 0 rfl) ?_
  refine lv_iload_n hx hb dJ6_bitCount_0f7a4_42 rfl (lv_at hl 0 rfl) ?_
  refine lv_bipush (v := 16) hx hb dJ6_bitCount_0f7a4_43 (by decide) ?_
  refine lv_iushr hx hb dJ6_bitCount_0f7a4_45 rfl ?_
  refine lv_topi (fun z45 e_z45 => ?_)
  have b_ := zushr16 rfl e_z45 (by omega)
  refine lv_iadd hx hb dJ6_bitCount_0f7a4_46 ?_
  refine lv_topi (fun z46 e_z46 => ?_)
  have b_ := zadd rfl rfl e_z46 (by omega) (by omega)
  refine lv_istore_n (lv' := [(0, .int z46)]) hx hb dJ6_bitCount_0f7a4_47 rfl hl (by decide) rfl (fun ls hl => ?_)
  refine lv_iload_n hx hb dJ6_bitCount_0f7a4_48 rfl (lv_at hl 0 rfl) ?_
  refine lv_bipush (v := 63) hx hb dJ6_bitCount_0f7a4_49 (by decide) ?_
  refine lv_iand hx hb dJ6_bitCount_0f7a4_51 ?_
  refine lv_topi (fun z51 e_z51 => ?_)
  have b_ := zand (x := z46) zk_63 e_z51 (by decide)
  refine W.widen (k := 0) (n := 0) (by decide) (by decide) ?_
  have hpost : (0 ≤ z51.toInt ∧ z51.toInt ≤ 63) := ⟨by omega, by omega⟩
  have hP9 : va_P (dC, dI) vwCl [] s.heap := hP
  have hD9 : va_D A [] := hD
  exact W.iret (v := z51) hx hb hr (fun t ht hW => ⟨⟨z51, (fun _ => 0), rfl, hpost, (fun _ => 0), (fun _ => (fun _ => 0)), (fun _ => (fun _ => 0)), by rw [ht]; exact hP9, va_K.moved hW.alike hK, hD9⟩, hS.F ht⟩) hS.2.2 dJ6_bitCount_0f7a4_52
set_option maxHeartbeats 8000000 in
set_option maxRecDepth 100000 in
theorem sX5_worth_0 (l : Launch) (dC : Nat → ClassId) (dI : Nat → Nat → Nat) (adK adV : Nat → Nat) (h0 : Nat) (h1 : Nat) (k1 : ClassId) (sz : Nat) (f1 : Nat → Int32) : Met l yX5_worth (zw yX5_worth cX5_worth 3 (some .int)) { frames := 1, cells := 0, slots := 0, locals := 20 } (zPc dC dI adK adV [.ref h0] sz [(h0, .inr (5, mX5 h1)), (h1, .inl (k1, 26, .inl f1))] [(k1, .int)]) (va_Qi (fun (r : Int32) (u : Nat → Int32) => True) (fun (u : Nat → Int32) (t : State) => ∃ (ww : Nat → Int64) (aa : Nat → Nat → Int32) (bb : Nat → Nat → Int64), va_P (dC, dI) vwCl [(h0, .inr (5, mX5 h1)), (h1, .inl (k1, 26, .inl f1))] t.heap ∧ va_K (dC, dI) vwCl [(k1, .int)] t ∧ va_D (va_A [(h0, .inr (5, mX5 h1)), (h1, .inl (k1, 26, .inl f1))] sz) [(h0, .inr (5, mX5 h1)), (h1, .inl (k1, 26, .inl f1))]) (va_A [(h0, .inr (5, mX5 h1)), (h1, .inl (k1, 26, .inl f1))] sz)) 0 0 (va_A [(h0, .inr (5, mX5 h1)), (h1, .inl (k1, 26, .inl f1))] sz) := by
  refine Met.ofW (cc := cX5_worth) (maxL := 3) (ret := (some .int)) (by decide) rfl ?_
  intro p e s m args below meth c s₁ B hml hv
  obtain ⟨rfl, hsz, hP, hK, hD0, hE, hZ⟩ := hv
  have hx := B.exec
  have hb := B.bytes
  have hr := B.returns
  have hG : ∀ w ∈ zG, w.before _ s = true := fun w h => atoms_spec (ws := (zw yX5_worth cX5_worth 3 (some .int))) B.pre w (List.mem_cons_of_mem _ h)
  have hown : s.vm.findClass RX5 = some m.cls := findClass_of_methodNamed B.named
  have hlocks := B.notSynchronized

  subst hsz
  have hD := hD0.self (sz := s.heap.size)
  generalize hAe : va_A [(h0, .inr (5, mX5 h1)), (h1, .inl (k1, 26, .inl f1))] s.heap.size = A at hD hZ ⊢
  have hA : ∀ q : Nat, s.heap.size ≤ q → A q := fun q h => by rw [← hAe]; exact Or.inr h
  have hS : va_S A s.heap s.heap [] := va_S.rf
  have hl := lv_entry ([.ref h0]) (n := 3) (Nat.le_of_ble_eq_true rfl)
  rw [lg_entry_eq]
  generalize (lg_sl ([.ref h0]) ++ List.replicate (3 - (lg_sl ([.ref h0])).length) Slot.unset).toArray = ls at hl ⊢
  have hl : lv_has ls 3 [(0, .ref h0)] := hl
  have b_ := zk_0
  refine lv_iconst (v := 0) hx hb dX5_worth_0 (by decide) ?_
  refine lv_istore_n (lv' := [(1, .int 0), (0, .ref h0)]) hx hb dX5_worth_1 rfl hl (by decide) rfl (fun ls hl => ?_)
  refine lv_iconst (v := 0) hx hb dX5_worth_2 (by decide) ?_
  refine lv_istore_n (lv' := [(2, .int 0), (1, .int 0), (0, .ref h0)]) hx hb dX5_worth_3 rfl hl (by decide) rfl (fun ls hl => ?_)
  refine zcutL (fun u4_ => (26 - (u4_ 1).toInt).toNat) (fun H locs ls u4_ w4_ a4_ b4_ => va_P (dC, dI) vwCl [(h0, .inr (5, mX5 h1)), (h1, .inl (k1, 26, .inl f1))] H ∧ va_D A [(h0, .inr (5, mX5 h1)), (h1, .inl (k1, 26, .inl f1))] ∧ va_S A s.heap H locs ∧ lv_has ls 3 [(0, .ref h0), (1, .int (u4_ 0)), (2, .int (u4_ 1))] ∧ (0 ≤ (u4_ 1).toInt ∧ (u4_ 1).toInt ≤ 26)) (fun ls u4_ w4_ => F0 m 4 ls []) 0 0 ?_ (fun hJ4 => ?_)
  · skip
    intro H locs ls u4_ w4_ a4_ b4_ hc hJ4
    obtain ⟨hP, hD, hS, hl, b_⟩ := hc
    refine lv_iload_n hx hb dX5_worth_4 rfl (lv_at hl 2 rfl) ?_
    refine lv_bipush (v := 26) hx hb dX5_worth_5 (by decide) ?_
    refine lv_icmp_ge (tgt := 40) hx hb dX5_worth_7 (by decide) (fun c_ => ?_) (fun c_ => ?_)
    · skip
      have b_ := zT_ge rfl zk_26 c_
      refine lv_iload_n hx hb dX5_worth_40 rfl (lv_at hl 1 rfl) ?_
      refine W.widen (k := 0) (n := 0) (by decide) (by decide) ?_
      have b_ : -2147483648 ≤ (u4_ 0).toInt ∧ (u4_ 0).toInt ≤ 2147483647 := ⟨zlo _, zhi _⟩
      have hpost : True := trivial
      have hP9 : va_P (dC, dI) vwCl [(h0, .inr (5, mX5 h1)), (h1, .inl (k1, 26, .inl f1))] H := hP
      have hD9 : va_D A [(h0, .inr (5, mX5 h1)), (h1, .inl (k1, 26, .inl f1))] := hD
      exact W.iret (v := (u4_ 0)) hx hb hr (fun t ht hW => ⟨⟨(u4_ 0), (fun _ => 0), rfl, hpost, (fun _ => 0), (fun _ => (fun _ => 0)), (fun _ => (fun _ => 0)), by rw [ht]; exact hP9, va_K.moved hW.alike hK, hD9⟩, hS.F ht⟩) hS.2.2 dX5_worth_41
    · skip
      have b_ := zF_ge rfl zk_26 c_
      refine lv_iload_n hx hb dX5_worth_10 rfl (lv_at hl 1 rfl) ?_
      refine lv_aload_n hx hb dX5_worth_11 rfl (lv_at hl 0 rfl) ?_
      refine va_get (D := (dC, dI)) (ci := 5) (v := .ref h1) (C := RX5) (T := TX5) (N := 1) hx hb hG zuX5 hown hK hP 0 rfl rfl 0 (by decide) (hG _ zw280) (fun _ h9 => h9) rfl dX5_worth_12 ?_
      refine lv_iload_n hx hb dX5_worth_15 rfl (lv_at hl 2 rfl) ?_
      refine va_iald hx hb hK hP 1 0 rfl rfl (zin_lit ⟨by omega, by omega⟩) dX5_worth_16 ?_
      refine lv_topi (fun z16 e_z16 => ?_)
      have hPc := hP.sub (ws' := []) [] rfl
      have hDc := hD.sub (ws' := []) [] (by decide) rfl
      have hKc := hK.sub (tys' := []) [] rfl
      have hFc := va_free (wc := []) hD hS hA [] rfl
      refine va_calli (va_runS (As := [.int z16]) (rest := [.int (u4_ 0)]) ⟨hx, hb, hml, hown, hG⟩ (sJ6_bitCount_0f7a4_0 l dC dI adK adV H.size z16) (va_cwS 1 hG (zgS zw288 zw289 zw157 zw290) rfl rfl rfl (by decide +kernel) ⟨Nat.le_of_ble_eq_true rfl, Nat.le_of_ble_eq_true rfl⟩) ⟨zPc_blind, zPc_pre hPc hKc hDc hE hS hFc hZ⟩ rfl rfl hl.1 rfl (lv_room (Nat.le_of_ble_eq_true rfl)) dX5_worth_17 ⟨Nat.le_of_ble_eq_true rfl, Nat.le_of_ble_eq_true rfl⟩) hS (fun q _ h => hFc q h) hFc (fun r17_ u17_ t H1 locs ht hvm hw hB hz1 hk1 hS => ?_)
      have hw : (0 ≤ r17_.toInt ∧ r17_.toInt ≤ 63) := hw
      have b_ := hw
      obtain ⟨w17_, a17_, b17_, hP1, hK1, hD1⟩ := hB
      rw [ht] at hP1
      obtain ⟨hP, hD⟩ := va_join (wr := [(h0, .inr (5, mX5 h1)), (h1, .inl (k1, 26, .inl f1))]) (w1 := []) hP hD [] [0, 1] rfl rfl (by decide) (by decide) hk1 hFc hP1 hD1
      have hP : va_P (dC, dI) vwCl [(h0, .inr (5, mX5 h1)), (h1, .inl (k1, 26, .inl f1))] H1 := hP.sub [0, 1] rfl
      have hD : va_D A [(h0, .inr (5, mX5 h1)), (h1, .inl (k1, 26, .inl f1))] := hD.sub [0, 1] (by decide) rfl
      generalize H1 = H at hP hS ⊢
      clear hz1
      refine lv_iload_n hx hb dX5_worth_20 rfl (lv_at hl 2 rfl) ?_
      refine lv_bipush (v := 16) hx hb dX5_worth_21 (by decide) ?_
      refine lv_icmp_ge (tgt := 30) hx hb dX5_worth_23 (by decide) (fun c_ => ?_) (fun c_ => ?_)
      · skip
        have b_ := zT_ge rfl zk_16 c_
        refine lv_iconst (v := 1) hx hb dX5_worth_30 (by decide) ?_
        refine lv_imul hx hb dX5_worth_31 ?_
        refine lv_topi (fun z31 e_z31 => ?_)
        have b_ := zmul rfl zk_1 e_z31 (by omega) (by omega)
        have b_ : -2147483648 ≤ (u4_ 0).toInt ∧ (u4_ 0).toInt ≤ 2147483647 := ⟨zlo _, zhi _⟩
        refine lv_iadd hx hb dX5_worth_32 ?_
        refine lv_topi (fun z32 e_z32 => ?_)
        refine lv_istore_n (lv' := [(1, .int z32), (0, .ref h0), (2, .int (u4_ 1))]) hx hb dX5_worth_33 rfl hl (by decide) rfl (fun ls hl => ?_)
        obtain ⟨z34, e_z34⟩ : ∃ z : Int32, z = (u4_ 1) + Int32.ofInt 1 := ⟨_, rfl⟩
        have b_ := zadd (x := (u4_ 1)) (y := Int32.ofInt 1) rfl (show (Int32.ofInt 1).toInt = 1 from by decide) e_z34 (by omega) (by omega)
        refine lv_iinc (v := z34) (lv' := [(2, .int z34), (1, .int z32), (0, .ref h0)]) hx hb dX5_worth_34 hl (k := 2) rfl e_z34.symm (by decide) rfl (fun ls hl => ?_)
        refine lv_goto (tgt := 4) hx hb dX5_worth_37 (by decide) ?_
        have b_ : -2147483648 ≤ z32.toInt ∧ z32.toInt ≤ 2147483647 := ⟨zlo _, zhi _⟩
        have hc : va_P (dC, dI) vwCl [(h0, .inr (5, mX5 h1)), (h1, .inl (k1, 26, .inl f1))] H ∧ va_D A [(h0, .inr (5, mX5 h1)), (h1, .inl (k1, 26, .inl f1))] ∧ va_S A s.heap H locs ∧ lv_has ls 3 [(0, .ref h0), (1, .int z32), (2, .int z34)] ∧ (0 ≤ z34.toInt ∧ z34.toInt ≤ 26) := ⟨hP, hD, hS, lv_sub hl [2, 1, 0] rfl, ⟨by omega, by omega⟩⟩
        exact hJ4 H locs ls (fun i => ([z32, z34] : List (Int32)).getD i 0) (fun _ => 0) (fun _ => (fun _ => 0)) (fun _ => (fun _ => 0)) hc (show (26 - z34.toInt).toNat < (26 - (u4_ 1).toInt).toNat from by omega)
      · skip
        have b_ := zF_ge rfl zk_16 c_
        refine lv_iconst (v := 3) hx hb dX5_worth_26 (by decide) ?_
        refine lv_goto (tgt := 31) hx hb dX5_worth_27 (by decide) ?_
        refine lv_imul hx hb dX5_worth_31 ?_
        refine lv_topi (fun z31 e_z31 => ?_)
        have b_ := zmul rfl zk_3 e_z31 (by omega) (by omega)
        have b_ : -2147483648 ≤ (u4_ 0).toInt ∧ (u4_ 0).toInt ≤ 2147483647 := ⟨zlo _, zhi _⟩
        refine lv_iadd hx hb dX5_worth_32 ?_
        refine lv_topi (fun z32 e_z32 => ?_)
        refine lv_istore_n (lv' := [(1, .int z32), (0, .ref h0), (2, .int (u4_ 1))]) hx hb dX5_worth_33 rfl hl (by decide) rfl (fun ls hl => ?_)
        obtain ⟨z34, e_z34⟩ : ∃ z : Int32, z = (u4_ 1) + Int32.ofInt 1 := ⟨_, rfl⟩
        have b_ := zadd (x := (u4_ 1)) (y := Int32.ofInt 1) rfl (show (Int32.ofInt 1).toInt = 1 from by decide) e_z34 (by omega) (by omega)
        refine lv_iinc (v := z34) (lv' := [(2, .int z34), (1, .int z32), (0, .ref h0)]) hx hb dX5_worth_34 hl (k := 2) rfl e_z34.symm (by decide) rfl (fun ls hl => ?_)
        refine lv_goto (tgt := 4) hx hb dX5_worth_37 (by decide) ?_
        have b_ : -2147483648 ≤ z32.toInt ∧ z32.toInt ≤ 2147483647 := ⟨zlo _, zhi _⟩
        have hc : va_P (dC, dI) vwCl [(h0, .inr (5, mX5 h1)), (h1, .inl (k1, 26, .inl f1))] H ∧ va_D A [(h0, .inr (5, mX5 h1)), (h1, .inl (k1, 26, .inl f1))] ∧ va_S A s.heap H locs ∧ lv_has ls 3 [(0, .ref h0), (1, .int z32), (2, .int z34)] ∧ (0 ≤ z34.toInt ∧ z34.toInt ≤ 26) := ⟨hP, hD, hS, lv_sub hl [2, 1, 0] rfl, ⟨by omega, by omega⟩⟩
        exact hJ4 H locs ls (fun i => ([z32, z34] : List (Int32)).getD i 0) (fun _ => 0) (fun _ => (fun _ => 0)) (fun _ => (fun _ => 0)) hc (show (26 - z34.toInt).toNat < (26 - (u4_ 1).toInt).toNat from by omega)
  · skip
    have hc : va_P (dC, dI) vwCl [(h0, .inr (5, mX5 h1)), (h1, .inl (k1, 26, .inl f1))] s.heap ∧ va_D A [(h0, .inr (5, mX5 h1)), (h1, .inl (k1, 26, .inl f1))] ∧ va_S A s.heap s.heap [] ∧ lv_has ls 3 [(0, .ref h0), (1, .int 0), (2, .int 0)] ∧ (0 ≤ (0 : Int32).toInt ∧ (0 : Int32).toInt ≤ 26) := ⟨hP, hD, hS, lv_sub hl [2, 1, 0] rfl, ⟨by omega, by omega⟩⟩
    exact hJ4 s.heap [] ls (fun i => ([0, 0] : List (Int32)).getD i 0) (fun _ => 0) (fun _ => (fun _ => 0)) (fun _ => (fun _ => 0)) hc
set_option maxHeartbeats 8000000 in
set_option maxRecDepth 100000 in
theorem sX5_isNear_0 (l : Launch) (dC : Nat → ClassId) (dI : Nat → Nat → Nat) (adK adV : Nat → Nat) (h0 : Nat) (h1 : Nat) (h2 : Nat) (h3 : Nat) (k1 : ClassId) (k3 : ClassId) (sz : Nat) (f1 : Nat → Int32) (f3 : Nat → Int32) (x2 : Int32) : Met l yX5_isNear (zw yX5_isNear cX5_isNear 8 (some .boolean)) { frames := 2, cells := 0, slots := 0, locals := 44 } (zPc dC dI adK adV [.ref h0, .ref h2, .int x2] sz [(h0, .inr (5, mX5 h1)), (h1, .inl (k1, 26, .inl f1)), (h2, .inr (5, mX5 h3)), (h3, .inl (k3, 26, .inl f3))] [(k1, .int), (k3, .int)]) (va_Qi (fun (r : Int32) (u : Nat → Int32) => (0 ≤ r.toInt ∧ r.toInt ≤ 1)) (fun (u : Nat → Int32) (t : State) => ∃ (ww : Nat → Int64) (aa : Nat → Nat → Int32) (bb : Nat → Nat → Int64), va_P (dC, dI) vwCl [(h0, .inr (5, mX5 h1)), (h1, .inl (k1, 26, .inl f1)), (h2, .inr (5, mX5 h3)), (h3, .inl (k3, 26, .inl f3))] t.heap ∧ va_K (dC, dI) vwCl [(k1, .int), (k3, .int)] t ∧ va_D (va_A [(h0, .inr (5, mX5 h1)), (h1, .inl (k1, 26, .inl f1)), (h2, .inr (5, mX5 h3)), (h3, .inl (k3, 26, .inl f3))] sz) [(h0, .inr (5, mX5 h1)), (h1, .inl (k1, 26, .inl f1)), (h2, .inr (5, mX5 h3)), (h3, .inl (k3, 26, .inl f3))]) (va_A [(h0, .inr (5, mX5 h1)), (h1, .inl (k1, 26, .inl f1)), (h2, .inr (5, mX5 h3)), (h3, .inl (k3, 26, .inl f3))] sz)) 0 0 (va_A [(h0, .inr (5, mX5 h1)), (h1, .inl (k1, 26, .inl f1)), (h2, .inr (5, mX5 h3)), (h3, .inl (k3, 26, .inl f3))] sz) := by
  refine Met.ofW (cc := cX5_isNear) (maxL := 8) (ret := (some .boolean)) (by decide) rfl ?_
  intro p e s m args below meth c s₁ B hml hv
  obtain ⟨rfl, hsz, hP, hK, hD0, hE, hZ⟩ := hv
  have hx := B.exec
  have hb := B.bytes
  have hr := B.returns
  have hG : ∀ w ∈ zG, w.before _ s = true := fun w h => atoms_spec (ws := (zw yX5_isNear cX5_isNear 8 (some .boolean))) B.pre w (List.mem_cons_of_mem _ h)
  have hown : s.vm.findClass RX5 = some m.cls := findClass_of_methodNamed B.named
  have hlocks := B.notSynchronized

  subst hsz
  have hD := hD0.self (sz := s.heap.size)
  generalize hAe : va_A [(h0, .inr (5, mX5 h1)), (h1, .inl (k1, 26, .inl f1)), (h2, .inr (5, mX5 h3)), (h3, .inl (k3, 26, .inl f3))] s.heap.size = A at hD hZ ⊢
  have hA : ∀ q : Nat, s.heap.size ≤ q → A q := fun q h => by rw [← hAe]; exact Or.inr h
  have hS : va_S A s.heap s.heap [] := va_S.rf
  have hl := lv_entry ([.ref h0, .ref h2, .int x2]) (n := 8) (Nat.le_of_ble_eq_true rfl)
  rw [lg_entry_eq]
  generalize (lg_sl ([.ref h0, .ref h2, .int x2]) ++ List.replicate (8 - (lg_sl ([.ref h0, .ref h2, .int x2])).length) Slot.unset).toArray = ls at hl ⊢
  have hl : lv_has ls 8 [(0, .ref h0), (1, .ref h2), (2, .int x2)] := hl
  have b_ := zk_0
  have b_ := zk_1
  have b_ := zk_512
  have b_ := zk_832
  refine lv_aload_n hx hb dX5_isNear_0 rfl (lv_at hl 0 rfl) ?_
  refine lv_iconst (v := 0) hx hb dX5_isNear_1 (by decide) ?_
  have hPc := hP.sub (ws' := [(h0, .inr (5, mX5 h1)), (h1, .inl (k1, 26, .inl f1))]) [0, 1] rfl
  have hDc := hD.sub (ws' := [(h0, .inr (5, mX5 h1)), (h1, .inl (k1, 26, .inl f1))]) [0, 1] (by decide) rfl
  have hKc := hK.sub (tys' := [(k1, .int)]) [0] rfl
  have hFc := va_free (wc := [(h0, .inr (5, mX5 h1)), (h1, .inl (k1, 26, .inl f1))]) hD hS hA [0, 1] rfl
  refine va_calli (va_runV (As := [.int 0]) (rest := []) ⟨hx, hb, hml, hown, hG⟩ (sX5_nextFrom_0 l dC dI adK adV h0 h1 k1 s.heap.size f1 0) (cwV 1 hG (zgV zw292 zw293 zw294 zw295 zw296) rfl rfl rfl (by decide +kernel) ⟨Nat.le_of_ble_eq_true rfl, Nat.le_of_ble_eq_true rfl⟩) ⟨zPc_blind, va_recv hKc hPc (ci := 5) (q0 := 0) rfl rfl, zPc_pre hPc hKc hDc hE hS hFc hZ⟩ rfl rfl hl.1 rfl (lv_room (Nat.le_of_ble_eq_true rfl)) dX5_isNear_2 ⟨Nat.le_of_ble_eq_true rfl, Nat.le_of_ble_eq_true rfl⟩) hS (fun q _ h => hFc q h) hFc (fun r2_ u2_ t H1 locs ht hvm hw hB hz1 hk1 hS => ?_)
  have hw : ((-1) ≤ r2_.toInt ∧ r2_.toInt ≤ 832) ∧ (r2_.toInt ≤ 831) := hw
  obtain ⟨b_, hX2_0⟩ := hw
  obtain ⟨w2_, a2_, b2_, hP1, hK1, hD1⟩ := hB
  rw [ht] at hP1
  obtain ⟨hP, hD⟩ := va_join (wr := [(h2, .inr (5, mX5 h3)), (h3, .inl (k3, 26, .inl f3))]) (w1 := [(h0, .inr (5, mX5 h1)), (h1, .inl (k1, 26, .inl f1))]) hP hD [0, 1] [2, 3] rfl rfl (by decide) (by decide) hk1 hFc hP1 hD1
  have hP : va_P (dC, dI) vwCl [(h0, .inr (5, mX5 h1)), (h1, .inl (k1, 26, .inl f1)), (h2, .inr (5, mX5 h3)), (h3, .inl (k3, 26, .inl f3))] H1 := hP.sub [2, 3, 0, 1] rfl
  have hD : va_D A [(h0, .inr (5, mX5 h1)), (h1, .inl (k1, 26, .inl f1)), (h2, .inr (5, mX5 h3)), (h3, .inl (k3, 26, .inl f3))] := hD.sub [2, 3, 0, 1] (by decide) rfl
  generalize H1 = H at hP hS ⊢
  clear hz1
  refine lv_istore_n (lv' := [(3, .int r2_), (0, .ref h0), (1, .ref h2), (2, .int x2)]) hx hb dX5_isNear_5 rfl hl (by decide) rfl (fun ls hl => ?_)
  refine lv_iconst (v := 0) hx hb dX5_isNear_6 (by decide) ?_
  refine lv_istore (lv' := [(4, .int 0), (3, .int r2_), (0, .ref h0), (1, .ref h2), (2, .int x2)]) hx hb dX5_isNear_7 hl (by decide) rfl (fun ls hl => ?_)
  refine zcutL (fun u9_ => (832 - (u9_ 1).toInt).toNat) (fun H locs ls u9_ w9_ a9_ b9_ => va_P (dC, dI) vwCl [(h0, .inr (5, mX5 h1)), (h1, .inl (k1, 26, .inl f1)), (h2, .inr (5, mX5 h3)), (h3, .inl (k3, 26, .inl f3))] H ∧ va_D A [(h0, .inr (5, mX5 h1)), (h1, .inl (k1, 26, .inl f1)), (h2, .inr (5, mX5 h3)), (h3, .inl (k3, 26, .inl f3))] ∧ va_S A s.heap H locs ∧ lv_has ls 8 [(0, .ref h0), (1, .ref h2), (2, .int x2), (3, .int (u9_ 0)), (4, .int (u9_ 1))] ∧ ((-1) ≤ (u9_ 0).toInt ∧ (u9_ 0).toInt ≤ 832) ∧ (0 ≤ (u9_ 1).toInt ∧ (u9_ 1).toInt ≤ 832)) (fun ls u9_ w9_ => F0 m 9 ls []) 0 0 ?_ (fun hJ9 => ?_)
  · skip
    intro H locs ls u9_ w9_ a9_ b9_ hc hJ9
    obtain ⟨hP, hD, hS, hl, b_, b_⟩ := hc
    refine lv_iload hx hb dX5_isNear_9 (lv_at hl 4 rfl) ?_
    refine lv_sipush (v := 832) hx hb dX5_isNear_11 (by decide) ?_
    refine lv_icmp_ge (tgt := 107) hx hb dX5_isNear_14 (by decide) (fun c_ => ?_) (fun c_ => ?_)
    · skip
      have b_ := zT_ge rfl zk_832 c_
      refine lv_iconst (v := 0) hx hb dX5_isNear_107 (by decide) ?_
      refine W.widen (k := 0) (n := 0) (by decide) (by decide) ?_
      have hpost : (0 ≤ (0 : Int32).toInt ∧ (0 : Int32).toInt ≤ 1) := ⟨by omega, by omega⟩
      have hP9 : va_P (dC, dI) vwCl [(h0, .inr (5, mX5 h1)), (h1, .inl (k1, 26, .inl f1)), (h2, .inr (5, mX5 h3)), (h3, .inl (k3, 26, .inl f3))] H := hP
      have hD9 : va_D A [(h0, .inr (5, mX5 h1)), (h1, .inl (k1, 26, .inl f1)), (h2, .inr (5, mX5 h3)), (h3, .inl (k3, 26, .inl f3))] := hD
      exact W.zret (v := 0) hx hb hr rfl (fun t ht hW => ⟨⟨0, (fun _ => 0), rfl, hpost, (fun _ => 0), (fun _ => (fun _ => 0)), (fun _ => (fun _ => 0)), by rw [ht]; exact hP9, va_K.moved hW.alike hK, hD9⟩, hS.F ht⟩) hS.2.2 dX5_isNear_108
    · skip
      have b_ := zF_ge rfl zk_832 c_
      refine lv_iload_n hx hb dX5_isNear_17 rfl (lv_at hl 3 rfl) ?_
      refine lv_iconst (v := (-1)) hx hb dX5_isNear_18 (by decide) ?_
      refine lv_icmp_eq (tgt := 107) hx hb dX5_isNear_19 (by decide) (fun c_ => ?_) (fun c_ => ?_)
      · skip
        have b_ := zT_eq rfl zk_m1 c_
        refine lv_iconst (v := 0) hx hb dX5_isNear_107 (by decide) ?_
        refine W.widen (k := 0) (n := 0) (by decide) (by decide) ?_
        have hpost : (0 ≤ (0 : Int32).toInt ∧ (0 : Int32).toInt ≤ 1) := ⟨by omega, by omega⟩
        have hP9 : va_P (dC, dI) vwCl [(h0, .inr (5, mX5 h1)), (h1, .inl (k1, 26, .inl f1)), (h2, .inr (5, mX5 h3)), (h3, .inl (k3, 26, .inl f3))] H := hP
        have hD9 : va_D A [(h0, .inr (5, mX5 h1)), (h1, .inl (k1, 26, .inl f1)), (h2, .inr (5, mX5 h3)), (h3, .inl (k3, 26, .inl f3))] := hD
        exact W.zret (v := 0) hx hb hr rfl (fun t ht hW => ⟨⟨0, (fun _ => 0), rfl, hpost, (fun _ => 0), (fun _ => (fun _ => 0)), (fun _ => (fun _ => 0)), by rw [ht]; exact hP9, va_K.moved hW.alike hK, hD9⟩, hS.F ht⟩) hS.2.2 dX5_isNear_108
      · skip
        have b_ := zF_eq rfl zk_m1 c_
        refine lv_iload_n hx hb dX5_isNear_22 rfl (lv_at hl 3 rfl) ?_
        refine lv_sipush (v := 512) hx hb dX5_isNear_23 (by decide) ?_
        refine zcutW (fun H locs ls u36_ w36_ a36_ b36_ => va_P (dC, dI) vwCl [(h0, .inr (5, mX5 h1)), (h1, .inl (k1, 26, .inl f1)), (h2, .inr (5, mX5 h3)), (h3, .inl (k3, 26, .inl f3))] H ∧ va_D A [(h0, .inr (5, mX5 h1)), (h1, .inl (k1, 26, .inl f1)), (h2, .inr (5, mX5 h3)), (h3, .inl (k3, 26, .inl f3))] ∧ va_S A s.heap H locs ∧ lv_has ls 8 [(0, .ref h0), (1, .ref h2), (2, .int x2), (3, .int (u9_ 0)), (4, .int (u9_ 1))] ∧ (0 ≤ (u36_ 0).toInt ∧ (u36_ 0).toInt ≤ 512)) (fun ls u36_ w36_ => F0 m 36 ls [.int (u36_ 0)]) 0 0 ?_ (fun hJ36 => ?_)
        · skip
          intro H locs ls u36_ w36_ a36_ b36_ hc
          obtain ⟨hP, hD, hS, hl, b_⟩ := hc
          refine lv_istore (lv' := [(5, .int (u36_ 0)), (0, .ref h0), (1, .ref h2), (2, .int x2), (3, .int (u9_ 0)), (4, .int (u9_ 1))]) hx hb dX5_isNear_36 hl (by decide) rfl (fun ls hl => ?_)
          refine lv_iload_n hx hb dX5_isNear_38 rfl (lv_at hl 4 rfl) ?_
          refine lv_sipush (v := 512) hx hb dX5_isNear_39 (by decide) ?_
          refine zcutW (fun H locs ls u54_ w54_ a54_ b54_ => va_P (dC, dI) vwCl [(h0, .inr (5, mX5 h1)), (h1, .inl (k1, 26, .inl f1)), (h2, .inr (5, mX5 h3)), (h3, .inl (k3, 26, .inl f3))] H ∧ va_D A [(h0, .inr (5, mX5 h1)), (h1, .inl (k1, 26, .inl f1)), (h2, .inr (5, mX5 h3)), (h3, .inl (k3, 26, .inl f3))] ∧ va_S A s.heap H locs ∧ lv_has ls 8 [(0, .ref h0), (1, .ref h2), (2, .int x2), (3, .int (u9_ 0)), (4, .int (u9_ 1)), (5, .int (u36_ 0))] ∧ (512 ≤ (u54_ 0).toInt ∧ (u54_ 0).toInt ≤ 832)) (fun ls u54_ w54_ => F0 m 54 ls [.int (u54_ 0)]) 0 0 ?_ (fun hJ54 => ?_)
          · skip
            intro H locs ls u54_ w54_ a54_ b54_ hc
            obtain ⟨hP, hD, hS, hl, b_⟩ := hc
            refine lv_istore (lv' := [(6, .int (u54_ 0)), (0, .ref h0), (1, .ref h2), (2, .int x2), (3, .int (u9_ 0)), (4, .int (u9_ 1)), (5, .int (u36_ 0))]) hx hb dX5_isNear_54 hl (by decide) rfl (fun ls hl => ?_)
            refine lv_aload_n hx hb dX5_isNear_56 rfl (lv_at hl 2 rfl) ?_
            refine lv_iload hx hb dX5_isNear_57 (lv_at hl 6 rfl) ?_
            refine lv_iload_n hx hb dX5_isNear_59 rfl (lv_at hl 4 rfl) ?_
            refine lv_iload_n hx hb dX5_isNear_60 rfl (lv_at hl 3 rfl) ?_
            have b_ : -2147483648 ≤ x2.toInt ∧ x2.toInt ≤ 2147483647 := ⟨zlo _, zhi _⟩
            refine lv_isub hx hb dX5_isNear_61 ?_
            refine lv_topi (fun z61 e_z61 => ?_)
            have b_ : -2147483648 ≤ z61.toInt ∧ z61.toInt ≤ 2147483647 := ⟨zlo _, zhi _⟩
            refine va_mmax hx hb (by rw [hml]; exact hl.1.symm) hown (hG _ zw291) (hG _ zw8) (hG _ zw9) (hG _ zw10) (Nat.le_of_ble_eq_true rfl) (Nat.le_of_ble_eq_true rfl) (Nat.le_of_ble_eq_true rfl) (Nat.le_of_ble_eq_true rfl) dX5_isNear_62 ?_
            refine lv_topi (fun z62 e_z62 => ?_)
            have b_ := zmax rfl rfl e_z62
            have hPc := hP.sub (ws' := [(h2, .inr (5, mX5 h3)), (h3, .inl (k3, 26, .inl f3))]) [2, 3] rfl
            have hDc := hD.sub (ws' := [(h2, .inr (5, mX5 h3)), (h3, .inl (k3, 26, .inl f3))]) [2, 3] (by decide) rfl
            have hKc := hK.sub (tys' := [(k3, .int)]) [1] rfl
            have hFc := va_free (wc := [(h2, .inr (5, mX5 h3)), (h3, .inl (k3, 26, .inl f3))]) hD hS hA [2, 3] rfl
            refine va_calli (va_runV (As := [.int z62]) (rest := []) ⟨hx, hb, hml, hown, hG⟩ (sX5_nextFrom_0 l dC dI adK adV h2 h3 k3 H.size f3 z62) (cwV 1 hG (zgV zw292 zw293 zw294 zw295 zw296) rfl rfl rfl (by decide +kernel) ⟨Nat.le_of_ble_eq_true rfl, Nat.le_of_ble_eq_true rfl⟩) ⟨zPc_blind, va_recv hKc hPc (ci := 5) (q0 := 0) rfl rfl, zPc_pre hPc hKc hDc hE hS hFc hZ⟩ rfl rfl hl.1 rfl (lv_room (Nat.le_of_ble_eq_true rfl)) dX5_isNear_65 ⟨Nat.le_of_ble_eq_true rfl, Nat.le_of_ble_eq_true rfl⟩) hS (fun q _ h => hFc q h) hFc (fun r65_ u65_ t H1 locs ht hvm hw hB hz1 hk1 hS => ?_)
            have hw : ((-1) ≤ r65_.toInt ∧ r65_.toInt ≤ 832) ∧ (r65_.toInt ≤ 831) := hw
            obtain ⟨b_, hX65_0⟩ := hw
            obtain ⟨w65_, a65_, b65_, hP1, hK1, hD1⟩ := hB
            rw [ht] at hP1
            obtain ⟨hP, hD⟩ := va_join (wr := [(h0, .inr (5, mX5 h1)), (h1, .inl (k1, 26, .inl f1))]) (w1 := [(h2, .inr (5, mX5 h3)), (h3, .inl (k3, 26, .inl f3))]) hP hD [2, 3] [0, 1] rfl rfl (by decide) (by decide) hk1 hFc hP1 hD1
            have hP : va_P (dC, dI) vwCl [(h0, .inr (5, mX5 h1)), (h1, .inl (k1, 26, .inl f1)), (h2, .inr (5, mX5 h3)), (h3, .inl (k3, 26, .inl f3))] H1 := hP.sub [0, 1, 2, 3] rfl
            have hD : va_D A [(h0, .inr (5, mX5 h1)), (h1, .inl (k1, 26, .inl f1)), (h2, .inr (5, mX5 h3)), (h3, .inl (k3, 26, .inl f3))] := hD.sub [0, 1, 2, 3] (by decide) rfl
            generalize H1 = H at hP hS ⊢
            clear hz1
            refine lv_istore (lv' := [(7, .int r65_), (6, .int (u54_ 0)), (0, .ref h0), (1, .ref h2), (2, .int x2), (3, .int (u9_ 0)), (4, .int (u9_ 1)), (5, .int (u36_ 0))]) hx hb dX5_isNear_68 hl (by decide) rfl (fun ls hl => ?_)
            refine lv_iload hx hb dX5_isNear_70 (lv_at hl 0 rfl) ?_
            refine lv_iconst (v := (-1)) hx hb dX5_isNear_72 (by decide) ?_
            refine zcutW (fun H locs ls u93_ w93_ a93_ b93_ => va_P (dC, dI) vwCl [(h0, .inr (5, mX5 h1)), (h1, .inl (k1, 26, .inl f1)), (h2, .inr (5, mX5 h3)), (h3, .inl (k3, 26, .inl f3))] H ∧ va_D A [(h0, .inr (5, mX5 h1)), (h1, .inl (k1, 26, .inl f1)), (h2, .inr (5, mX5 h3)), (h3, .inl (k3, 26, .inl f3))] ∧ va_S A s.heap H locs ∧ lv_has ls 8 [(0, .ref h0), (1, .ref h2), (2, .int x2), (3, .int (u9_ 0)), (4, .int (u9_ 1)), (5, .int (u36_ 0)), (6, .int (u54_ 0)), (7, .int r65_)] ∧ ((-1) ≤ r65_.toInt ∧ r65_.toInt ≤ 832)) (fun ls u93_ w93_ => F0 m 93 ls []) 0 0 ?_ (fun hJ93 => ?_)
            · skip
              intro H locs ls u93_ w93_ a93_ b93_ hc
              obtain ⟨hP, hD, hS, hl, b_⟩ := hc
              refine lv_aload_n hx hb dX5_isNear_93 rfl (lv_at hl 0 rfl) ?_
              refine lv_iload_n hx hb dX5_isNear_94 rfl (lv_at hl 3 rfl) ?_
              refine lv_iconst (v := 1) hx hb dX5_isNear_95 (by decide) ?_
              refine lv_iadd hx hb dX5_isNear_96 ?_
              refine lv_topi (fun z96 e_z96 => ?_)
              have b_ := zadd rfl zk_1 e_z96 (by omega) (by omega)
              have hPc := hP.sub (ws' := [(h0, .inr (5, mX5 h1)), (h1, .inl (k1, 26, .inl f1))]) [0, 1] rfl
              have hDc := hD.sub (ws' := [(h0, .inr (5, mX5 h1)), (h1, .inl (k1, 26, .inl f1))]) [0, 1] (by decide) rfl
              have hKc := hK.sub (tys' := [(k1, .int)]) [0] rfl
              have hFc := va_free (wc := [(h0, .inr (5, mX5 h1)), (h1, .inl (k1, 26, .inl f1))]) hD hS hA [0, 1] rfl
              refine va_calli (va_runV (As := [.int z96]) (rest := []) ⟨hx, hb, hml, hown, hG⟩ (sX5_nextFrom_0 l dC dI adK adV h0 h1 k1 H.size f1 z96) (cwV 1 hG (zgV zw292 zw293 zw294 zw295 zw296) rfl rfl rfl (by decide +kernel) ⟨Nat.le_of_ble_eq_true rfl, Nat.le_of_ble_eq_true rfl⟩) ⟨zPc_blind, va_recv hKc hPc (ci := 5) (q0 := 0) rfl rfl, zPc_pre hPc hKc hDc hE hS hFc hZ⟩ rfl rfl hl.1 rfl (lv_room (Nat.le_of_ble_eq_true rfl)) dX5_isNear_97 ⟨Nat.le_of_ble_eq_true rfl, Nat.le_of_ble_eq_true rfl⟩) hS (fun q _ h => hFc q h) hFc (fun r97_ u97_ t H1 locs ht hvm hw hB hz1 hk1 hS => ?_)
              have hw : ((-1) ≤ r97_.toInt ∧ r97_.toInt ≤ 832) ∧ (r97_.toInt ≤ 831) := hw
              obtain ⟨b_, hX97_0⟩ := hw
              obtain ⟨w97_, a97_, b97_, hP1, hK1, hD1⟩ := hB
              rw [ht] at hP1
              obtain ⟨hP, hD⟩ := va_join (wr := [(h2, .inr (5, mX5 h3)), (h3, .inl (k3, 26, .inl f3))]) (w1 := [(h0, .inr (5, mX5 h1)), (h1, .inl (k1, 26, .inl f1))]) hP hD [0, 1] [2, 3] rfl rfl (by decide) (by decide) hk1 hFc hP1 hD1
              have hP : va_P (dC, dI) vwCl [(h0, .inr (5, mX5 h1)), (h1, .inl (k1, 26, .inl f1)), (h2, .inr (5, mX5 h3)), (h3, .inl (k3, 26, .inl f3))] H1 := hP.sub [2, 3, 0, 1] rfl
              have hD : va_D A [(h0, .inr (5, mX5 h1)), (h1, .inl (k1, 26, .inl f1)), (h2, .inr (5, mX5 h3)), (h3, .inl (k3, 26, .inl f3))] := hD.sub [2, 3, 0, 1] (by decide) rfl
              generalize H1 = H at hP hS ⊢
              clear hz1
              refine lv_istore_n (lv' := [(3, .int r97_), (0, .ref h0), (1, .ref h2), (2, .int x2), (4, .int (u9_ 1)), (5, .int (u36_ 0)), (6, .int (u54_ 0)), (7, .int r65_)]) hx hb dX5_isNear_100 rfl hl (by decide) rfl (fun ls hl => ?_)
              obtain ⟨z101, e_z101⟩ : ∃ z : Int32, z = (u9_ 1) + Int32.ofInt 1 := ⟨_, rfl⟩
              have b_ := zadd (x := (u9_ 1)) (y := Int32.ofInt 1) rfl (show (Int32.ofInt 1).toInt = 1 from by decide) e_z101 (by omega) (by omega)
              refine lv_iinc (v := z101) (lv' := [(4, .int z101), (3, .int r97_), (0, .ref h0), (1, .ref h2), (2, .int x2), (5, .int (u36_ 0)), (6, .int (u54_ 0)), (7, .int r65_)]) hx hb dX5_isNear_101 hl (k := 4) rfl e_z101.symm (by decide) rfl (fun ls hl => ?_)
              refine lv_goto (tgt := 9) hx hb dX5_isNear_104 (by decide) ?_
              have hc : va_P (dC, dI) vwCl [(h0, .inr (5, mX5 h1)), (h1, .inl (k1, 26, .inl f1)), (h2, .inr (5, mX5 h3)), (h3, .inl (k3, 26, .inl f3))] H ∧ va_D A [(h0, .inr (5, mX5 h1)), (h1, .inl (k1, 26, .inl f1)), (h2, .inr (5, mX5 h3)), (h3, .inl (k3, 26, .inl f3))] ∧ va_S A s.heap H locs ∧ lv_has ls 8 [(0, .ref h0), (1, .ref h2), (2, .int x2), (3, .int r97_), (4, .int z101)] ∧ ((-1) ≤ r97_.toInt ∧ r97_.toInt ≤ 832) ∧ (0 ≤ z101.toInt ∧ z101.toInt ≤ 832) := ⟨hP, hD, hS, lv_sub hl [2, 3, 4, 1, 0] rfl, ⟨by omega, by omega⟩, ⟨by omega, by omega⟩⟩
              exact hJ9 H locs ls (fun i => ([r97_, z101] : List (Int32)).getD i 0) (fun _ => 0) (fun _ => (fun _ => 0)) (fun _ => (fun _ => 0)) hc (show (832 - z101.toInt).toNat < (832 - (u9_ 1).toInt).toNat from by omega)
            · skip
              refine lv_icmp_eq (tgt := 93) hx hb dX5_isNear_73 (by decide) (fun c_ => ?_) (fun c_ => ?_)
              · skip
                have b_ := zT_eq rfl zk_m1 c_
                have hc : va_P (dC, dI) vwCl [(h0, .inr (5, mX5 h1)), (h1, .inl (k1, 26, .inl f1)), (h2, .inr (5, mX5 h3)), (h3, .inl (k3, 26, .inl f3))] H ∧ va_D A [(h0, .inr (5, mX5 h1)), (h1, .inl (k1, 26, .inl f1)), (h2, .inr (5, mX5 h3)), (h3, .inl (k3, 26, .inl f3))] ∧ va_S A s.heap H locs ∧ lv_has ls 8 [(0, .ref h0), (1, .ref h2), (2, .int x2), (3, .int (u9_ 0)), (4, .int (u9_ 1)), (5, .int (u36_ 0)), (6, .int (u54_ 0)), (7, .int r65_)] ∧ ((-1) ≤ r65_.toInt ∧ r65_.toInt ≤ 832) := ⟨hP, hD, hS, lv_sub hl [2, 3, 4, 5, 6, 7, 1, 0] rfl, ⟨by omega, by omega⟩⟩
                exact hJ93 H locs ls (fun _ => 0) (fun _ => 0) (fun _ => (fun _ => 0)) (fun _ => (fun _ => 0)) hc
              · skip
                have b_ := zF_eq rfl zk_m1 c_
                refine lv_iload hx hb dX5_isNear_76 (lv_at hl 0 rfl) ?_
                refine lv_iload hx hb dX5_isNear_78 (lv_at hl 1 rfl) ?_
                refine lv_icmp_ge (tgt := 93) hx hb dX5_isNear_80 (by decide) (fun c_ => ?_) (fun c_ => ?_)
                · skip
                  have b_ := zT_ge rfl rfl c_
                  have hc : va_P (dC, dI) vwCl [(h0, .inr (5, mX5 h1)), (h1, .inl (k1, 26, .inl f1)), (h2, .inr (5, mX5 h3)), (h3, .inl (k3, 26, .inl f3))] H ∧ va_D A [(h0, .inr (5, mX5 h1)), (h1, .inl (k1, 26, .inl f1)), (h2, .inr (5, mX5 h3)), (h3, .inl (k3, 26, .inl f3))] ∧ va_S A s.heap H locs ∧ lv_has ls 8 [(0, .ref h0), (1, .ref h2), (2, .int x2), (3, .int (u9_ 0)), (4, .int (u9_ 1)), (5, .int (u36_ 0)), (6, .int (u54_ 0)), (7, .int r65_)] ∧ ((-1) ≤ r65_.toInt ∧ r65_.toInt ≤ 832) := ⟨hP, hD, hS, lv_sub hl [2, 3, 4, 5, 6, 7, 1, 0] rfl, ⟨by omega, by omega⟩⟩
                  exact hJ93 H locs ls (fun _ => 0) (fun _ => 0) (fun _ => (fun _ => 0)) (fun _ => (fun _ => 0)) hc
                · skip
                  have b_ := zF_ge rfl rfl c_
                  refine lv_iload hx hb dX5_isNear_83 (lv_at hl 0 rfl) ?_
                  refine lv_iload_n hx hb dX5_isNear_85 rfl (lv_at hl 5 rfl) ?_
                  refine lv_iload_n hx hb dX5_isNear_86 rfl (lv_at hl 4 rfl) ?_
                  refine lv_iadd hx hb dX5_isNear_87 ?_
                  refine lv_topi (fun z87 e_z87 => ?_)
                  have b_ : -2147483648 ≤ z87.toInt ∧ z87.toInt ≤ 2147483647 := ⟨zlo _, zhi _⟩
                  refine lv_icmp_gt (tgt := 93) hx hb dX5_isNear_88 (by decide) (fun c_ => ?_) (fun c_ => ?_)
                  · skip
                    have b_ := zT_gt rfl rfl c_
                    have hc : va_P (dC, dI) vwCl [(h0, .inr (5, mX5 h1)), (h1, .inl (k1, 26, .inl f1)), (h2, .inr (5, mX5 h3)), (h3, .inl (k3, 26, .inl f3))] H ∧ va_D A [(h0, .inr (5, mX5 h1)), (h1, .inl (k1, 26, .inl f1)), (h2, .inr (5, mX5 h3)), (h3, .inl (k3, 26, .inl f3))] ∧ va_S A s.heap H locs ∧ lv_has ls 8 [(0, .ref h0), (1, .ref h2), (2, .int x2), (3, .int (u9_ 0)), (4, .int (u9_ 1)), (5, .int (u36_ 0)), (6, .int (u54_ 0)), (7, .int r65_)] ∧ ((-1) ≤ r65_.toInt ∧ r65_.toInt ≤ 832) := ⟨hP, hD, hS, lv_sub hl [2, 3, 4, 5, 6, 7, 1, 0] rfl, ⟨by omega, by omega⟩⟩
                    exact hJ93 H locs ls (fun _ => 0) (fun _ => 0) (fun _ => (fun _ => 0)) (fun _ => (fun _ => 0)) hc
                  · skip
                    have b_ := zF_gt rfl rfl c_
                    refine lv_iconst (v := 1) hx hb dX5_isNear_91 (by decide) ?_
                    refine W.widen (k := 0) (n := 0) (by decide) (by decide) ?_
                    have hpost : (0 ≤ (1 : Int32).toInt ∧ (1 : Int32).toInt ≤ 1) := ⟨by omega, by omega⟩
                    have hP9 : va_P (dC, dI) vwCl [(h0, .inr (5, mX5 h1)), (h1, .inl (k1, 26, .inl f1)), (h2, .inr (5, mX5 h3)), (h3, .inl (k3, 26, .inl f3))] H := hP
                    have hD9 : va_D A [(h0, .inr (5, mX5 h1)), (h1, .inl (k1, 26, .inl f1)), (h2, .inr (5, mX5 h3)), (h3, .inl (k3, 26, .inl f3))] := hD
                    exact W.zret (v := 1) hx hb hr rfl (fun t ht hW => ⟨⟨1, (fun _ => 0), rfl, hpost, (fun _ => 0), (fun _ => (fun _ => 0)), (fun _ => (fun _ => 0)), by rw [ht]; exact hP9, va_K.moved hW.alike hK, hD9⟩, hS.F ht⟩) hS.2.2 dX5_isNear_92
          · skip
            refine lv_icmp_ge (tgt := 51) hx hb dX5_isNear_42 (by decide) (fun c_ => ?_) (fun c_ => ?_)
            · skip
              have b_ := zT_ge rfl zk_512 c_
              refine lv_sipush (v := 832) hx hb dX5_isNear_51 (by decide) ?_
              have hc : va_P (dC, dI) vwCl [(h0, .inr (5, mX5 h1)), (h1, .inl (k1, 26, .inl f1)), (h2, .inr (5, mX5 h3)), (h3, .inl (k3, 26, .inl f3))] H ∧ va_D A [(h0, .inr (5, mX5 h1)), (h1, .inl (k1, 26, .inl f1)), (h2, .inr (5, mX5 h3)), (h3, .inl (k3, 26, .inl f3))] ∧ va_S A s.heap H locs ∧ lv_has ls 8 [(0, .ref h0), (1, .ref h2), (2, .int x2), (3, .int (u9_ 0)), (4, .int (u9_ 1)), (5, .int (u36_ 0))] ∧ (512 ≤ (832 : Int32).toInt ∧ (832 : Int32).toInt ≤ 832) := ⟨hP, hD, hS, lv_sub hl [1, 2, 3, 4, 5, 0] rfl, ⟨by omega, by omega⟩⟩
              exact hJ54 H locs ls (fun i => ([832] : List (Int32)).getD i 0) (fun _ => 0) (fun _ => (fun _ => 0)) (fun _ => (fun _ => 0)) hc
            · skip
              have b_ := zF_ge rfl zk_512 c_
              refine lv_sipush (v := 512) hx hb dX5_isNear_45 (by decide) ?_
              refine lv_goto (tgt := 54) hx hb dX5_isNear_48 (by decide) ?_
              have hc : va_P (dC, dI) vwCl [(h0, .inr (5, mX5 h1)), (h1, .inl (k1, 26, .inl f1)), (h2, .inr (5, mX5 h3)), (h3, .inl (k3, 26, .inl f3))] H ∧ va_D A [(h0, .inr (5, mX5 h1)), (h1, .inl (k1, 26, .inl f1)), (h2, .inr (5, mX5 h3)), (h3, .inl (k3, 26, .inl f3))] ∧ va_S A s.heap H locs ∧ lv_has ls 8 [(0, .ref h0), (1, .ref h2), (2, .int x2), (3, .int (u9_ 0)), (4, .int (u9_ 1)), (5, .int (u36_ 0))] ∧ (512 ≤ (512 : Int32).toInt ∧ (512 : Int32).toInt ≤ 832) := ⟨hP, hD, hS, lv_sub hl [1, 2, 3, 4, 5, 0] rfl, ⟨by omega, by omega⟩⟩
              exact hJ54 H locs ls (fun i => ([512] : List (Int32)).getD i 0) (fun _ => 0) (fun _ => (fun _ => 0)) (fun _ => (fun _ => 0)) hc
        · skip
          refine lv_icmp_ge (tgt := 33) hx hb dX5_isNear_26 (by decide) (fun c_ => ?_) (fun c_ => ?_)
          · skip
            have b_ := zT_ge rfl zk_512 c_
            refine lv_sipush (v := 512) hx hb dX5_isNear_33 (by decide) ?_
            have hc : va_P (dC, dI) vwCl [(h0, .inr (5, mX5 h1)), (h1, .inl (k1, 26, .inl f1)), (h2, .inr (5, mX5 h3)), (h3, .inl (k3, 26, .inl f3))] H ∧ va_D A [(h0, .inr (5, mX5 h1)), (h1, .inl (k1, 26, .inl f1)), (h2, .inr (5, mX5 h3)), (h3, .inl (k3, 26, .inl f3))] ∧ va_S A s.heap H locs ∧ lv_has ls 8 [(0, .ref h0), (1, .ref h2), (2, .int x2), (3, .int (u9_ 0)), (4, .int (u9_ 1))] ∧ (0 ≤ (512 : Int32).toInt ∧ (512 : Int32).toInt ≤ 512) := ⟨hP, hD, hS, lv_sub hl [0, 1, 2, 3, 4] rfl, ⟨by omega, by omega⟩⟩
            exact hJ36 H locs ls (fun i => ([512] : List (Int32)).getD i 0) (fun _ => 0) (fun _ => (fun _ => 0)) (fun _ => (fun _ => 0)) hc
          · skip
            have b_ := zF_ge rfl zk_512 c_
            refine lv_iconst (v := 0) hx hb dX5_isNear_29 (by decide) ?_
            refine lv_goto (tgt := 36) hx hb dX5_isNear_30 (by decide) ?_
            have hc : va_P (dC, dI) vwCl [(h0, .inr (5, mX5 h1)), (h1, .inl (k1, 26, .inl f1)), (h2, .inr (5, mX5 h3)), (h3, .inl (k3, 26, .inl f3))] H ∧ va_D A [(h0, .inr (5, mX5 h1)), (h1, .inl (k1, 26, .inl f1)), (h2, .inr (5, mX5 h3)), (h3, .inl (k3, 26, .inl f3))] ∧ va_S A s.heap H locs ∧ lv_has ls 8 [(0, .ref h0), (1, .ref h2), (2, .int x2), (3, .int (u9_ 0)), (4, .int (u9_ 1))] ∧ (0 ≤ (0 : Int32).toInt ∧ (0 : Int32).toInt ≤ 512) := ⟨hP, hD, hS, lv_sub hl [0, 1, 2, 3, 4] rfl, ⟨by omega, by omega⟩⟩
            exact hJ36 H locs ls (fun i => ([0] : List (Int32)).getD i 0) (fun _ => 0) (fun _ => (fun _ => 0)) (fun _ => (fun _ => 0)) hc
  · skip
    have b_ : -2147483648 ≤ x2.toInt ∧ x2.toInt ≤ 2147483647 := ⟨zlo _, zhi _⟩
    have hc : va_P (dC, dI) vwCl [(h0, .inr (5, mX5 h1)), (h1, .inl (k1, 26, .inl f1)), (h2, .inr (5, mX5 h3)), (h3, .inl (k3, 26, .inl f3))] H ∧ va_D A [(h0, .inr (5, mX5 h1)), (h1, .inl (k1, 26, .inl f1)), (h2, .inr (5, mX5 h3)), (h3, .inl (k3, 26, .inl f3))] ∧ va_S A s.heap H locs ∧ lv_has ls 8 [(0, .ref h0), (1, .ref h2), (2, .int x2), (3, .int r2_), (4, .int 0)] ∧ ((-1) ≤ r2_.toInt ∧ r2_.toInt ≤ 832) ∧ (0 ≤ (0 : Int32).toInt ∧ (0 : Int32).toInt ≤ 832) := ⟨hP, hD, hS, lv_sub hl [2, 3, 4, 1, 0] rfl, ⟨by omega, by omega⟩, ⟨by omega, by omega⟩⟩
    exact hJ9 H locs ls (fun i => ([r2_, 0] : List (Int32)).getD i 0) (fun _ => 0) (fun _ => (fun _ => 0)) (fun _ => (fun _ => 0)) hc
