set_option maxHeartbeats 8000000 in
set_option maxRecDepth 100000 in
theorem sX7_phraseWords_0 (l : Launch) (dC : Nat → ClassId) (dI : Nat → Nat → Nat) (adK adV : Nat → Nat) (h0 : Nat) (h1 : Nat) (h2 : Nat) (h3 : Nat) (h4 : Nat) (h5 : Nat) (h6 : Nat) (h7 : Nat) (sz : Nat) (v0 : Nat → Int32) (hv0 : zR rg_Query v0) : Met l yX7_phraseWords (zw yX7_phraseWords cX7_phraseWords 1 (some .int)) { frames := 0, cells := 0, slots := 0, locals := 0 } (zPc dC dI adK adV [.ref h0] sz [(h0, .inr (7, mX7 h1 h2 h3 h4 h5 h6 h7 v0))] []) (va_Qi (fun (r : Int32) (u : Nat → Int32) => (0 ≤ r.toInt ∧ r.toInt ≤ 160)) (fun (u : Nat → Int32) (t : State) => ∃ (ww : Nat → Int64) (aa : Nat → Nat → Int32) (bb : Nat → Nat → Int64), va_P (dC, dI) vwCl [(h0, .inr (7, mX7 h1 h2 h3 h4 h5 h6 h7 v0))] t.heap ∧ va_K (dC, dI) vwCl [] t ∧ va_D (va_A [(h0, .inr (7, mX7 h1 h2 h3 h4 h5 h6 h7 v0))] sz) [(h0, .inr (7, mX7 h1 h2 h3 h4 h5 h6 h7 v0))]) (va_A [(h0, .inr (7, mX7 h1 h2 h3 h4 h5 h6 h7 v0))] sz)) 0 0 (va_A [(h0, .inr (7, mX7 h1 h2 h3 h4 h5 h6 h7 v0))] sz) := by
  refine Met.ofW (cc := cX7_phraseWords) (maxL := 1) (ret := (some .int)) (by decide) rfl ?_
  intro p e s m args below meth c s₁ B hml hv
  obtain ⟨rfl, hsz, hP, hK, hD0, hE, hZ⟩ := hv
  have hx := B.exec
  have hb := B.bytes
  have hr := B.returns
  have hG : ∀ w ∈ zG, w.before _ s = true := fun w h => atoms_spec (ws := (zw yX7_phraseWords cX7_phraseWords 1 (some .int))) B.pre w (List.mem_cons_of_mem _ h)
  have hown : s.vm.findClass RX7 = some m.cls := findClass_of_methodNamed B.named
  have hlocks := B.notSynchronized

  subst hsz
  have hD := hD0.self (sz := s.heap.size)
  generalize hAe : va_A [(h0, .inr (7, mX7 h1 h2 h3 h4 h5 h6 h7 v0))] s.heap.size = A at hD hZ ⊢
  have hA : ∀ q : Nat, s.heap.size ≤ q → A q := fun q h => by rw [← hAe]; exact Or.inr h
  have hS : va_S A s.heap s.heap [] := va_S.rf
  have hl := lv_entry ([.ref h0]) (n := 1) (Nat.le_of_ble_eq_true rfl)
  rw [lg_entry_eq]
  generalize (lg_sl ([.ref h0]) ++ List.replicate (1 - (lg_sl ([.ref h0])).length) Slot.unset).toArray = ls at hl ⊢
  have hl : lv_has ls 1 [(0, .ref h0)] := hl
  refine lv_aload_n hx hb dX7_phraseWords_0 rfl (lv_at hl 0 rfl) ?_
  have b_ : 0 ≤ (v0 8).toInt ∧ (v0 8).toInt ≤ 160 := hv0 8
  refine va_get (D := (dC, dI)) (ci := 7) (v := .int (v0 8)) (C := RX7) (T := TX7) (N := 12) hx hb hG zuX7 hown hK hP 0 rfl rfl 8 (by decide) (hG _ zv373) (fun _ h9 => h9) rfl dX7_phraseWords_1 ?_
  refine W.widen (k := 0) (n := 0) (by decide) (by decide) ?_
  have hpost : (0 ≤ (v0 8).toInt ∧ (v0 8).toInt ≤ 160) := (by first | with_reducible assumption | exact ⟨by omega, by omega⟩)
  have hP9 : va_P (dC, dI) vwCl [(h0, .inr (7, mX7 h1 h2 h3 h4 h5 h6 h7 v0))] s.heap := hP
  have hD9 : va_D A [(h0, .inr (7, mX7 h1 h2 h3 h4 h5 h6 h7 v0))] := hD
  exact W.iret (v := (v0 8)) hx hb hr (fun t ht hW => ⟨⟨(v0 8), (fun _ => 0), rfl, hpost, (fun _ => 0), (fun _ => (fun _ => 0)), (fun _ => (fun _ => 0)), by rw [ht]; exact hP9, va_K.moved hW.alike hK, hD9⟩, hS.F ht⟩) hS.2.2 dX7_phraseWords_4
set_option maxHeartbeats 8000000 in
set_option maxRecDepth 100000 in
theorem sX7_addStep_0 (l : Launch) (dC : Nat → ClassId) (dI : Nat → Nat → Nat) (adK adV : Nat → Nat) (h0 : Nat) (h7 : Nat) (h1 : Nat) (h2 : Nat) (h3 : Nat) (h4 : Nat) (h5 : Nat) (h6 : Nat) (k7 : ClassId) (sz : Nat) (v0 : Nat → Int32) (f7 : Nat → Int32) (x1 : Int32) (x2 : Int32) (hv0 : zR rg_Query v0) (hf7 : zA 0 12000 f7) (hx1 : 1 ≤ x1.toInt ∧ x1.toInt ≤ 11) (hx2 : (-1) ≤ x2.toInt ∧ x2.toInt ≤ 999) : Met l yX7_addStep (zw yX7_addStep cX7_addStep 3 none) { frames := 0, cells := 0, slots := 0, locals := 0 } (zPc dC dI adK adV [.ref h0, .int x1, .int x2] sz [(h0, .inr (7, mX7 h1 h2 h3 h4 h5 h6 h7 v0)), (h7, zi k7 270 f7)] [(k7, .int)]) (va_Qv (fun (u : Nat → Int32) => (1 ≤ (u 0).toInt ∧ (u 0).toInt ≤ 270)) (fun (u : Nat → Int32) (t : State) => ∃ (ww : Nat → Int64) (aa : Nat → Nat → Int32) (bb : Nat → Nat → Int64), zA 0 12000 (aa 0) ∧ va_P (dC, dI) vwCl [(h0, .inr (7, mX7 h1 h2 h3 h4 h5 h6 h7 (upd v0 9 (u 0)))), (h7, zi k7 270 (aa 0))] t.heap ∧ va_K (dC, dI) vwCl [(k7, .int)] t ∧ va_D (va_A [(h0, .inr (7, mX7 h1 h2 h3 h4 h5 h6 h7 v0)), (h7, zi k7 270 f7)] sz) [(h0, .inr (7, mX7 h1 h2 h3 h4 h5 h6 h7 (upd v0 9 (u 0)))), (h7, zi k7 270 (aa 0))]) (va_A [(h0, .inr (7, mX7 h1 h2 h3 h4 h5 h6 h7 v0)), (h7, zi k7 270 f7)] sz)) 0 0 (va_A [(h0, .inr (7, mX7 h1 h2 h3 h4 h5 h6 h7 v0)), (h7, zi k7 270 f7)] sz) := by
  refine Met.ofW (cc := cX7_addStep) (maxL := 3) (ret := none) (by decide) rfl ?_
  intro p e s m args below meth c s₁ B hml hv
  obtain ⟨rfl, hsz, hP, hK, hD0, hE, hZ⟩ := hv
  have hx := B.exec
  have hb := B.bytes
  have hr := B.returns
  have hG : ∀ w ∈ zG, w.before _ s = true := fun w h => atoms_spec (ws := (zw yX7_addStep cX7_addStep 3 none)) B.pre w (List.mem_cons_of_mem _ h)
  have hown : s.vm.findClass RX7 = some m.cls := findClass_of_methodNamed B.named
  have hlocks := B.notSynchronized

  subst hsz
  have hD := hD0.self (sz := s.heap.size)
  generalize hAe : va_A [(h0, .inr (7, mX7 h1 h2 h3 h4 h5 h6 h7 v0)), (h7, zi k7 270 f7)] s.heap.size = A at hD hZ ⊢
  have hA : ∀ q : Nat, s.heap.size ≤ q → A q := fun q h => by rw [← hAe]; exact Or.inr h
  have hS : va_S A s.heap s.heap [] := va_S.rf
  have hl := lv_entry ([.ref h0, .int x1, .int x2]) (n := 3) (Nat.le_of_ble_eq_true rfl)
  rw [lg_entry_eq]
  generalize (lg_sl ([.ref h0, .int x1, .int x2]) ++ List.replicate (3 - (lg_sl ([.ref h0, .int x1, .int x2])).length) Slot.unset).toArray = ls at hl ⊢
  have hl : lv_has ls 3 [(0, .ref h0), (1, .int x1), (2, .int x2)] := hl
  refine lv_aload_n hx hb dX7_addStep_0 rfl (lv_at hl 0 rfl) ?_
  have b_ : 0 ≤ (v0 9).toInt ∧ (v0 9).toInt ≤ 270 := hv0 9
  refine va_get (D := (dC, dI)) (ci := 7) (v := .int (v0 9)) (C := RX7) (T := TX7) (N := 12) hx hb hG zuX7 hown hK hP 0 rfl rfl 9 (by decide) (hG _ zv374) (fun _ h9 => h9) rfl dX7_addStep_1 ?_
  refine lv_sipush (v := 270) hx hb dX7_addStep_4 (by decide) ?_
  refine lv_icmp_ge (tgt := 36) hx hb dX7_addStep_7 (by decide) (fun c_ => ?_) (fun c_ => ?_)
  · skip
    have b_ := zT_ge rfl zk_270 c_
    refine W.widen (k := 0) (n := 0) (by decide) (by decide) ?_
    have hpost : (1 ≤ (v0 9).toInt ∧ (v0 9).toInt ≤ 270) := (by first | with_reducible assumption | exact ⟨by omega, by omega⟩)
    have hP9 : va_P (dC, dI) vwCl [(h0, .inr (7, mX7 h1 h2 h3 h4 h5 h6 h7 (upd v0 9 (v0 9)))), (h7, zi k7 270 f7)] s.heap := hP
    have hD9 : va_D A [(h0, .inr (7, mX7 h1 h2 h3 h4 h5 h6 h7 (upd v0 9 (v0 9)))), (h7, zi k7 270 f7)] := hD
    exact W.vret hx hb hr (fun t ht hW => ⟨⟨(fun i => ([(v0 9)] : List (Int32)).getD i 0), rfl, hpost, (fun _ => 0), (fun i => ([f7] : List (Nat → Int32)).getD i (fun _ => 0)), (fun _ => (fun _ => 0)), hf7, by rw [ht]; exact hP9, va_K.moved hW.alike hK, hD9⟩, hS.F ht⟩) hS.2.2 dX7_addStep_36
  · skip
    have b_ := zF_ge rfl zk_270 c_
    refine lv_aload_n hx hb dX7_addStep_10 rfl (lv_at hl 0 rfl) ?_
    refine va_get (D := (dC, dI)) (ci := 7) (v := .ref h7) (C := RX7) (T := TX7) (N := 12) hx hb hG zuX7 hown hK hP 0 rfl rfl 6 (by decide) (hG _ zv371) (fun _ h9 => h9) rfl dX7_addStep_11 ?_
    refine lv_aload_n hx hb dX7_addStep_14 rfl (lv_at hl 0 rfl) ?_
    refine va_get (D := (dC, dI)) (ci := 7) (v := .int (v0 9)) (C := RX7) (T := TX7) (N := 12) hx hb hG zuX7 hown hK hP 0 rfl rfl 9 (by decide) (hG _ zv374) (fun _ h9 => h9) rfl dX7_addStep_15 ?_
    refine lv_sipush (v := 1000) hx hb dX7_addStep_18 (by decide) ?_
    refine lv_iload_n hx hb dX7_addStep_21 rfl (lv_at hl 1 rfl) ?_
    refine lv_imul hx hb dX7_addStep_22 ?_
    refine lv_topi (fun z22 e_z22 => ?_)
    have b_ := zmul zk_1000 rfl e_z22 (by omega) (by omega)
    refine lv_iload_n hx hb dX7_addStep_23 rfl (lv_at hl 2 rfl) ?_
    refine lv_iadd hx hb dX7_addStep_24 ?_
    refine lv_topi (fun z24 e_z24 => ?_)
    have b_ := zadd rfl rfl e_z24 (by omega) (by omega)
    refine va_iast hx hb hK hP hD hS 1 0 rfl rfl (zin_lit ⟨by omega, by omega⟩) dX7_addStep_25 (fun H locs hP hD hS => ?_)
    obtain ⟨f_25, e_f_25⟩ : ∃ z : Nat → Int32, z = upd f7 ((v0 9) : Int32).toNatClampNeg z24 := ⟨_, rfl⟩
    have hP : va_P (dC, dI) vwCl [(h0, .inr (7, mX7 h1 h2 h3 h4 h5 h6 h7 v0)), (h7, zi k7 270 f_25)] H := by rw [e_f_25]; exact hP
    have hD : va_D A [(h0, .inr (7, mX7 h1 h2 h3 h4 h5 h6 h7 v0)), (h7, zi k7 270 f_25)] := by rw [e_f_25]; exact hD
    have hf_25 : zA 0 12000 f_25 := by rw [e_f_25]; exact zA_upd hf7 (show 0 ≤ (z24 : Int32).toInt from by omega) (show (z24 : Int32).toInt ≤ 12000 from by omega)
    refine lv_aload_n hx hb dX7_addStep_26 rfl (lv_at hl 0 rfl) ?_
    refine lv_dup hx hb dX7_addStep_27 rfl ?_
    refine va_get (D := (dC, dI)) (ci := 7) (v := .int (v0 9)) (C := RX7) (T := TX7) (N := 12) hx hb hG zuX7 hown hK hP 0 rfl rfl 9 (by decide) (hG _ zv374) (fun _ h9 => h9) rfl dX7_addStep_28 ?_
    refine lv_iconst (v := 1) hx hb dX7_addStep_31 (by decide) ?_
    refine lv_iadd hx hb dX7_addStep_32 ?_
    refine lv_topi (fun z32 e_z32 => ?_)
    have b_ := zadd rfl zk_1 e_z32 (by omega) (by omega)
    refine va_put (D := (dC, dI)) (ci := 7) (v := .int z32) (ty := .int) (C := RX7) (T := TX7) (N := 12) hx hb hG zuX7 tyX7 tyX7_ok nmX7 hown hK hP hD hS 0 rfl rfl 9 (by decide) (hG _ zv374) (fun _ h9 => h9) rfl (by decide +kernel) rfl rfl (Nat.le_of_ble_eq_true rfl) dX7_addStep_33 (fun H locs hP hD hS => ?_)
    have hP : va_P (dC, dI) vwCl [(h0, .inr (7, mX7 h1 h2 h3 h4 h5 h6 h7 (upd v0 9 z32))), (h7, zi k7 270 f_25)] H := hP
    have hD : va_D A [(h0, .inr (7, mX7 h1 h2 h3 h4 h5 h6 h7 (upd v0 9 z32))), (h7, zi k7 270 f_25)] := hD
    refine W.widen (k := 0) (n := 0) (by decide) (by decide) ?_
    have hpost : (1 ≤ z32.toInt ∧ z32.toInt ≤ 270) := (by first | with_reducible assumption | exact ⟨by omega, by omega⟩)
    have hP9 : va_P (dC, dI) vwCl [(h0, .inr (7, mX7 h1 h2 h3 h4 h5 h6 h7 (upd v0 9 z32))), (h7, zi k7 270 f_25)] H := hP
    have hD9 : va_D A [(h0, .inr (7, mX7 h1 h2 h3 h4 h5 h6 h7 (upd v0 9 z32))), (h7, zi k7 270 f_25)] := hD
    exact W.vret hx hb hr (fun t ht hW => ⟨⟨(fun i => ([z32] : List (Int32)).getD i 0), rfl, hpost, (fun _ => 0), (fun i => ([f_25] : List (Nat → Int32)).getD i (fun _ => 0)), (fun _ => (fun _ => 0)), hf_25, by rw [ht]; exact hP9, va_K.moved hW.alike hK, hD9⟩, hS.F ht⟩) hS.2.2 dX7_addStep_36
set_option maxHeartbeats 8000000 in
set_option maxRecDepth 100000 in
theorem sX7_addLeaf_0 (l : Launch) (dC : Nat → ClassId) (dI : Nat → Nat → Nat) (adK adV : Nat → Nat) (h0 : Nat) (h1 : Nat) (h2 : Nat) (h3 : Nat) (h4 : Nat) (h5 : Nat) (h7 : Nat) (h6 : Nat) (k1 : ClassId) (k2 : ClassId) (k3 : ClassId) (k4 : ClassId) (k5 : ClassId) (k7 : ClassId) (sz : Nat) (v0 : Nat → Int32) (f1 : Nat → Int32) (f2 : Nat → Int32) (f3 : Nat → Int32) (f4 : Nat → Int32) (f5 : Nat → Int32) (f7 : Nat → Int32) (x1 : Int32) (x2 : Int32) (x3 : Int32) (x4 : Int32) (x5 : Int32) (hv0 : zR rg_Query v0) (hf7 : zA 0 12000 f7) (hx1 : 1 ≤ x1.toInt ∧ x1.toInt ≤ 4) (hx5 : 0 ≤ x5.toInt ∧ x5.toInt ≤ 1) : Met l yX7_addLeaf (zw yX7_addLeaf cX7_addLeaf 6 none) { frames := 1, cells := 0, slots := 0, locals := 40 } (zPc dC dI adK adV [.ref h0, .int x1, .int x2, .int x3, .int x4, .int x5] sz [(h0, .inr (7, mX7 h1 h2 h3 h4 h5 h6 h7 v0)), (h1, zi k1 40 f1), (h2, zi k2 40 f2), (h3, zi k3 40 f3), (h4, zi k4 40 f4), (h5, zi k5 40 f5), (h7, zi k7 270 f7)] [(k1, .int), (k2, .int), (k3, .int), (k4, .int), (k5, .boolean), (k7, .int)]) (va_Qv (fun (u : Nat → Int32) => (1 ≤ (u 0).toInt ∧ (u 0).toInt ≤ 40) ∧ (0 ≤ (u 1).toInt ∧ (u 1).toInt ≤ 270)) (fun (u : Nat → Int32) (t : State) => ∃ (ww : Nat → Int64) (aa : Nat → Nat → Int32) (bb : Nat → Nat → Int64), zA 0 12000 (aa 5) ∧ va_P (dC, dI) vwCl [(h0, .inr (7, mX7 h1 h2 h3 h4 h5 h6 h7 (upd (upd (upd (upd v0 7 (u 0)) 9 (u 1)) 10 (u 2)) 11 (u 3)))), (h1, zi k1 40 (aa 0)), (h2, zi k2 40 (aa 1)), (h3, zi k3 40 (aa 2)), (h4, zi k4 40 (aa 3)), (h5, zi k5 40 (aa 4)), (h7, zi k7 270 (aa 5))] t.heap ∧ va_K (dC, dI) vwCl [(k1, .int), (k2, .int), (k3, .int), (k4, .int), (k5, .boolean), (k7, .int)] t ∧ va_D (va_A [(h0, .inr (7, mX7 h1 h2 h3 h4 h5 h6 h7 v0)), (h1, zi k1 40 f1), (h2, zi k2 40 f2), (h3, zi k3 40 f3), (h4, zi k4 40 f4), (h5, zi k5 40 f5), (h7, zi k7 270 f7)] sz) [(h0, .inr (7, mX7 h1 h2 h3 h4 h5 h6 h7 (upd (upd (upd (upd v0 7 (u 0)) 9 (u 1)) 10 (u 2)) 11 (u 3)))), (h1, zi k1 40 (aa 0)), (h2, zi k2 40 (aa 1)), (h3, zi k3 40 (aa 2)), (h4, zi k4 40 (aa 3)), (h5, zi k5 40 (aa 4)), (h7, zi k7 270 (aa 5))]) (va_A [(h0, .inr (7, mX7 h1 h2 h3 h4 h5 h6 h7 v0)), (h1, zi k1 40 f1), (h2, zi k2 40 f2), (h3, zi k3 40 f3), (h4, zi k4 40 f4), (h5, zi k5 40 f5), (h7, zi k7 270 f7)] sz)) 0 0 (va_A [(h0, .inr (7, mX7 h1 h2 h3 h4 h5 h6 h7 v0)), (h1, zi k1 40 f1), (h2, zi k2 40 f2), (h3, zi k3 40 f3), (h4, zi k4 40 f4), (h5, zi k5 40 f5), (h7, zi k7 270 f7)] sz) := by
  refine Met.ofW (cc := cX7_addLeaf) (maxL := 6) (ret := none) (by decide) rfl ?_
  intro p e s m args below meth c s₁ B hml hv
  obtain ⟨rfl, hsz, hP, hK, hD0, hE, hZ⟩ := hv
  have hx := B.exec
  have hb := B.bytes
  have hr := B.returns
  have hG : ∀ w ∈ zG, w.before _ s = true := fun w h => atoms_spec (ws := (zw yX7_addLeaf cX7_addLeaf 6 none)) B.pre w (List.mem_cons_of_mem _ h)
  have hown : s.vm.findClass RX7 = some m.cls := findClass_of_methodNamed B.named
  have hlocks := B.notSynchronized

  subst hsz
  have hD := hD0.self (sz := s.heap.size)
  generalize hAe : va_A [(h0, .inr (7, mX7 h1 h2 h3 h4 h5 h6 h7 v0)), (h1, zi k1 40 f1), (h2, zi k2 40 f2), (h3, zi k3 40 f3), (h4, zi k4 40 f4), (h5, zi k5 40 f5), (h7, zi k7 270 f7)] s.heap.size = A at hD hZ ⊢
  have hA : ∀ q : Nat, s.heap.size ≤ q → A q := fun q h => by rw [← hAe]; exact Or.inr h
  have hS : va_S A s.heap s.heap [] := va_S.rf
  have hl := lv_entry ([.ref h0, .int x1, .int x2, .int x3, .int x4, .int x5]) (n := 6) (Nat.le_of_ble_eq_true rfl)
  rw [lg_entry_eq]
  generalize (lg_sl ([.ref h0, .int x1, .int x2, .int x3, .int x4, .int x5]) ++ List.replicate (6 - (lg_sl ([.ref h0, .int x1, .int x2, .int x3, .int x4, .int x5])).length) Slot.unset).toArray = ls at hl ⊢
  have hl : lv_has ls 6 [(0, .ref h0), (1, .int x1), (2, .int x2), (3, .int x3), (4, .int x4), (5, .int x5)] := hl
  refine lv_aload_n hx hb dX7_addLeaf_0 rfl (lv_at hl 0 rfl) ?_
  have b_ : 0 ≤ (v0 7).toInt ∧ (v0 7).toInt ≤ 40 := hv0 7
  refine va_get (D := (dC, dI)) (ci := 7) (v := .int (v0 7)) (C := RX7) (T := TX7) (N := 12) hx hb hG zuX7 hown hK hP 0 rfl rfl 7 (by decide) (hG _ zv372) (fun _ h9 => h9) rfl dX7_addLeaf_1 ?_
  refine lv_bipush (v := 40) hx hb dX7_addLeaf_4 (by decide) ?_
  refine lv_icmp_ge (tgt := 105) hx hb dX7_addLeaf_6 (by decide) (fun c_ => ?_) (fun c_ => ?_)
  · skip
    have b_ := zT_ge rfl zk_40 c_
    refine W.widen (k := 0) (n := 0) (by decide) (by decide) ?_
    have b_ : 0 ≤ (v0 9).toInt ∧ (v0 9).toInt ≤ 270 := hv0 9
    have b_ : -2147483648 ≤ (v0 10).toInt ∧ (v0 10).toInt ≤ 2147483647 := ⟨zlo _, zhi _⟩
    have b_ : -2147483648 ≤ (v0 11).toInt ∧ (v0 11).toInt ≤ 2147483647 := ⟨zlo _, zhi _⟩
    have hpost : (1 ≤ (v0 7).toInt ∧ (v0 7).toInt ≤ 40) ∧ (0 ≤ (v0 9).toInt ∧ (v0 9).toInt ≤ 270) := ⟨(by first | with_reducible assumption | exact ⟨by omega, by omega⟩), (by first | with_reducible assumption | exact ⟨by omega, by omega⟩)⟩
    have hP9 : va_P (dC, dI) vwCl [(h0, .inr (7, mX7 h1 h2 h3 h4 h5 h6 h7 (upd (upd (upd (upd v0 7 (v0 7)) 9 (v0 9)) 10 (v0 10)) 11 (v0 11)))), (h1, zi k1 40 f1), (h2, zi k2 40 f2), (h3, zi k3 40 f3), (h4, zi k4 40 f4), (h5, zi k5 40 f5), (h7, zi k7 270 f7)] s.heap := hP
    have hD9 : va_D A [(h0, .inr (7, mX7 h1 h2 h3 h4 h5 h6 h7 (upd (upd (upd (upd v0 7 (v0 7)) 9 (v0 9)) 10 (v0 10)) 11 (v0 11)))), (h1, zi k1 40 f1), (h2, zi k2 40 f2), (h3, zi k3 40 f3), (h4, zi k4 40 f4), (h5, zi k5 40 f5), (h7, zi k7 270 f7)] := hD
    exact W.vret hx hb hr (fun t ht hW => ⟨⟨(fun i => ([(v0 7), (v0 9), (v0 10), (v0 11)] : List (Int32)).getD i 0), rfl, hpost, (fun _ => 0), (fun i => ([f1, f2, f3, f4, f5, f7] : List (Nat → Int32)).getD i (fun _ => 0)), (fun _ => (fun _ => 0)), hf7, by rw [ht]; exact hP9, va_K.moved hW.alike hK, hD9⟩, hS.F ht⟩) hS.2.2 dX7_addLeaf_105
  · skip
    have b_ := zF_ge rfl zk_40 c_
    refine lv_aload_n hx hb dX7_addLeaf_9 rfl (lv_at hl 0 rfl) ?_
    refine va_get (D := (dC, dI)) (ci := 7) (v := .ref h1) (C := RX7) (T := TX7) (N := 12) hx hb hG zuX7 hown hK hP 0 rfl rfl 0 (by decide) (hG _ zv365) (fun _ h9 => h9) rfl dX7_addLeaf_10 ?_
    refine lv_aload_n hx hb dX7_addLeaf_13 rfl (lv_at hl 0 rfl) ?_
    refine va_get (D := (dC, dI)) (ci := 7) (v := .int (v0 7)) (C := RX7) (T := TX7) (N := 12) hx hb hG zuX7 hown hK hP 0 rfl rfl 7 (by decide) (hG _ zv372) (fun _ h9 => h9) rfl dX7_addLeaf_14 ?_
    refine lv_iload_n hx hb dX7_addLeaf_17 rfl (lv_at hl 1 rfl) ?_
    refine va_iast hx hb hK hP hD hS 1 0 rfl rfl (zin_lit ⟨by omega, by omega⟩) dX7_addLeaf_18 (fun H locs hP hD hS => ?_)
    obtain ⟨f_18, e_f_18⟩ : ∃ z : Nat → Int32, z = upd f1 ((v0 7) : Int32).toNatClampNeg x1 := ⟨_, rfl⟩
    have hP : va_P (dC, dI) vwCl [(h0, .inr (7, mX7 h1 h2 h3 h4 h5 h6 h7 v0)), (h1, zi k1 40 f_18), (h2, zi k2 40 f2), (h3, zi k3 40 f3), (h4, zi k4 40 f4), (h5, zi k5 40 f5), (h7, zi k7 270 f7)] H := by rw [e_f_18]; exact hP
    have hD : va_D A [(h0, .inr (7, mX7 h1 h2 h3 h4 h5 h6 h7 v0)), (h1, zi k1 40 f_18), (h2, zi k2 40 f2), (h3, zi k3 40 f3), (h4, zi k4 40 f4), (h5, zi k5 40 f5), (h7, zi k7 270 f7)] := by rw [e_f_18]; exact hD
    refine lv_aload_n hx hb dX7_addLeaf_19 rfl (lv_at hl 0 rfl) ?_
    refine va_get (D := (dC, dI)) (ci := 7) (v := .ref h2) (C := RX7) (T := TX7) (N := 12) hx hb hG zuX7 hown hK hP 0 rfl rfl 1 (by decide) (hG _ zv366) (fun _ h9 => h9) rfl dX7_addLeaf_20 ?_
    refine lv_aload_n hx hb dX7_addLeaf_23 rfl (lv_at hl 0 rfl) ?_
    refine va_get (D := (dC, dI)) (ci := 7) (v := .int (v0 7)) (C := RX7) (T := TX7) (N := 12) hx hb hG zuX7 hown hK hP 0 rfl rfl 7 (by decide) (hG _ zv372) (fun _ h9 => h9) rfl dX7_addLeaf_24 ?_
    refine lv_iload_n hx hb dX7_addLeaf_27 rfl (lv_at hl 2 rfl) ?_
    refine va_iast hx hb hK hP hD hS 2 1 rfl rfl (zin_lit ⟨by omega, by omega⟩) dX7_addLeaf_28 (fun H locs hP hD hS => ?_)
    obtain ⟨f_28, e_f_28⟩ : ∃ z : Nat → Int32, z = upd f2 ((v0 7) : Int32).toNatClampNeg x2 := ⟨_, rfl⟩
    have hP : va_P (dC, dI) vwCl [(h0, .inr (7, mX7 h1 h2 h3 h4 h5 h6 h7 v0)), (h1, zi k1 40 f_18), (h2, zi k2 40 f_28), (h3, zi k3 40 f3), (h4, zi k4 40 f4), (h5, zi k5 40 f5), (h7, zi k7 270 f7)] H := by rw [e_f_28]; exact hP
    have hD : va_D A [(h0, .inr (7, mX7 h1 h2 h3 h4 h5 h6 h7 v0)), (h1, zi k1 40 f_18), (h2, zi k2 40 f_28), (h3, zi k3 40 f3), (h4, zi k4 40 f4), (h5, zi k5 40 f5), (h7, zi k7 270 f7)] := by rw [e_f_28]; exact hD
    refine lv_aload_n hx hb dX7_addLeaf_29 rfl (lv_at hl 0 rfl) ?_
    refine va_get (D := (dC, dI)) (ci := 7) (v := .ref h3) (C := RX7) (T := TX7) (N := 12) hx hb hG zuX7 hown hK hP 0 rfl rfl 2 (by decide) (hG _ zv367) (fun _ h9 => h9) rfl dX7_addLeaf_30 ?_
    refine lv_aload_n hx hb dX7_addLeaf_33 rfl (lv_at hl 0 rfl) ?_
    refine va_get (D := (dC, dI)) (ci := 7) (v := .int (v0 7)) (C := RX7) (T := TX7) (N := 12) hx hb hG zuX7 hown hK hP 0 rfl rfl 7 (by decide) (hG _ zv372) (fun _ h9 => h9) rfl dX7_addLeaf_34 ?_
    refine lv_iload_n hx hb dX7_addLeaf_37 rfl (lv_at hl 3 rfl) ?_
    refine va_iast hx hb hK hP hD hS 3 2 rfl rfl (zin_lit ⟨by omega, by omega⟩) dX7_addLeaf_38 (fun H locs hP hD hS => ?_)
    obtain ⟨f_38, e_f_38⟩ : ∃ z : Nat → Int32, z = upd f3 ((v0 7) : Int32).toNatClampNeg x3 := ⟨_, rfl⟩
    have hP : va_P (dC, dI) vwCl [(h0, .inr (7, mX7 h1 h2 h3 h4 h5 h6 h7 v0)), (h1, zi k1 40 f_18), (h2, zi k2 40 f_28), (h3, zi k3 40 f_38), (h4, zi k4 40 f4), (h5, zi k5 40 f5), (h7, zi k7 270 f7)] H := by rw [e_f_38]; exact hP
    have hD : va_D A [(h0, .inr (7, mX7 h1 h2 h3 h4 h5 h6 h7 v0)), (h1, zi k1 40 f_18), (h2, zi k2 40 f_28), (h3, zi k3 40 f_38), (h4, zi k4 40 f4), (h5, zi k5 40 f5), (h7, zi k7 270 f7)] := by rw [e_f_38]; exact hD
    refine lv_aload_n hx hb dX7_addLeaf_39 rfl (lv_at hl 0 rfl) ?_
    refine va_get (D := (dC, dI)) (ci := 7) (v := .ref h4) (C := RX7) (T := TX7) (N := 12) hx hb hG zuX7 hown hK hP 0 rfl rfl 3 (by decide) (hG _ zv368) (fun _ h9 => h9) rfl dX7_addLeaf_40 ?_
    refine lv_aload_n hx hb dX7_addLeaf_43 rfl (lv_at hl 0 rfl) ?_
    refine va_get (D := (dC, dI)) (ci := 7) (v := .int (v0 7)) (C := RX7) (T := TX7) (N := 12) hx hb hG zuX7 hown hK hP 0 rfl rfl 7 (by decide) (hG _ zv372) (fun _ h9 => h9) rfl dX7_addLeaf_44 ?_
    refine lv_iload hx hb dX7_addLeaf_47 (lv_at hl 4 rfl) ?_
    refine va_iast hx hb hK hP hD hS 4 3 rfl rfl (zin_lit ⟨by omega, by omega⟩) dX7_addLeaf_49 (fun H locs hP hD hS => ?_)
    obtain ⟨f_49, e_f_49⟩ : ∃ z : Nat → Int32, z = upd f4 ((v0 7) : Int32).toNatClampNeg x4 := ⟨_, rfl⟩
    have hP : va_P (dC, dI) vwCl [(h0, .inr (7, mX7 h1 h2 h3 h4 h5 h6 h7 v0)), (h1, zi k1 40 f_18), (h2, zi k2 40 f_28), (h3, zi k3 40 f_38), (h4, zi k4 40 f_49), (h5, zi k5 40 f5), (h7, zi k7 270 f7)] H := by rw [e_f_49]; exact hP
    have hD : va_D A [(h0, .inr (7, mX7 h1 h2 h3 h4 h5 h6 h7 v0)), (h1, zi k1 40 f_18), (h2, zi k2 40 f_28), (h3, zi k3 40 f_38), (h4, zi k4 40 f_49), (h5, zi k5 40 f5), (h7, zi k7 270 f7)] := by rw [e_f_49]; exact hD
    refine lv_aload_n hx hb dX7_addLeaf_50 rfl (lv_at hl 0 rfl) ?_
    refine va_get (D := (dC, dI)) (ci := 7) (v := .ref h5) (C := RX7) (T := TX7) (N := 12) hx hb hG zuX7 hown hK hP 0 rfl rfl 4 (by decide) (hG _ zv369) (fun _ h9 => h9) rfl dX7_addLeaf_51 ?_
    refine lv_aload_n hx hb dX7_addLeaf_54 rfl (lv_at hl 0 rfl) ?_
    refine va_get (D := (dC, dI)) (ci := 7) (v := .int (v0 7)) (C := RX7) (T := TX7) (N := 12) hx hb hG zuX7 hown hK hP 0 rfl rfl 7 (by decide) (hG _ zv372) (fun _ h9 => h9) rfl dX7_addLeaf_55 ?_
    refine lv_iload hx hb dX7_addLeaf_58 (lv_at hl 5 rfl) ?_
    refine va_zast hx hb hK hP hD hS 5 4 rfl rfl (zin_lit ⟨by omega, by omega⟩) dX7_addLeaf_60 (fun H locs hP hD hS => ?_)
    obtain ⟨f_60, e_f_60⟩ : ∃ z : Nat → Int32, z = upd f5 ((v0 7) : Int32).toNatClampNeg (vp_nar .boolean x5) := ⟨_, rfl⟩
    have hP : va_P (dC, dI) vwCl [(h0, .inr (7, mX7 h1 h2 h3 h4 h5 h6 h7 v0)), (h1, zi k1 40 f_18), (h2, zi k2 40 f_28), (h3, zi k3 40 f_38), (h4, zi k4 40 f_49), (h5, zi k5 40 f_60), (h7, zi k7 270 f7)] H := by rw [e_f_60]; exact hP
    have hD : va_D A [(h0, .inr (7, mX7 h1 h2 h3 h4 h5 h6 h7 v0)), (h1, zi k1 40 f_18), (h2, zi k2 40 f_28), (h3, zi k3 40 f_38), (h4, zi k4 40 f_49), (h5, zi k5 40 f_60), (h7, zi k7 270 f7)] := by rw [e_f_60]; exact hD
    refine lv_aload_n hx hb dX7_addLeaf_61 rfl (lv_at hl 0 rfl) ?_
    refine lv_iload_n hx hb dX7_addLeaf_62 rfl (lv_at hl 1 rfl) ?_
    refine lv_aload_n hx hb dX7_addLeaf_63 rfl (lv_at hl 0 rfl) ?_
    refine va_get (D := (dC, dI)) (ci := 7) (v := .int (v0 7)) (C := RX7) (T := TX7) (N := 12) hx hb hG zuX7 hown hK hP 0 rfl rfl 7 (by decide) (hG _ zv372) (fun _ h9 => h9) rfl dX7_addLeaf_64 ?_
    have hPc := hP.sub (ws' := [(h0, .inr (7, mX7 h1 h2 h3 h4 h5 h6 h7 v0)), (h7, zi k7 270 f7)]) [0, 6] rfl
    have hDc := hD.sub (ws' := [(h0, .inr (7, mX7 h1 h2 h3 h4 h5 h6 h7 v0)), (h7, zi k7 270 f7)]) [0, 6] (by decide) rfl
    have hKc := hK.sub (tys' := [(k7, .int)]) [5] rfl
    have hFc := va_free (wc := [(h0, .inr (7, mX7 h1 h2 h3 h4 h5 h6 h7 v0)), (h7, zi k7 270 f7)]) hD hS hA [0, 6] rfl
    refine va_callv (va_runV (As := [.int x1, .int (v0 7)]) (rest := []) ⟨hx, hb, hml, hown, hG⟩ (sX7_addStep_0 l dC dI adK adV h0 h7 h1 h2 h3 h4 h5 h6 k7 H.size v0 f7 x1 (v0 7) hv0 hf7 (show (1 : Int) ≤ (x1 : Int32).toInt ∧ (x1 : Int32).toInt ≤ (11 : Int) from (by first | with_reducible assumption | exact ⟨by omega, by omega⟩)) (show ((-1) : Int) ≤ ((v0 7) : Int32).toInt ∧ ((v0 7) : Int32).toInt ≤ (999 : Int) from (by first | with_reducible assumption | exact ⟨by omega, by omega⟩))) (cwV 2 hG (zgV zv1112 zv1113 zv1114 zv136 zv1115) rfl rfl rfl (by decide +kernel) ⟨Nat.le_of_ble_eq_true rfl, Nat.le_of_ble_eq_true rfl⟩) ⟨zPc_blind, va_recv hKc hPc (ci := 7) (q0 := 0) rfl rfl, zPc_pre hPc hKc hDc hE hS hFc hZ⟩ rfl rfl hl.1 rfl (lv_room (Nat.le_of_ble_eq_true rfl)) dX7_addLeaf_67 ⟨Nat.le_of_ble_eq_true rfl, Nat.le_of_ble_eq_true rfl⟩) hS (fun q _ h => hFc q h) hFc (fun u67_ t H1 locs ht hvm hw hB hz1 hk1 hS => ?_)
    replace hw : (1 ≤ (u67_ 0).toInt ∧ (u67_ 0).toInt ≤ 270) := hw
    have b_ := hw
    obtain ⟨w67_, a67_, b67_, ha67_0, hP1, hK1, hD1⟩ := hB
    rw [ht] at hP1
    obtain ⟨hP, hD⟩ := va_join (wr := [(h1, zi k1 40 f_18), (h2, zi k2 40 f_28), (h3, zi k3 40 f_38), (h4, zi k4 40 f_49), (h5, zi k5 40 f_60)]) (w1 := [(h0, .inr (7, mX7 h1 h2 h3 h4 h5 h6 h7 (upd v0 9 (u67_ 0)))), (h7, zi k7 270 (a67_ 0))]) hP hD [0, 6] [1, 2, 3, 4, 5] rfl rfl (by decide) (by decide) hk1 hFc hP1 hD1
    have hP : va_P (dC, dI) vwCl [(h0, .inr (7, mX7 h1 h2 h3 h4 h5 h6 h7 (upd v0 9 (u67_ 0)))), (h1, zi k1 40 f_18), (h2, zi k2 40 f_28), (h3, zi k3 40 f_38), (h4, zi k4 40 f_49), (h5, zi k5 40 f_60), (h7, zi k7 270 (a67_ 0))] H1 := hP.sub [5, 0, 1, 2, 3, 4, 6] rfl
    have hD : va_D A [(h0, .inr (7, mX7 h1 h2 h3 h4 h5 h6 h7 (upd v0 9 (u67_ 0)))), (h1, zi k1 40 f_18), (h2, zi k2 40 f_28), (h3, zi k3 40 f_38), (h4, zi k4 40 f_49), (h5, zi k5 40 f_60), (h7, zi k7 270 (a67_ 0))] := hD.sub [5, 0, 1, 2, 3, 4, 6] (by decide) rfl
    generalize H1 = H at hP hS ⊢
    clear hz1
    refine lv_aload_n hx hb dX7_addLeaf_70 rfl (lv_at hl 0 rfl) ?_
    refine lv_dup hx hb dX7_addLeaf_71 rfl ?_
    refine va_get (D := (dC, dI)) (ci := 7) (v := .int (v0 7)) (C := RX7) (T := TX7) (N := 12) hx hb hG zuX7 hown hK hP 0 rfl rfl 7 (by decide) (hG _ zv372) (fun _ h9 => h9) rfl dX7_addLeaf_72 ?_
    refine lv_iconst (v := 1) hx hb dX7_addLeaf_75 (by decide) ?_
    refine lv_iadd hx hb dX7_addLeaf_76 ?_
    refine lv_topi (fun z76 e_z76 => ?_)
    have b_ := zadd rfl zk_1 e_z76 (by omega) (by omega)
    refine va_put (D := (dC, dI)) (ci := 7) (v := .int z76) (ty := .int) (C := RX7) (T := TX7) (N := 12) hx hb hG zuX7 tyX7 tyX7_ok nmX7 hown hK hP hD hS 0 rfl rfl 7 (by decide) (hG _ zv372) (fun _ h9 => h9) rfl (by decide +kernel) rfl rfl (Nat.le_of_ble_eq_true rfl) dX7_addLeaf_77 (fun H locs hP hD hS => ?_)
    have hP : va_P (dC, dI) vwCl [(h0, .inr (7, mX7 h1 h2 h3 h4 h5 h6 h7 (upd (upd v0 7 z76) 9 (u67_ 0)))), (h1, zi k1 40 f_18), (h2, zi k2 40 f_28), (h3, zi k3 40 f_38), (h4, zi k4 40 f_49), (h5, zi k5 40 f_60), (h7, zi k7 270 (a67_ 0))] H := hP
    have hD : va_D A [(h0, .inr (7, mX7 h1 h2 h3 h4 h5 h6 h7 (upd (upd v0 7 z76) 9 (u67_ 0)))), (h1, zi k1 40 f_18), (h2, zi k2 40 f_28), (h3, zi k3 40 f_38), (h4, zi k4 40 f_49), (h5, zi k5 40 f_60), (h7, zi k7 270 (a67_ 0))] := hD
    refine lv_aload_n hx hb dX7_addLeaf_80 rfl (lv_at hl 0 rfl) ?_
    refine lv_dup hx hb dX7_addLeaf_81 rfl ?_
    refine va_get (D := (dC, dI)) (ci := 7) (v := .int (v0 10)) (C := RX7) (T := TX7) (N := 12) hx hb hG zuX7 hown hK hP 0 rfl rfl 10 (by decide) (hG _ zv375) (fun _ h9 => h9) rfl dX7_addLeaf_82 ?_
    refine lv_iconst (v := 1) hx hb dX7_addLeaf_85 (by decide) ?_
    have b_ : -2147483648 ≤ (v0 10).toInt ∧ (v0 10).toInt ≤ 2147483647 := ⟨zlo _, zhi _⟩
    refine lv_iadd hx hb dX7_addLeaf_86 ?_
    refine lv_topi (fun z86 e_z86 => ?_)
    refine va_put (D := (dC, dI)) (ci := 7) (v := .int z86) (ty := .int) (C := RX7) (T := TX7) (N := 12) hx hb hG zuX7 tyX7 tyX7_ok nmX7 hown hK hP hD hS 0 rfl rfl 10 (by decide) (hG _ zv375) (fun _ h9 => h9) rfl (by decide +kernel) rfl rfl (Nat.le_of_ble_eq_true rfl) dX7_addLeaf_87 (fun H locs hP hD hS => ?_)
    have hP : va_P (dC, dI) vwCl [(h0, .inr (7, mX7 h1 h2 h3 h4 h5 h6 h7 (upd (upd (upd v0 7 z76) 9 (u67_ 0)) 10 z86))), (h1, zi k1 40 f_18), (h2, zi k2 40 f_28), (h3, zi k3 40 f_38), (h4, zi k4 40 f_49), (h5, zi k5 40 f_60), (h7, zi k7 270 (a67_ 0))] H := hP
    have hD : va_D A [(h0, .inr (7, mX7 h1 h2 h3 h4 h5 h6 h7 (upd (upd (upd v0 7 z76) 9 (u67_ 0)) 10 z86))), (h1, zi k1 40 f_18), (h2, zi k2 40 f_28), (h3, zi k3 40 f_38), (h4, zi k4 40 f_49), (h5, zi k5 40 f_60), (h7, zi k7 270 (a67_ 0))] := hD
    refine lv_aload_n hx hb dX7_addLeaf_90 rfl (lv_at hl 0 rfl) ?_
    refine lv_aload_n hx hb dX7_addLeaf_91 rfl (lv_at hl 0 rfl) ?_
    refine va_get (D := (dC, dI)) (ci := 7) (v := .int (v0 11)) (C := RX7) (T := TX7) (N := 12) hx hb hG zuX7 hown hK hP 0 rfl rfl 11 (by decide) (hG _ zv376) (fun _ h9 => h9) rfl dX7_addLeaf_92 ?_
    refine lv_aload_n hx hb dX7_addLeaf_95 rfl (lv_at hl 0 rfl) ?_
    refine va_get (D := (dC, dI)) (ci := 7) (v := .int z86) (C := RX7) (T := TX7) (N := 12) hx hb hG zuX7 hown hK hP 0 rfl rfl 10 (by decide) (hG _ zv375) (fun _ h9 => h9) rfl dX7_addLeaf_96 ?_
    have b_ : -2147483648 ≤ (v0 11).toInt ∧ (v0 11).toInt ≤ 2147483647 := ⟨zlo _, zhi _⟩
    have b_ : -2147483648 ≤ z86.toInt ∧ z86.toInt ≤ 2147483647 := ⟨zlo _, zhi _⟩
    refine va_mmax hx hb (by rw [hml]; exact hl.1.symm) hown (hG _ zv1116) (hG _ zv1030) (hG _ zv152) (hG _ zv1031) (Nat.le_of_ble_eq_true rfl) (Nat.le_of_ble_eq_true rfl) (Nat.le_of_ble_eq_true rfl) (Nat.le_of_ble_eq_true rfl) dX7_addLeaf_99 ?_
    refine lv_topi (fun z99 e_z99 => ?_)
    have b_ := zmax rfl rfl e_z99
    refine va_put (D := (dC, dI)) (ci := 7) (v := .int z99) (ty := .int) (C := RX7) (T := TX7) (N := 12) hx hb hG zuX7 tyX7 tyX7_ok nmX7 hown hK hP hD hS 0 rfl rfl 11 (by decide) (hG _ zv376) (fun _ h9 => h9) rfl (by decide +kernel) rfl rfl (Nat.le_of_ble_eq_true rfl) dX7_addLeaf_102 (fun H locs hP hD hS => ?_)
    have hP : va_P (dC, dI) vwCl [(h0, .inr (7, mX7 h1 h2 h3 h4 h5 h6 h7 (upd (upd (upd (upd v0 7 z76) 9 (u67_ 0)) 10 z86) 11 z99))), (h1, zi k1 40 f_18), (h2, zi k2 40 f_28), (h3, zi k3 40 f_38), (h4, zi k4 40 f_49), (h5, zi k5 40 f_60), (h7, zi k7 270 (a67_ 0))] H := hP
    have hD : va_D A [(h0, .inr (7, mX7 h1 h2 h3 h4 h5 h6 h7 (upd (upd (upd (upd v0 7 z76) 9 (u67_ 0)) 10 z86) 11 z99))), (h1, zi k1 40 f_18), (h2, zi k2 40 f_28), (h3, zi k3 40 f_38), (h4, zi k4 40 f_49), (h5, zi k5 40 f_60), (h7, zi k7 270 (a67_ 0))] := hD
    refine W.widen (k := 0) (n := 0) (by decide) (by decide) ?_
    have hpost : (1 ≤ z76.toInt ∧ z76.toInt ≤ 40) ∧ (0 ≤ (u67_ 0).toInt ∧ (u67_ 0).toInt ≤ 270) := ⟨(by first | with_reducible assumption | exact ⟨by omega, by omega⟩), (by first | with_reducible assumption | exact ⟨by omega, by omega⟩)⟩
    have hP9 : va_P (dC, dI) vwCl [(h0, .inr (7, mX7 h1 h2 h3 h4 h5 h6 h7 (upd (upd (upd (upd v0 7 z76) 9 (u67_ 0)) 10 z86) 11 z99))), (h1, zi k1 40 f_18), (h2, zi k2 40 f_28), (h3, zi k3 40 f_38), (h4, zi k4 40 f_49), (h5, zi k5 40 f_60), (h7, zi k7 270 (a67_ 0))] H := hP
    have hD9 : va_D A [(h0, .inr (7, mX7 h1 h2 h3 h4 h5 h6 h7 (upd (upd (upd (upd v0 7 z76) 9 (u67_ 0)) 10 z86) 11 z99))), (h1, zi k1 40 f_18), (h2, zi k2 40 f_28), (h3, zi k3 40 f_38), (h4, zi k4 40 f_49), (h5, zi k5 40 f_60), (h7, zi k7 270 (a67_ 0))] := hD
    exact W.vret hx hb hr (fun t ht hW => ⟨⟨(fun i => ([z76, (u67_ 0), z86, z99] : List (Int32)).getD i 0), rfl, hpost, (fun _ => 0), (fun i => ([f_18, f_28, f_38, f_49, f_60, (a67_ 0)] : List (Nat → Int32)).getD i (fun _ => 0)), (fun _ => (fun _ => 0)), ha67_0, by rw [ht]; exact hP9, va_K.moved hW.alike hK, hD9⟩, hS.F ht⟩) hS.2.2 dX7_addLeaf_105
set_option maxHeartbeats 8000000 in
set_option maxRecDepth 100000 in
theorem sX4_closePhrase_0 (l : Launch) (dC : Nat → ClassId) (dI : Nat → Nat → Nat) (adK adV : Nat → Nat) (h0 : Nat) (h18 : Nat) (h19 : Nat) (h20 : Nat) (h21 : Nat) (h22 : Nat) (h23 : Nat) (h25 : Nat) (h1 : Nat) (h2 : Nat) (h4 : Nat) (h11 : Nat) (h24 : Nat) (h3 : Nat) (k19 : ClassId) (k20 : ClassId) (k21 : ClassId) (k22 : ClassId) (k23 : ClassId) (k25 : ClassId) (k2 : ClassId) (sz : Nat) (v0 : Nat → Int32) (v18 : Nat → Int32) (f19 : Nat → Int32) (f20 : Nat → Int32) (f21 : Nat → Int32) (f22 : Nat → Int32) (f23 : Nat → Int32) (f25 : Nat → Int32) (v1 : Nat → Int32) (f2 : Nat → Int32) (x1 : Int32) (x2 : Int32) (x3 : Int32) (hv0 : zR rg_Parser v0) (hv18 : zR rg_Query v18) (hf25 : zA 0 12000 f25) (hv1 : zR rg_Tape v1) : Met l yX4_closePhrase (zw yX4_closePhrase cX4_closePhrase 4 none) { frames := 7, cells := 0, slots := 0, locals := 152 } (zPc dC dI adK adV [.ref h0, .int x1, .int x2, .int x3] sz [(h0, .inr (4, mX4 h1 h4 h11 h18 v0)), (h18, .inr (7, mX7 h19 h20 h21 h22 h23 h24 h25 v18)), (h19, zi k19 40 f19), (h20, zi k20 40 f20), (h21, zi k21 40 f21), (h22, zi k22 40 f22), (h23, zi k23 40 f23), (h25, zi k25 270 f25), (h1, .inr (9, mX9 h2 h3 v1)), (h2, zi k2 600 f2)] [(k19, .int), (k20, .int), (k21, .int), (k22, .int), (k23, .boolean), (k25, .int), (k2, .byte)]) (va_Qv (fun (u : Nat → Int32) => (0 ≤ (u 0).toInt ∧ (u 0).toInt ≤ 265) ∧ (0 ≤ (u 4).toInt ∧ (u 4).toInt ≤ 0) ∧ (1 ≤ (u 5).toInt ∧ (u 5).toInt ≤ 40) ∧ (0 ≤ (u 6).toInt ∧ (u 6).toInt ≤ 270)) (fun (u : Nat → Int32) (t : State) => ∃ (ww : Nat → Int64) (aa : Nat → Nat → Int32) (bb : Nat → Nat → Int64), zA 0 12000 (aa 5) ∧ va_P (dC, dI) vwCl [(h0, .inr (4, mX4 h1 h4 h11 h18 (upd (upd (upd (upd (upd v0 4 (u 0)) 5 (u 1)) 6 (u 2)) 7 (u 3)) 9 (u 4)))), (h18, .inr (7, mX7 h19 h20 h21 h22 h23 h24 h25 (upd (upd (upd (upd v18 7 (u 5)) 9 (u 6)) 10 (u 7)) 11 (u 8)))), (h19, zi k19 40 (aa 0)), (h20, zi k20 40 (aa 1)), (h21, zi k21 40 (aa 2)), (h22, zi k22 40 (aa 3)), (h23, zi k23 40 (aa 4)), (h25, zi k25 270 (aa 5)), (h1, .inr (9, mX9 h2 h3 v1)), (h2, zi k2 600 f2)] t.heap ∧ va_K (dC, dI) vwCl [(k19, .int), (k20, .int), (k21, .int), (k22, .int), (k23, .boolean), (k25, .int), (k2, .byte)] t ∧ va_D (va_A [(h0, .inr (4, mX4 h1 h4 h11 h18 v0)), (h18, .inr (7, mX7 h19 h20 h21 h22 h23 h24 h25 v18)), (h19, zi k19 40 f19), (h20, zi k20 40 f20), (h21, zi k21 40 f21), (h22, zi k22 40 f22), (h23, zi k23 40 f23), (h25, zi k25 270 f25), (h1, .inr (9, mX9 h2 h3 v1)), (h2, zi k2 600 f2)] sz) [(h0, .inr (4, mX4 h1 h4 h11 h18 (upd (upd (upd (upd (upd v0 4 (u 0)) 5 (u 1)) 6 (u 2)) 7 (u 3)) 9 (u 4)))), (h18, .inr (7, mX7 h19 h20 h21 h22 h23 h24 h25 (upd (upd (upd (upd v18 7 (u 5)) 9 (u 6)) 10 (u 7)) 11 (u 8)))), (h19, zi k19 40 (aa 0)), (h20, zi k20 40 (aa 1)), (h21, zi k21 40 (aa 2)), (h22, zi k22 40 (aa 3)), (h23, zi k23 40 (aa 4)), (h25, zi k25 270 (aa 5)), (h1, .inr (9, mX9 h2 h3 v1)), (h2, zi k2 600 f2)]) (va_A [(h0, .inr (4, mX4 h1 h4 h11 h18 v0)), (h18, .inr (7, mX7 h19 h20 h21 h22 h23 h24 h25 v18)), (h19, zi k19 40 f19), (h20, zi k20 40 f20), (h21, zi k21 40 f21), (h22, zi k22 40 f22), (h23, zi k23 40 f23), (h25, zi k25 270 f25), (h1, .inr (9, mX9 h2 h3 v1)), (h2, zi k2 600 f2)] sz)) 0 0 (va_A [(h0, .inr (4, mX4 h1 h4 h11 h18 v0)), (h18, .inr (7, mX7 h19 h20 h21 h22 h23 h24 h25 v18)), (h19, zi k19 40 f19), (h20, zi k20 40 f20), (h21, zi k21 40 f21), (h22, zi k22 40 f22), (h23, zi k23 40 f23), (h25, zi k25 270 f25), (h1, .inr (9, mX9 h2 h3 v1)), (h2, zi k2 600 f2)] sz) := by
  refine Met.ofW (cc := cX4_closePhrase) (maxL := 4) (ret := none) (by decide) rfl ?_
  intro p e s m args below meth c s₁ B hml hv
  obtain ⟨rfl, hsz, hP, hK, hD0, hE, hZ⟩ := hv
  have hx := B.exec
  have hb := B.bytes
  have hr := B.returns
  have hG : ∀ w ∈ zG, w.before _ s = true := fun w h => atoms_spec (ws := (zw yX4_closePhrase cX4_closePhrase 4 none)) B.pre w (List.mem_cons_of_mem _ h)
  have hown : s.vm.findClass RX4 = some m.cls := findClass_of_methodNamed B.named
  have hlocks := B.notSynchronized

  subst hsz
  have hD := hD0.self (sz := s.heap.size)
  generalize hAe : va_A [(h0, .inr (4, mX4 h1 h4 h11 h18 v0)), (h18, .inr (7, mX7 h19 h20 h21 h22 h23 h24 h25 v18)), (h19, zi k19 40 f19), (h20, zi k20 40 f20), (h21, zi k21 40 f21), (h22, zi k22 40 f22), (h23, zi k23 40 f23), (h25, zi k25 270 f25), (h1, .inr (9, mX9 h2 h3 v1)), (h2, zi k2 600 f2)] s.heap.size = A at hD hZ ⊢
  have hA : ∀ q : Nat, s.heap.size ≤ q → A q := fun q h => by rw [← hAe]; exact Or.inr h
  have hS : va_S A s.heap s.heap [] := va_S.rf
  have hl := lv_entry ([.ref h0, .int x1, .int x2, .int x3]) (n := 4) (Nat.le_of_ble_eq_true rfl)
  rw [lg_entry_eq]
  generalize (lg_sl ([.ref h0, .int x1, .int x2, .int x3]) ++ List.replicate (4 - (lg_sl ([.ref h0, .int x1, .int x2, .int x3])).length) Slot.unset).toArray = ls at hl ⊢
  have hl : lv_has ls 4 [(0, .ref h0), (1, .int x1), (2, .int x2), (3, .int x3)] := hl
  have b_ := zk_0
  have b_ := zk_1
  refine lv_aload_n hx hb dX4_closePhrase_0 rfl (lv_at hl 0 rfl) ?_
  refine va_get (D := (dC, dI)) (ci := 4) (v := .ref h18) (C := RX4) (T := TX4) (N := 12) hx hb hG zuX4 hown hK hP 0 rfl rfl 3 (by decide) (hG _ zv411) (fun _ h9 => h9) rfl dX4_closePhrase_1 ?_
  have hPc := hP.sub (ws' := [(h18, .inr (7, mX7 h19 h20 h21 h22 h23 h24 h25 v18))]) [1] rfl
  have hDc := hD.sub (ws' := [(h18, .inr (7, mX7 h19 h20 h21 h22 h23 h24 h25 v18))]) [1] (by decide) rfl
  have hKc := hK.sub (tys' := []) [] rfl
  have hFc := va_free (wc := [(h18, .inr (7, mX7 h19 h20 h21 h22 h23 h24 h25 v18))]) hD hS hA [1] rfl
  refine va_calli (va_runV (As := []) (rest := []) ⟨hx, hb, hml, hown, hG⟩ (sX7_phraseWords_0 l dC dI adK adV h18 h19 h20 h21 h22 h23 h24 h25 s.heap.size v18 hv18) (cwV 0 hG (zgV zv1121 zv1122 zv1123 zv136 zv1124) rfl rfl rfl (by decide +kernel) ⟨Nat.le_of_ble_eq_true rfl, Nat.le_of_ble_eq_true rfl⟩) ⟨zPc_blind, va_recv hKc hPc (ci := 7) (q0 := 0) rfl rfl, zPc_pre hPc hKc hDc hE hS hFc hZ⟩ rfl rfl hl.1 rfl (lv_room (Nat.le_of_ble_eq_true rfl)) dX4_closePhrase_4 ⟨Nat.le_of_ble_eq_true rfl, Nat.le_of_ble_eq_true rfl⟩) hS (fun q _ h => hFc q h) hFc (fun r4_ u4_ t H1 locs ht hvm hw hB hz1 hk1 hS => ?_)
  replace hw : (0 ≤ r4_.toInt ∧ r4_.toInt ≤ 160) := hw
  have b_ := hw
  obtain ⟨w4_, a4_, b4_, hP1, hK1, hD1⟩ := hB
  rw [ht] at hP1
  obtain ⟨hP, hD⟩ := va_join (wr := [(h0, .inr (4, mX4 h1 h4 h11 h18 v0)), (h19, zi k19 40 f19), (h20, zi k20 40 f20), (h21, zi k21 40 f21), (h22, zi k22 40 f22), (h23, zi k23 40 f23), (h25, zi k25 270 f25), (h1, .inr (9, mX9 h2 h3 v1)), (h2, zi k2 600 f2)]) (w1 := [(h18, .inr (7, mX7 h19 h20 h21 h22 h23 h24 h25 v18))]) hP hD [1] [0, 2, 3, 4, 5, 6, 7, 8, 9] rfl rfl (by decide) (by decide) hk1 hFc hP1 hD1
  have hP : va_P (dC, dI) vwCl [(h0, .inr (4, mX4 h1 h4 h11 h18 v0)), (h18, .inr (7, mX7 h19 h20 h21 h22 h23 h24 h25 v18)), (h19, zi k19 40 f19), (h20, zi k20 40 f20), (h21, zi k21 40 f21), (h22, zi k22 40 f22), (h23, zi k23 40 f23), (h25, zi k25 270 f25), (h1, .inr (9, mX9 h2 h3 v1)), (h2, zi k2 600 f2)] H1 := hP.sub [0, 9, 1, 2, 3, 4, 5, 6, 7, 8] rfl
  have hD : va_D A [(h0, .inr (4, mX4 h1 h4 h11 h18 v0)), (h18, .inr (7, mX7 h19 h20 h21 h22 h23 h24 h25 v18)), (h19, zi k19 40 f19), (h20, zi k20 40 f20), (h21, zi k21 40 f21), (h22, zi k22 40 f22), (h23, zi k23 40 f23), (h25, zi k25 270 f25), (h1, .inr (9, mX9 h2 h3 v1)), (h2, zi k2 600 f2)] := hD.sub [0, 9, 1, 2, 3, 4, 5, 6, 7, 8] (by decide) rfl
  generalize H1 = H at hP hS ⊢
  clear hz1
  refine lv_iload_n hx hb dX4_closePhrase_7 rfl (lv_at hl 1 rfl) ?_
  refine zcutW (fun H locs ls u17_ w17_ a17_ b17_ => va_P (dC, dI) vwCl [(h0, .inr (4, mX4 h1 h4 h11 h18 (upd (upd v0 4 (u17_ 0)) 7 (u17_ 1)))), (h18, .inr (7, mX7 h19 h20 h21 h22 h23 h24 h25 v18)), (h19, zi k19 40 f19), (h20, zi k20 40 f20), (h21, zi k21 40 f21), (h22, zi k22 40 f22), (h23, zi k23 40 f23), (h25, zi k25 270 f25), (h1, .inr (9, mX9 h2 h3 v1)), (h2, zi k2 600 f2)] H ∧ va_D A [(h0, .inr (4, mX4 h1 h4 h11 h18 (upd (upd v0 4 (u17_ 0)) 7 (u17_ 1)))), (h18, .inr (7, mX7 h19 h20 h21 h22 h23 h24 h25 v18)), (h19, zi k19 40 f19), (h20, zi k20 40 f20), (h21, zi k21 40 f21), (h22, zi k22 40 f22), (h23, zi k23 40 f23), (h25, zi k25 270 f25), (h1, .inr (9, mX9 h2 h3 v1)), (h2, zi k2 600 f2)] ∧ va_S A s.heap H locs ∧ lv_has ls 4 [(0, .ref h0), (1, .int x1), (2, .int x2), (3, .int x3)]) (fun ls u17_ w17_ => F0 m 17 ls []) 0 0 ?_ (fun hJ17 => ?_)
  · skip
    intro H locs ls u17_ w17_ a17_ b17_ hc
    obtain ⟨hP, hD, hS, hl⟩ := hc
    refine lv_aload_n hx hb dX4_closePhrase_17 rfl (lv_at hl 0 rfl) ?_
    refine va_get (D := (dC, dI)) (ci := 4) (v := .ref h18) (C := RX4) (T := TX4) (N := 12) hx hb hG zuX4 hown hK hP 0 rfl rfl 3 (by decide) (hG _ zv411) (fun _ h9 => h9) rfl dX4_closePhrase_18 ?_
    refine lv_iconst (v := 3) hx hb dX4_closePhrase_21 (by decide) ?_
    refine lv_iload_n hx hb dX4_closePhrase_22 rfl (lv_at hl 1 rfl) ?_
    refine lv_aload_n hx hb dX4_closePhrase_23 rfl (lv_at hl 0 rfl) ?_
    refine va_get (D := (dC, dI)) (ci := 4) (v := .ref h18) (C := RX4) (T := TX4) (N := 12) hx hb hG zuX4 hown hK hP 0 rfl rfl 3 (by decide) (hG _ zv411) (fun _ h9 => h9) rfl dX4_closePhrase_24 ?_
    have hPc := hP.sub (ws' := [(h18, .inr (7, mX7 h19 h20 h21 h22 h23 h24 h25 v18))]) [1] rfl
    have hDc := hD.sub (ws' := [(h18, .inr (7, mX7 h19 h20 h21 h22 h23 h24 h25 v18))]) [1] (by decide) rfl
    have hKc := hK.sub (tys' := []) [] rfl
    have hFc := va_free (wc := [(h18, .inr (7, mX7 h19 h20 h21 h22 h23 h24 h25 v18))]) hD hS hA [1] rfl
    refine va_calli (va_runV (As := []) (rest := [.int x1, .int 3, .ref h18]) ⟨hx, hb, hml, hown, hG⟩ (sX7_phraseWords_0 l dC dI adK adV h18 h19 h20 h21 h22 h23 h24 h25 H.size v18 hv18) (cwV 0 hG (zgV zv1121 zv1122 zv1123 zv136 zv1124) rfl rfl rfl (by decide +kernel) ⟨Nat.le_of_ble_eq_true rfl, Nat.le_of_ble_eq_true rfl⟩) ⟨zPc_blind, va_recv hKc hPc (ci := 7) (q0 := 0) rfl rfl, zPc_pre hPc hKc hDc hE hS hFc hZ⟩ rfl rfl hl.1 rfl (lv_room (Nat.le_of_ble_eq_true rfl)) dX4_closePhrase_27 ⟨Nat.le_of_ble_eq_true rfl, Nat.le_of_ble_eq_true rfl⟩) hS (fun q _ h => hFc q h) hFc (fun r27_ u27_ t H1 locs ht hvm hw hB hz1 hk1 hS => ?_)
    replace hw : (0 ≤ r27_.toInt ∧ r27_.toInt ≤ 160) := hw
    have b_ := hw
    obtain ⟨w27_, a27_, b27_, hP1, hK1, hD1⟩ := hB
    rw [ht] at hP1
    obtain ⟨hP, hD⟩ := va_join (wr := [(h0, .inr (4, mX4 h1 h4 h11 h18 (upd (upd v0 4 (u17_ 0)) 7 (u17_ 1)))), (h19, zi k19 40 f19), (h20, zi k20 40 f20), (h21, zi k21 40 f21), (h22, zi k22 40 f22), (h23, zi k23 40 f23), (h25, zi k25 270 f25), (h1, .inr (9, mX9 h2 h3 v1)), (h2, zi k2 600 f2)]) (w1 := [(h18, .inr (7, mX7 h19 h20 h21 h22 h23 h24 h25 v18))]) hP hD [1] [0, 2, 3, 4, 5, 6, 7, 8, 9] rfl rfl (by decide) (by decide) hk1 hFc hP1 hD1
    have hP : va_P (dC, dI) vwCl [(h0, .inr (4, mX4 h1 h4 h11 h18 (upd (upd v0 4 (u17_ 0)) 7 (u17_ 1)))), (h18, .inr (7, mX7 h19 h20 h21 h22 h23 h24 h25 v18)), (h19, zi k19 40 f19), (h20, zi k20 40 f20), (h21, zi k21 40 f21), (h22, zi k22 40 f22), (h23, zi k23 40 f23), (h25, zi k25 270 f25), (h1, .inr (9, mX9 h2 h3 v1)), (h2, zi k2 600 f2)] H1 := hP.sub [0, 9, 1, 2, 3, 4, 5, 6, 7, 8] rfl
    have hD : va_D A [(h0, .inr (4, mX4 h1 h4 h11 h18 (upd (upd v0 4 (u17_ 0)) 7 (u17_ 1)))), (h18, .inr (7, mX7 h19 h20 h21 h22 h23 h24 h25 v18)), (h19, zi k19 40 f19), (h20, zi k20 40 f20), (h21, zi k21 40 f21), (h22, zi k22 40 f22), (h23, zi k23 40 f23), (h25, zi k25 270 f25), (h1, .inr (9, mX9 h2 h3 v1)), (h2, zi k2 600 f2)] := hD.sub [0, 9, 1, 2, 3, 4, 5, 6, 7, 8] (by decide) rfl
    generalize H1 = H at hP hS ⊢
    clear hz1
    refine lv_iload_n hx hb dX4_closePhrase_30 rfl (lv_at hl 3 rfl) ?_
    refine lv_aload_n hx hb dX4_closePhrase_31 rfl (lv_at hl 0 rfl) ?_
    refine va_get (D := (dC, dI)) (ci := 4) (v := .int (v0 10)) (C := RX4) (T := TX4) (N := 12) hx hb hG zuX4 hown hK hP 0 rfl rfl 10 (by decide) (hG _ zv418) (fun _ h9 => h9) rfl dX4_closePhrase_32 ?_
    refine zcutW (fun H locs ls u43_ w43_ a43_ b43_ => va_P (dC, dI) vwCl [(h0, .inr (4, mX4 h1 h4 h11 h18 (upd (upd v0 4 (u17_ 0)) 7 (u17_ 1)))), (h18, .inr (7, mX7 h19 h20 h21 h22 h23 h24 h25 v18)), (h19, zi k19 40 f19), (h20, zi k20 40 f20), (h21, zi k21 40 f21), (h22, zi k22 40 f22), (h23, zi k23 40 f23), (h25, zi k25 270 f25), (h1, .inr (9, mX9 h2 h3 v1)), (h2, zi k2 600 f2)] H ∧ va_D A [(h0, .inr (4, mX4 h1 h4 h11 h18 (upd (upd v0 4 (u17_ 0)) 7 (u17_ 1)))), (h18, .inr (7, mX7 h19 h20 h21 h22 h23 h24 h25 v18)), (h19, zi k19 40 f19), (h20, zi k20 40 f20), (h21, zi k21 40 f21), (h22, zi k22 40 f22), (h23, zi k23 40 f23), (h25, zi k25 270 f25), (h1, .inr (9, mX9 h2 h3 v1)), (h2, zi k2 600 f2)] ∧ va_S A s.heap H locs ∧ lv_has ls 4 [(0, .ref h0), (1, .int x1), (2, .int x2), (3, .int x3)] ∧ (0 ≤ (u43_ 0).toInt ∧ (u43_ 0).toInt ≤ 1)) (fun ls u43_ w43_ => F0 m 43 ls [.int (u43_ 0), .int x3, .int r27_, .int x1, .int 3, .ref h18]) 0 0 ?_ (fun hJ43 => ?_)
    · skip
      intro H locs ls u43_ w43_ a43_ b43_ hc
      obtain ⟨hP, hD, hS, hl, b_⟩ := hc
      have hPc := hP.sub (ws' := [(h18, .inr (7, mX7 h19 h20 h21 h22 h23 h24 h25 v18)), (h19, zi k19 40 f19), (h20, zi k20 40 f20), (h21, zi k21 40 f21), (h22, zi k22 40 f22), (h23, zi k23 40 f23), (h25, zi k25 270 f25)]) [1, 2, 3, 4, 5, 6, 7] rfl
      have hDc := hD.sub (ws' := [(h18, .inr (7, mX7 h19 h20 h21 h22 h23 h24 h25 v18)), (h19, zi k19 40 f19), (h20, zi k20 40 f20), (h21, zi k21 40 f21), (h22, zi k22 40 f22), (h23, zi k23 40 f23), (h25, zi k25 270 f25)]) [1, 2, 3, 4, 5, 6, 7] (by decide) rfl
      have hKc := hK.sub (tys' := [(k19, .int), (k20, .int), (k21, .int), (k22, .int), (k23, .boolean), (k25, .int)]) [0, 1, 2, 3, 4, 5] rfl
      have hFc := va_free (wc := [(h18, .inr (7, mX7 h19 h20 h21 h22 h23 h24 h25 v18)), (h19, zi k19 40 f19), (h20, zi k20 40 f20), (h21, zi k21 40 f21), (h22, zi k22 40 f22), (h23, zi k23 40 f23), (h25, zi k25 270 f25)]) hD hS hA [1, 2, 3, 4, 5, 6, 7] rfl
      refine va_callv (va_runV (As := [.int 3, .int x1, .int r27_, .int x3, .int (u43_ 0)]) (rest := []) ⟨hx, hb, hml, hown, hG⟩ (sX7_addLeaf_0 l dC dI adK adV h18 h19 h20 h21 h22 h23 h25 h24 k19 k20 k21 k22 k23 k25 H.size v18 f19 f20 f21 f22 f23 f25 3 x1 r27_ x3 (u43_ 0) hv18 hf25 ⟨show (1 : Int) ≤ (3 : Int32).toInt from by decide, show (3 : Int32).toInt ≤ (4 : Int) from by decide⟩ (show (0 : Int) ≤ ((u43_ 0) : Int32).toInt ∧ ((u43_ 0) : Int32).toInt ≤ (1 : Int) from (by first | with_reducible assumption | exact ⟨by omega, by omega⟩))) (cwV 5 hG (zgV zv1108 zv1109 zv1110 zv136 zv1111) rfl rfl rfl (by decide +kernel) ⟨Nat.le_of_ble_eq_true rfl, Nat.le_of_ble_eq_true rfl⟩) ⟨zPc_blind, va_recv hKc hPc (ci := 7) (q0 := 0) rfl rfl, zPc_pre hPc hKc hDc hE hS hFc hZ⟩ rfl rfl hl.1 rfl (lv_room (Nat.le_of_ble_eq_true rfl)) dX4_closePhrase_43 ⟨Nat.le_of_ble_eq_true rfl, Nat.le_of_ble_eq_true rfl⟩) hS (fun q _ h => hFc q h) hFc (fun u43_ t H1 locs ht hvm hw hB hz1 hk1 hS => ?_)
      replace hw : (1 ≤ (u43_ 0).toInt ∧ (u43_ 0).toInt ≤ 40) ∧ (0 ≤ (u43_ 1).toInt ∧ (u43_ 1).toInt ≤ 270) := hw
      obtain ⟨b_, b_⟩ := hw
      obtain ⟨w43_, a43_, b43_, ha43_5, hP1, hK1, hD1⟩ := hB
      rw [ht] at hP1
      obtain ⟨hP, hD⟩ := va_join (wr := [(h0, .inr (4, mX4 h1 h4 h11 h18 (upd (upd v0 4 (u17_ 0)) 7 (u17_ 1)))), (h1, .inr (9, mX9 h2 h3 v1)), (h2, zi k2 600 f2)]) (w1 := [(h18, .inr (7, mX7 h19 h20 h21 h22 h23 h24 h25 (upd (upd (upd (upd v18 7 (u43_ 0)) 9 (u43_ 1)) 10 (u43_ 2)) 11 (u43_ 3)))), (h19, zi k19 40 (a43_ 0)), (h20, zi k20 40 (a43_ 1)), (h21, zi k21 40 (a43_ 2)), (h22, zi k22 40 (a43_ 3)), (h23, zi k23 40 (a43_ 4)), (h25, zi k25 270 (a43_ 5))]) hP hD [1, 2, 3, 4, 5, 6, 7] [0, 8, 9] rfl rfl (by decide) (by decide) hk1 hFc hP1 hD1
      have hP : va_P (dC, dI) vwCl [(h0, .inr (4, mX4 h1 h4 h11 h18 (upd (upd v0 4 (u17_ 0)) 7 (u17_ 1)))), (h18, .inr (7, mX7 h19 h20 h21 h22 h23 h24 h25 (upd (upd (upd (upd v18 7 (u43_ 0)) 9 (u43_ 1)) 10 (u43_ 2)) 11 (u43_ 3)))), (h19, zi k19 40 (a43_ 0)), (h20, zi k20 40 (a43_ 1)), (h21, zi k21 40 (a43_ 2)), (h22, zi k22 40 (a43_ 3)), (h23, zi k23 40 (a43_ 4)), (h25, zi k25 270 (a43_ 5)), (h1, .inr (9, mX9 h2 h3 v1)), (h2, zi k2 600 f2)] H1 := hP.sub [0, 3, 4, 5, 6, 7, 8, 9, 1, 2] rfl
      have hD : va_D A [(h0, .inr (4, mX4 h1 h4 h11 h18 (upd (upd v0 4 (u17_ 0)) 7 (u17_ 1)))), (h18, .inr (7, mX7 h19 h20 h21 h22 h23 h24 h25 (upd (upd (upd (upd v18 7 (u43_ 0)) 9 (u43_ 1)) 10 (u43_ 2)) 11 (u43_ 3)))), (h19, zi k19 40 (a43_ 0)), (h20, zi k20 40 (a43_ 1)), (h21, zi k21 40 (a43_ 2)), (h22, zi k22 40 (a43_ 3)), (h23, zi k23 40 (a43_ 4)), (h25, zi k25 270 (a43_ 5)), (h1, .inr (9, mX9 h2 h3 v1)), (h2, zi k2 600 f2)] := hD.sub [0, 3, 4, 5, 6, 7, 8, 9, 1, 2] (by decide) rfl
      generalize H1 = H at hP hS ⊢
      clear hz1
      refine lv_aload_n hx hb dX4_closePhrase_46 rfl (lv_at hl 0 rfl) ?_
      refine lv_iconst (v := 0) hx hb dX4_closePhrase_47 (by decide) ?_
      refine va_put (D := (dC, dI)) (ci := 4) (v := .int 0) (ty := .boolean) (C := RX4) (T := TX4) (N := 12) hx hb hG zuX4 tyX4 tyX4_ok nmX4 hown hK hP hD hS 0 rfl rfl 9 (by decide) (hG _ zv417) (fun _ h9 => h9) rfl (by decide +kernel) rfl rfl (Nat.le_of_ble_eq_true rfl) dX4_closePhrase_48 (fun H locs hP hD hS => ?_)
      have hP : va_P (dC, dI) vwCl [(h0, .inr (4, mX4 h1 h4 h11 h18 (upd (upd (upd v0 4 (u17_ 0)) 7 (u17_ 1)) 9 0))), (h18, .inr (7, mX7 h19 h20 h21 h22 h23 h24 h25 (upd (upd (upd (upd v18 7 (u43_ 0)) 9 (u43_ 1)) 10 (u43_ 2)) 11 (u43_ 3)))), (h19, zi k19 40 (a43_ 0)), (h20, zi k20 40 (a43_ 1)), (h21, zi k21 40 (a43_ 2)), (h22, zi k22 40 (a43_ 3)), (h23, zi k23 40 (a43_ 4)), (h25, zi k25 270 (a43_ 5)), (h1, .inr (9, mX9 h2 h3 v1)), (h2, zi k2 600 f2)] H := hP
      have hD : va_D A [(h0, .inr (4, mX4 h1 h4 h11 h18 (upd (upd (upd v0 4 (u17_ 0)) 7 (u17_ 1)) 9 0))), (h18, .inr (7, mX7 h19 h20 h21 h22 h23 h24 h25 (upd (upd (upd (upd v18 7 (u43_ 0)) 9 (u43_ 1)) 10 (u43_ 2)) 11 (u43_ 3)))), (h19, zi k19 40 (a43_ 0)), (h20, zi k20 40 (a43_ 1)), (h21, zi k21 40 (a43_ 2)), (h22, zi k22 40 (a43_ 3)), (h23, zi k23 40 (a43_ 4)), (h25, zi k25 270 (a43_ 5)), (h1, .inr (9, mX9 h2 h3 v1)), (h2, zi k2 600 f2)] := hD
      refine lv_aload_n hx hb dX4_closePhrase_51 rfl (lv_at hl 0 rfl) ?_
      refine lv_iload_n hx hb dX4_closePhrase_52 rfl (lv_at hl 2 rfl) ?_
      refine lv_iconst (v := 1) hx hb dX4_closePhrase_53 (by decide) ?_
      have b_ : -2147483648 ≤ x2.toInt ∧ x2.toInt ≤ 2147483647 := ⟨zlo _, zhi _⟩
      refine lv_iadd hx hb dX4_closePhrase_54 ?_
      refine lv_topi (fun z54 e_z54 => ?_)
      refine va_put (D := (dC, dI)) (ci := 4) (v := .int z54) (ty := .int) (C := RX4) (T := TX4) (N := 12) hx hb hG zuX4 tyX4 tyX4_ok nmX4 hown hK hP hD hS 0 rfl rfl 6 (by decide) (hG _ zv414) (fun _ h9 => h9) rfl (by decide +kernel) rfl rfl (Nat.le_of_ble_eq_true rfl) dX4_closePhrase_55 (fun H locs hP hD hS => ?_)
      have hP : va_P (dC, dI) vwCl [(h0, .inr (4, mX4 h1 h4 h11 h18 (upd (upd (upd (upd v0 4 (u17_ 0)) 6 z54) 7 (u17_ 1)) 9 0))), (h18, .inr (7, mX7 h19 h20 h21 h22 h23 h24 h25 (upd (upd (upd (upd v18 7 (u43_ 0)) 9 (u43_ 1)) 10 (u43_ 2)) 11 (u43_ 3)))), (h19, zi k19 40 (a43_ 0)), (h20, zi k20 40 (a43_ 1)), (h21, zi k21 40 (a43_ 2)), (h22, zi k22 40 (a43_ 3)), (h23, zi k23 40 (a43_ 4)), (h25, zi k25 270 (a43_ 5)), (h1, .inr (9, mX9 h2 h3 v1)), (h2, zi k2 600 f2)] H := hP
      have hD : va_D A [(h0, .inr (4, mX4 h1 h4 h11 h18 (upd (upd (upd (upd v0 4 (u17_ 0)) 6 z54) 7 (u17_ 1)) 9 0))), (h18, .inr (7, mX7 h19 h20 h21 h22 h23 h24 h25 (upd (upd (upd (upd v18 7 (u43_ 0)) 9 (u43_ 1)) 10 (u43_ 2)) 11 (u43_ 3)))), (h19, zi k19 40 (a43_ 0)), (h20, zi k20 40 (a43_ 1)), (h21, zi k21 40 (a43_ 2)), (h22, zi k22 40 (a43_ 3)), (h23, zi k23 40 (a43_ 4)), (h25, zi k25 270 (a43_ 5)), (h1, .inr (9, mX9 h2 h3 v1)), (h2, zi k2 600 f2)] := hD
      refine lv_aload_n hx hb dX4_closePhrase_58 rfl (lv_at hl 0 rfl) ?_
      have b_ : -2147483648 ≤ (u17_ 0).toInt ∧ (u17_ 0).toInt ≤ 2147483647 := ⟨zlo _, zhi _⟩
      have b_ : -2147483648 ≤ (u17_ 1).toInt ∧ (u17_ 1).toInt ≤ 2147483647 := ⟨zlo _, zhi _⟩
      have b_ : -2147483648 ≤ z54.toInt ∧ z54.toInt ≤ 2147483647 := ⟨zlo _, zhi _⟩
      have hPc := hP.sub (ws' := [(h0, .inr (4, mX4 h1 h4 h11 h18 (upd (upd (upd (upd v0 4 (u17_ 0)) 6 z54) 7 (u17_ 1)) 9 0))), (h1, .inr (9, mX9 h2 h3 v1)), (h2, zi k2 600 f2)]) [0, 8, 9] rfl
      have hDc := hD.sub (ws' := [(h0, .inr (4, mX4 h1 h4 h11 h18 (upd (upd (upd (upd v0 4 (u17_ 0)) 6 z54) 7 (u17_ 1)) 9 0))), (h1, .inr (9, mX9 h2 h3 v1)), (h2, zi k2 600 f2)]) [0, 8, 9] (by decide) rfl
      have hKc := hK.sub (tys' := [(k2, .byte)]) [6] rfl
      have hFc := va_free (wc := [(h0, .inr (4, mX4 h1 h4 h11 h18 (upd (upd (upd (upd v0 4 (u17_ 0)) 6 z54) 7 (u17_ 1)) 9 0))), (h1, .inr (9, mX9 h2 h3 v1)), (h2, zi k2 600 f2)]) hD hS hA [0, 8, 9] rfl
      refine va_callv (va_runV (As := []) (rest := []) ⟨hx, hb, hml, hown, hG⟩ (sX4_next_0 l dC dI adK adV h0 h1 h2 h4 h11 h18 h3 k2 H.size (upd (upd (upd (upd v0 4 (u17_ 0)) 6 z54) 7 (u17_ 1)) 9 0) v1 f2 (zR_upd (zR_updF (zR_updF (zR_updF hv0 4 rfl) 6 rfl) 7 rfl) 9 (show (0 : Int) ≤ (0 : Int32).toInt from by decide) (show (0 : Int32).toInt ≤ (1 : Int) from by decide)) hv1) (cwV 0 hG (zgV zv1013 zv1015 zv11 zv137 zv1016) rfl rfl rfl (by decide +kernel) ⟨Nat.le_of_ble_eq_true rfl, Nat.le_of_ble_eq_true rfl⟩) ⟨zPc_blind, va_recv hKc hPc (ci := 4) (q0 := 0) rfl rfl, zPc_pre hPc hKc hDc hE hS hFc hZ⟩ rfl rfl hl.1 rfl (lv_room (Nat.le_of_ble_eq_true rfl)) dX4_closePhrase_59 ⟨Nat.le_of_ble_eq_true rfl, Nat.le_of_ble_eq_true rfl⟩) hS (fun q _ h => hFc q h) hFc (fun u59_ t H1 locs ht hvm hw hB hz1 hk1 hS => ?_)
      replace hw : (0 ≤ (u59_ 0).toInt ∧ (u59_ 0).toInt ≤ 265) := hw
      have b_ := hw
      obtain ⟨w59_, a59_, b59_, hP1, hK1, hD1⟩ := hB
      rw [ht] at hP1
      obtain ⟨hP, hD⟩ := va_join (wr := [(h18, .inr (7, mX7 h19 h20 h21 h22 h23 h24 h25 (upd (upd (upd (upd v18 7 (u43_ 0)) 9 (u43_ 1)) 10 (u43_ 2)) 11 (u43_ 3)))), (h19, zi k19 40 (a43_ 0)), (h20, zi k20 40 (a43_ 1)), (h21, zi k21 40 (a43_ 2)), (h22, zi k22 40 (a43_ 3)), (h23, zi k23 40 (a43_ 4)), (h25, zi k25 270 (a43_ 5))]) (w1 := [(h0, .inr (4, mX4 h1 h4 h11 h18 (upd (upd (upd (upd (upd v0 4 (u59_ 0)) 5 (u59_ 1)) 6 (u59_ 2)) 7 (u59_ 3)) 9 0))), (h1, .inr (9, mX9 h2 h3 v1)), (h2, zi k2 600 f2)]) hP hD [0, 8, 9] [1, 2, 3, 4, 5, 6, 7] rfl rfl (by decide) (by decide) hk1 hFc hP1 hD1
      have hP : va_P (dC, dI) vwCl [(h0, .inr (4, mX4 h1 h4 h11 h18 (upd (upd (upd (upd (upd v0 4 (u59_ 0)) 5 (u59_ 1)) 6 (u59_ 2)) 7 (u59_ 3)) 9 0))), (h18, .inr (7, mX7 h19 h20 h21 h22 h23 h24 h25 (upd (upd (upd (upd v18 7 (u43_ 0)) 9 (u43_ 1)) 10 (u43_ 2)) 11 (u43_ 3)))), (h19, zi k19 40 (a43_ 0)), (h20, zi k20 40 (a43_ 1)), (h21, zi k21 40 (a43_ 2)), (h22, zi k22 40 (a43_ 3)), (h23, zi k23 40 (a43_ 4)), (h25, zi k25 270 (a43_ 5)), (h1, .inr (9, mX9 h2 h3 v1)), (h2, zi k2 600 f2)] H1 := hP.sub [7, 0, 1, 2, 3, 4, 5, 6, 8, 9] rfl
      have hD : va_D A [(h0, .inr (4, mX4 h1 h4 h11 h18 (upd (upd (upd (upd (upd v0 4 (u59_ 0)) 5 (u59_ 1)) 6 (u59_ 2)) 7 (u59_ 3)) 9 0))), (h18, .inr (7, mX7 h19 h20 h21 h22 h23 h24 h25 (upd (upd (upd (upd v18 7 (u43_ 0)) 9 (u43_ 1)) 10 (u43_ 2)) 11 (u43_ 3)))), (h19, zi k19 40 (a43_ 0)), (h20, zi k20 40 (a43_ 1)), (h21, zi k21 40 (a43_ 2)), (h22, zi k22 40 (a43_ 3)), (h23, zi k23 40 (a43_ 4)), (h25, zi k25 270 (a43_ 5)), (h1, .inr (9, mX9 h2 h3 v1)), (h2, zi k2 600 f2)] := hD.sub [7, 0, 1, 2, 3, 4, 5, 6, 8, 9] (by decide) rfl
      generalize H1 = H at hP hS ⊢
      clear hz1
      refine W.widen (k := 0) (n := 0) (by decide) (by decide) ?_
      have b_ : -2147483648 ≤ (u59_ 1).toInt ∧ (u59_ 1).toInt ≤ 2147483647 := ⟨zlo _, zhi _⟩
      have b_ : -2147483648 ≤ (u59_ 2).toInt ∧ (u59_ 2).toInt ≤ 2147483647 := ⟨zlo _, zhi _⟩
      have b_ : -2147483648 ≤ (u59_ 3).toInt ∧ (u59_ 3).toInt ≤ 2147483647 := ⟨zlo _, zhi _⟩
      have b_ : -2147483648 ≤ (u43_ 2).toInt ∧ (u43_ 2).toInt ≤ 2147483647 := ⟨zlo _, zhi _⟩
      have b_ : -2147483648 ≤ (u43_ 3).toInt ∧ (u43_ 3).toInt ≤ 2147483647 := ⟨zlo _, zhi _⟩
      have hpost : (0 ≤ (u59_ 0).toInt ∧ (u59_ 0).toInt ≤ 265) ∧ (0 ≤ (0 : Int32).toInt ∧ (0 : Int32).toInt ≤ 0) ∧ (1 ≤ (u43_ 0).toInt ∧ (u43_ 0).toInt ≤ 40) ∧ (0 ≤ (u43_ 1).toInt ∧ (u43_ 1).toInt ≤ 270) := ⟨(by first | with_reducible assumption | exact ⟨by omega, by omega⟩), (by first | with_reducible assumption | exact ⟨by omega, by omega⟩), (by first | with_reducible assumption | exact ⟨by omega, by omega⟩), (by first | with_reducible assumption | exact ⟨by omega, by omega⟩)⟩
      have hP9 : va_P (dC, dI) vwCl [(h0, .inr (4, mX4 h1 h4 h11 h18 (upd (upd (upd (upd (upd v0 4 (u59_ 0)) 5 (u59_ 1)) 6 (u59_ 2)) 7 (u59_ 3)) 9 0))), (h18, .inr (7, mX7 h19 h20 h21 h22 h23 h24 h25 (upd (upd (upd (upd v18 7 (u43_ 0)) 9 (u43_ 1)) 10 (u43_ 2)) 11 (u43_ 3)))), (h19, zi k19 40 (a43_ 0)), (h20, zi k20 40 (a43_ 1)), (h21, zi k21 40 (a43_ 2)), (h22, zi k22 40 (a43_ 3)), (h23, zi k23 40 (a43_ 4)), (h25, zi k25 270 (a43_ 5)), (h1, .inr (9, mX9 h2 h3 v1)), (h2, zi k2 600 f2)] H := hP
      have hD9 : va_D A [(h0, .inr (4, mX4 h1 h4 h11 h18 (upd (upd (upd (upd (upd v0 4 (u59_ 0)) 5 (u59_ 1)) 6 (u59_ 2)) 7 (u59_ 3)) 9 0))), (h18, .inr (7, mX7 h19 h20 h21 h22 h23 h24 h25 (upd (upd (upd (upd v18 7 (u43_ 0)) 9 (u43_ 1)) 10 (u43_ 2)) 11 (u43_ 3)))), (h19, zi k19 40 (a43_ 0)), (h20, zi k20 40 (a43_ 1)), (h21, zi k21 40 (a43_ 2)), (h22, zi k22 40 (a43_ 3)), (h23, zi k23 40 (a43_ 4)), (h25, zi k25 270 (a43_ 5)), (h1, .inr (9, mX9 h2 h3 v1)), (h2, zi k2 600 f2)] := hD
      exact W.vret hx hb hr (fun t ht hW => ⟨⟨(fun i => ([(u59_ 0), (u59_ 1), (u59_ 2), (u59_ 3), 0, (u43_ 0), (u43_ 1), (u43_ 2), (u43_ 3)] : List (Int32)).getD i 0), rfl, hpost, (fun _ => 0), (fun i => ([(a43_ 0), (a43_ 1), (a43_ 2), (a43_ 3), (a43_ 4), (a43_ 5)] : List (Nat → Int32)).getD i (fun _ => 0)), (fun _ => (fun _ => 0)), ha43_5, by rw [ht]; exact hP9, va_K.moved hW.alike hK, hD9⟩, hS.F ht⟩) hS.2.2 dX4_closePhrase_62
    · skip
      have b_ : -2147483648 ≤ (v0 10).toInt ∧ (v0 10).toInt ≤ 2147483647 := ⟨zlo _, zhi _⟩
      refine lv_if_ne (tgt := 42) hx hb dX4_closePhrase_35 (by decide) (fun c_ => ?_) (fun c_ => ?_)
      · skip
        have b_ := zT_ne rfl zk_0 c_
        refine lv_iconst (v := 0) hx hb dX4_closePhrase_42 (by decide) ?_
        have hc : va_P (dC, dI) vwCl [(h0, .inr (4, mX4 h1 h4 h11 h18 (upd (upd v0 4 (u17_ 0)) 7 (u17_ 1)))), (h18, .inr (7, mX7 h19 h20 h21 h22 h23 h24 h25 v18)), (h19, zi k19 40 f19), (h20, zi k20 40 f20), (h21, zi k21 40 f21), (h22, zi k22 40 f22), (h23, zi k23 40 f23), (h25, zi k25 270 f25), (h1, .inr (9, mX9 h2 h3 v1)), (h2, zi k2 600 f2)] H ∧ va_D A [(h0, .inr (4, mX4 h1 h4 h11 h18 (upd (upd v0 4 (u17_ 0)) 7 (u17_ 1)))), (h18, .inr (7, mX7 h19 h20 h21 h22 h23 h24 h25 v18)), (h19, zi k19 40 f19), (h20, zi k20 40 f20), (h21, zi k21 40 f21), (h22, zi k22 40 f22), (h23, zi k23 40 f23), (h25, zi k25 270 f25), (h1, .inr (9, mX9 h2 h3 v1)), (h2, zi k2 600 f2)] ∧ va_S A s.heap H locs ∧ lv_has ls 4 [(0, .ref h0), (1, .int x1), (2, .int x2), (3, .int x3)] ∧ (0 ≤ (0 : Int32).toInt ∧ (0 : Int32).toInt ≤ 1) := ⟨hP, hD, hS, lv_sub hl [0, 1, 2, 3] rfl, (by first | with_reducible assumption | exact ⟨by omega, by omega⟩)⟩
        exact hJ43 H locs ls (fun i => ([0] : List (Int32)).getD i 0) (fun _ => 0) (fun _ => (fun _ => 0)) (fun _ => (fun _ => 0)) hc
      · skip
        have b_ := zF_ne rfl zk_0 c_
        refine lv_iconst (v := 1) hx hb dX4_closePhrase_38 (by decide) ?_
        refine lv_goto (tgt := 43) hx hb dX4_closePhrase_39 (by decide) ?_
        have hc : va_P (dC, dI) vwCl [(h0, .inr (4, mX4 h1 h4 h11 h18 (upd (upd v0 4 (u17_ 0)) 7 (u17_ 1)))), (h18, .inr (7, mX7 h19 h20 h21 h22 h23 h24 h25 v18)), (h19, zi k19 40 f19), (h20, zi k20 40 f20), (h21, zi k21 40 f21), (h22, zi k22 40 f22), (h23, zi k23 40 f23), (h25, zi k25 270 f25), (h1, .inr (9, mX9 h2 h3 v1)), (h2, zi k2 600 f2)] H ∧ va_D A [(h0, .inr (4, mX4 h1 h4 h11 h18 (upd (upd v0 4 (u17_ 0)) 7 (u17_ 1)))), (h18, .inr (7, mX7 h19 h20 h21 h22 h23 h24 h25 v18)), (h19, zi k19 40 f19), (h20, zi k20 40 f20), (h21, zi k21 40 f21), (h22, zi k22 40 f22), (h23, zi k23 40 f23), (h25, zi k25 270 f25), (h1, .inr (9, mX9 h2 h3 v1)), (h2, zi k2 600 f2)] ∧ va_S A s.heap H locs ∧ lv_has ls 4 [(0, .ref h0), (1, .int x1), (2, .int x2), (3, .int x3)] ∧ (0 ≤ (1 : Int32).toInt ∧ (1 : Int32).toInt ≤ 1) := ⟨hP, hD, hS, lv_sub hl [0, 1, 2, 3] rfl, (by first | with_reducible assumption | exact ⟨by omega, by omega⟩)⟩
        exact hJ43 H locs ls (fun i => ([1] : List (Int32)).getD i 0) (fun _ => 0) (fun _ => (fun _ => 0)) (fun _ => (fun _ => 0)) hc
  · skip
    have b_ : -2147483648 ≤ x1.toInt ∧ x1.toInt ≤ 2147483647 := ⟨zlo _, zhi _⟩
    refine lv_icmp_ne (tgt := 17) hx hb dX4_closePhrase_8 (by decide) (fun c_ => ?_) (fun c_ => ?_)
    · skip
      have b_ := zT_ne rfl rfl c_
      have hc : va_P (dC, dI) vwCl [(h0, .inr (4, mX4 h1 h4 h11 h18 (upd (upd v0 4 (v0 4)) 7 (v0 7)))), (h18, .inr (7, mX7 h19 h20 h21 h22 h23 h24 h25 v18)), (h19, zi k19 40 f19), (h20, zi k20 40 f20), (h21, zi k21 40 f21), (h22, zi k22 40 f22), (h23, zi k23 40 f23), (h25, zi k25 270 f25), (h1, .inr (9, mX9 h2 h3 v1)), (h2, zi k2 600 f2)] H ∧ va_D A [(h0, .inr (4, mX4 h1 h4 h11 h18 (upd (upd v0 4 (v0 4)) 7 (v0 7)))), (h18, .inr (7, mX7 h19 h20 h21 h22 h23 h24 h25 v18)), (h19, zi k19 40 f19), (h20, zi k20 40 f20), (h21, zi k21 40 f21), (h22, zi k22 40 f22), (h23, zi k23 40 f23), (h25, zi k25 270 f25), (h1, .inr (9, mX9 h2 h3 v1)), (h2, zi k2 600 f2)] ∧ va_S A s.heap H locs ∧ lv_has ls 4 [(0, .ref h0), (1, .int x1), (2, .int x2), (3, .int x3)] := ⟨hP, hD, hS, lv_sub hl [0, 1, 2, 3] rfl⟩
      exact hJ17 H locs ls (fun i => ([(v0 4), (v0 7)] : List (Int32)).getD i 0) (fun _ => 0) (fun _ => (fun _ => 0)) (fun _ => (fun _ => 0)) hc
    · skip
      have b_ := zF_ne rfl rfl c_
      refine lv_aload_n hx hb dX4_closePhrase_11 rfl (lv_at hl 0 rfl) ?_
      refine lv_iconst (v := 1) hx hb dX4_closePhrase_12 (by decide) ?_
      refine lv_iload_n hx hb dX4_closePhrase_13 rfl (lv_at hl 2 rfl) ?_
      have hPc := hP.sub (ws' := [(h0, .inr (4, mX4 h1 h4 h11 h18 v0))]) [0] rfl
      have hDc := hD.sub (ws' := [(h0, .inr (4, mX4 h1 h4 h11 h18 v0))]) [0] (by decide) rfl
      have hKc := hK.sub (tys' := []) [] rfl
      have hFc := va_free (wc := [(h0, .inr (4, mX4 h1 h4 h11 h18 v0))]) hD hS hA [0] rfl
      refine va_callv (va_runV (As := [.int 1, .int x2]) (rest := []) ⟨hx, hb, hml, hown, hG⟩ (sX4_fail_0 l dC dI adK adV h0 h1 h4 h11 h18 H.size v0 1 x2 hv0) (cwV 2 hG (zgV zv1021 zv1023 zv13 zv137 zv1024) rfl rfl rfl (by decide +kernel) ⟨Nat.le_of_ble_eq_true rfl, Nat.le_of_ble_eq_true rfl⟩) ⟨zPc_blind, va_recv hKc hPc (ci := 4) (q0 := 0) rfl rfl, zPc_pre hPc hKc hDc hE hS hFc hZ⟩ rfl rfl hl.1 rfl (lv_room (Nat.le_of_ble_eq_true rfl)) dX4_closePhrase_14 ⟨Nat.le_of_ble_eq_true rfl, Nat.le_of_ble_eq_true rfl⟩) hS (fun q _ h => hFc q h) hFc (fun u14_ t H1 locs ht hvm hw hB hz1 hk1 hS => ?_)
      replace hw : (265 ≤ (u14_ 0).toInt ∧ (u14_ 0).toInt ≤ 265) := hw
      have b_ := hw
      obtain ⟨w14_, a14_, b14_, hP1, hK1, hD1⟩ := hB
      rw [ht] at hP1
      obtain ⟨hP, hD⟩ := va_join (wr := [(h18, .inr (7, mX7 h19 h20 h21 h22 h23 h24 h25 v18)), (h19, zi k19 40 f19), (h20, zi k20 40 f20), (h21, zi k21 40 f21), (h22, zi k22 40 f22), (h23, zi k23 40 f23), (h25, zi k25 270 f25), (h1, .inr (9, mX9 h2 h3 v1)), (h2, zi k2 600 f2)]) (w1 := [(h0, .inr (4, mX4 h1 h4 h11 h18 (upd (upd v0 4 (u14_ 0)) 7 (u14_ 1))))]) hP hD [0] [1, 2, 3, 4, 5, 6, 7, 8, 9] rfl rfl (by decide) (by decide) hk1 hFc hP1 hD1
      have hP : va_P (dC, dI) vwCl [(h0, .inr (4, mX4 h1 h4 h11 h18 (upd (upd v0 4 (u14_ 0)) 7 (u14_ 1)))), (h18, .inr (7, mX7 h19 h20 h21 h22 h23 h24 h25 v18)), (h19, zi k19 40 f19), (h20, zi k20 40 f20), (h21, zi k21 40 f21), (h22, zi k22 40 f22), (h23, zi k23 40 f23), (h25, zi k25 270 f25), (h1, .inr (9, mX9 h2 h3 v1)), (h2, zi k2 600 f2)] H1 := hP.sub [9, 0, 1, 2, 3, 4, 5, 6, 7, 8] rfl
      have hD : va_D A [(h0, .inr (4, mX4 h1 h4 h11 h18 (upd (upd v0 4 (u14_ 0)) 7 (u14_ 1)))), (h18, .inr (7, mX7 h19 h20 h21 h22 h23 h24 h25 v18)), (h19, zi k19 40 f19), (h20, zi k20 40 f20), (h21, zi k21 40 f21), (h22, zi k22 40 f22), (h23, zi k23 40 f23), (h25, zi k25 270 f25), (h1, .inr (9, mX9 h2 h3 v1)), (h2, zi k2 600 f2)] := hD.sub [9, 0, 1, 2, 3, 4, 5, 6, 7, 8] (by decide) rfl
      generalize H1 = H at hP hS ⊢
      clear hz1
      have hc : va_P (dC, dI) vwCl [(h0, .inr (4, mX4 h1 h4 h11 h18 (upd (upd v0 4 (u14_ 0)) 7 (u14_ 1)))), (h18, .inr (7, mX7 h19 h20 h21 h22 h23 h24 h25 v18)), (h19, zi k19 40 f19), (h20, zi k20 40 f20), (h21, zi k21 40 f21), (h22, zi k22 40 f22), (h23, zi k23 40 f23), (h25, zi k25 270 f25), (h1, .inr (9, mX9 h2 h3 v1)), (h2, zi k2 600 f2)] H ∧ va_D A [(h0, .inr (4, mX4 h1 h4 h11 h18 (upd (upd v0 4 (u14_ 0)) 7 (u14_ 1)))), (h18, .inr (7, mX7 h19 h20 h21 h22 h23 h24 h25 v18)), (h19, zi k19 40 f19), (h20, zi k20 40 f20), (h21, zi k21 40 f21), (h22, zi k22 40 f22), (h23, zi k23 40 f23), (h25, zi k25 270 f25), (h1, .inr (9, mX9 h2 h3 v1)), (h2, zi k2 600 f2)] ∧ va_S A s.heap H locs ∧ lv_has ls 4 [(0, .ref h0), (1, .int x1), (2, .int x2), (3, .int x3)] := ⟨hP, hD, hS, lv_sub hl [0, 1, 2, 3] rfl⟩
      exact hJ17 H locs ls (fun i => ([(u14_ 0), (u14_ 1)] : List (Int32)).getD i 0) (fun _ => 0) (fun _ => (fun _ => 0)) (fun _ => (fun _ => 0)) hc
set_option maxHeartbeats 8000000 in
set_option maxRecDepth 100000 in
theorem sX4_wantedWord_0 (l : Launch) (dC : Nat → ClassId) (dI : Nat → Nat → Nat) (adK adV : Nat → Nat) (h0 : Nat) (h1 : Nat) (h2 : Nat) (h3 : Nat) (h11 : Nat) (h12 : Nat) (h4 : Nat) (h5 : Nat) (h18 : Nat) (h13 : Nat) (h14 : Nat) (h15 : Nat) (h16 : Nat) (h17 : Nat) (h6 : Nat) (h7 : Nat) (h8 : Nat) (h9 : Nat) (h10 : Nat) (k2 : ClassId) (k3 : ClassId) (k12 : ClassId) (k5 : ClassId) (sz : Nat) (v0 : Nat → Int32) (v1 : Nat → Int32) (f2 : Nat → Int32) (f3 : Nat → Int32) (v11 : Nat → Int32) (f12 : Nat → Int64) (v4 : Nat → Int32) (f5 : Nat → Int64) (x1 : Int32) (hv0 : zR rg_Parser v0) (hv1 : zR rg_Tape v1) (hv11 : zR rg_Words10 v11) (hv4 : zR rg_Words400 v4) : Met l yX4_wantedWord (zw yX4_wantedWord cX4_wantedWord 5 (some .int)) { frames := 7, cells := 0, slots := 0, locals := 149 } (zPc dC dI adK adV [.ref h0, .int x1] sz [(h0, .inr (4, mX4 h1 h4 h11 h18 v0)), (h1, .inr (9, mX9 h2 h3 v1)), (h2, zi k2 600 f2), (h3, zi k3 12 f3), (h11, .inr (10, mX10 h12 h13 h14 h15 h16 h17 v11)), (h12, .inl (k12, 10, .inr (.inl f12))), (h4, .inr (10, mX10 h5 h6 h7 h8 h9 h10 v4)), (h5, .inl (k5, 400, .inr (.inl f5)))] [(k2, .byte), (k3, .byte), (k12, .long), (k5, .long)]) (va_Qi (fun (r : Int32) (u : Nat → Int32) => ((-3) ≤ r.toInt ∧ r.toInt ≤ 399) ∧ (0 ≤ (u 0).toInt ∧ (u 0).toInt ≤ 12)) (fun (u : Nat → Int32) (t : State) => ∃ (ww : Nat → Int64) (aa : Nat → Nat → Int32) (bb : Nat → Nat → Int64), va_P (dC, dI) vwCl [(h0, .inr (4, mX4 h1 h4 h11 h18 v0)), (h1, .inr (9, mX9 h2 h3 (upd v1 3 (u 0)))), (h2, zi k2 600 f2), (h3, zi k3 12 (aa 0)), (h11, .inr (10, mX10 h12 h13 h14 h15 h16 h17 v11)), (h12, .inl (k12, 10, .inr (.inl f12))), (h4, .inr (10, mX10 h5 h6 h7 h8 h9 h10 v4)), (h5, .inl (k5, 400, .inr (.inl f5)))] t.heap ∧ va_K (dC, dI) vwCl [(k2, .byte), (k3, .byte), (k12, .long), (k5, .long)] t ∧ va_D (va_A [(h0, .inr (4, mX4 h1 h4 h11 h18 v0)), (h1, .inr (9, mX9 h2 h3 v1)), (h2, zi k2 600 f2), (h3, zi k3 12 f3), (h11, .inr (10, mX10 h12 h13 h14 h15 h16 h17 v11)), (h12, .inl (k12, 10, .inr (.inl f12))), (h4, .inr (10, mX10 h5 h6 h7 h8 h9 h10 v4)), (h5, .inl (k5, 400, .inr (.inl f5)))] sz) [(h0, .inr (4, mX4 h1 h4 h11 h18 v0)), (h1, .inr (9, mX9 h2 h3 (upd v1 3 (u 0)))), (h2, zi k2 600 f2), (h3, zi k3 12 (aa 0)), (h11, .inr (10, mX10 h12 h13 h14 h15 h16 h17 v11)), (h12, .inl (k12, 10, .inr (.inl f12))), (h4, .inr (10, mX10 h5 h6 h7 h8 h9 h10 v4)), (h5, .inl (k5, 400, .inr (.inl f5)))]) (va_A [(h0, .inr (4, mX4 h1 h4 h11 h18 v0)), (h1, .inr (9, mX9 h2 h3 v1)), (h2, zi k2 600 f2), (h3, zi k3 12 f3), (h11, .inr (10, mX10 h12 h13 h14 h15 h16 h17 v11)), (h12, .inl (k12, 10, .inr (.inl f12))), (h4, .inr (10, mX10 h5 h6 h7 h8 h9 h10 v4)), (h5, .inl (k5, 400, .inr (.inl f5)))] sz)) 0 0 (va_A [(h0, .inr (4, mX4 h1 h4 h11 h18 v0)), (h1, .inr (9, mX9 h2 h3 v1)), (h2, zi k2 600 f2), (h3, zi k3 12 f3), (h11, .inr (10, mX10 h12 h13 h14 h15 h16 h17 v11)), (h12, .inl (k12, 10, .inr (.inl f12))), (h4, .inr (10, mX10 h5 h6 h7 h8 h9 h10 v4)), (h5, .inl (k5, 400, .inr (.inl f5)))] sz) := by
  refine Met.ofW (cc := cX4_wantedWord) (maxL := 5) (ret := (some .int)) (by decide) rfl ?_
  intro p e s m args below meth c s₁ B hml hv
  obtain ⟨rfl, hsz, hP, hK, hD0, hE, hZ⟩ := hv
  have hx := B.exec
  have hb := B.bytes
  have hr := B.returns
  have hG : ∀ w ∈ zG, w.before _ s = true := fun w h => atoms_spec (ws := (zw yX4_wantedWord cX4_wantedWord 5 (some .int))) B.pre w (List.mem_cons_of_mem _ h)
  have hown : s.vm.findClass RX4 = some m.cls := findClass_of_methodNamed B.named
  have hlocks := B.notSynchronized

  subst hsz
  have hD := hD0.self (sz := s.heap.size)
  generalize hAe : va_A [(h0, .inr (4, mX4 h1 h4 h11 h18 v0)), (h1, .inr (9, mX9 h2 h3 v1)), (h2, zi k2 600 f2), (h3, zi k3 12 f3), (h11, .inr (10, mX10 h12 h13 h14 h15 h16 h17 v11)), (h12, .inl (k12, 10, .inr (.inl f12))), (h4, .inr (10, mX10 h5 h6 h7 h8 h9 h10 v4)), (h5, .inl (k5, 400, .inr (.inl f5)))] s.heap.size = A at hD hZ ⊢
  have hA : ∀ q : Nat, s.heap.size ≤ q → A q := fun q h => by rw [← hAe]; exact Or.inr h
  have hS : va_S A s.heap s.heap [] := va_S.rf
  have hl := lv_entry ([.ref h0, .int x1]) (n := 5) (Nat.le_of_ble_eq_true rfl)
  rw [lg_entry_eq]
  generalize (lg_sl ([.ref h0, .int x1]) ++ List.replicate (5 - (lg_sl ([.ref h0, .int x1])).length) Slot.unset).toArray = ls at hl ⊢
  have hl : lv_has ls 5 [(0, .ref h0), (1, .int x1)] := hl
  have b_ := zk_m3
  have b_ := zk_m2
  refine lv_aload_n hx hb dX4_wantedWord_0 rfl (lv_at hl 0 rfl) ?_
  refine va_get (D := (dC, dI)) (ci := 4) (v := .ref h1) (C := RX4) (T := TX4) (N := 12) hx hb hG zuX4 hown hK hP 0 rfl rfl 0 (by decide) (hG _ zv408) (fun _ h9 => h9) rfl dX4_wantedWord_1 ?_
  refine lv_iload_n hx hb dX4_wantedWord_4 rfl (lv_at hl 1 rfl) ?_
  have hPc := hP.sub (ws' := [(h1, .inr (9, mX9 h2 h3 v1)), (h2, zi k2 600 f2), (h3, zi k3 12 f3)]) [1, 2, 3] rfl
  have hDc := hD.sub (ws' := [(h1, .inr (9, mX9 h2 h3 v1)), (h2, zi k2 600 f2), (h3, zi k3 12 f3)]) [1, 2, 3] (by decide) rfl
  have hKc := hK.sub (tys' := [(k2, .byte), (k3, .byte)]) [0, 1] rfl
  have hFc := va_free (wc := [(h1, .inr (9, mX9 h2 h3 v1)), (h2, zi k2 600 f2), (h3, zi k3 12 f3)]) hD hS hA [1, 2, 3] rfl
  refine va_calll (va_runV (As := [.int x1]) (rest := []) ⟨hx, hb, hml, hown, hG⟩ (sX9_wordOf_0 l dC dI adK adV h1 h2 h3 k2 k3 s.heap.size v1 f2 f3 x1 hv1) (cwV 1 hG (zgV zv1135 zv653 zv654 zv130 zv655) rfl rfl rfl (by decide +kernel) ⟨Nat.le_of_ble_eq_true rfl, Nat.le_of_ble_eq_true rfl⟩) ⟨zPc_blind, va_recv hKc hPc (ci := 9) (q0 := 0) rfl rfl, zPc_pre hPc hKc hDc hE hS hFc hZ⟩ rfl rfl hl.1 rfl (lv_room (Nat.le_of_ble_eq_true rfl)) dX4_wantedWord_5 ⟨Nat.le_of_ble_eq_true rfl, Nat.le_of_ble_eq_true rfl⟩) hS (fun q _ h => hFc q h) hFc (fun r5_ u5_ t H1 locs ht hvm hw hB hz1 hk1 hS => ?_)
  replace hw : (0 ≤ (u5_ 0).toInt ∧ (u5_ 0).toInt ≤ 12) ∧ (0 ≤ x1.toInt → x1.toInt ≤ 600 → ∃ m : Nat, zRaw f2 (v1 2).toInt x1.toInt m ∧ r5_.toInt = zWrd f2 x1.toInt m) := hw
  obtain ⟨b_, hX5_0⟩ := hw
  obtain ⟨w5_, a5_, b5_, hP1, hK1, hD1⟩ := hB
  rw [ht] at hP1
  obtain ⟨hP, hD⟩ := va_join (wr := [(h0, .inr (4, mX4 h1 h4 h11 h18 v0)), (h11, .inr (10, mX10 h12 h13 h14 h15 h16 h17 v11)), (h12, .inl (k12, 10, .inr (.inl f12))), (h4, .inr (10, mX10 h5 h6 h7 h8 h9 h10 v4)), (h5, .inl (k5, 400, .inr (.inl f5)))]) (w1 := [(h1, .inr (9, mX9 h2 h3 (upd v1 3 (u5_ 0)))), (h2, zi k2 600 f2), (h3, zi k3 12 (a5_ 0))]) hP hD [1, 2, 3] [0, 4, 5, 6, 7] rfl rfl (by decide) (by decide) hk1 hFc hP1 hD1
  have hP : va_P (dC, dI) vwCl [(h0, .inr (4, mX4 h1 h4 h11 h18 v0)), (h1, .inr (9, mX9 h2 h3 (upd v1 3 (u5_ 0)))), (h2, zi k2 600 f2), (h3, zi k3 12 (a5_ 0)), (h11, .inr (10, mX10 h12 h13 h14 h15 h16 h17 v11)), (h12, .inl (k12, 10, .inr (.inl f12))), (h4, .inr (10, mX10 h5 h6 h7 h8 h9 h10 v4)), (h5, .inl (k5, 400, .inr (.inl f5)))] H1 := hP.sub [0, 5, 6, 7, 1, 2, 3, 4] rfl
  have hD : va_D A [(h0, .inr (4, mX4 h1 h4 h11 h18 v0)), (h1, .inr (9, mX9 h2 h3 (upd v1 3 (u5_ 0)))), (h2, zi k2 600 f2), (h3, zi k3 12 (a5_ 0)), (h11, .inr (10, mX10 h12 h13 h14 h15 h16 h17 v11)), (h12, .inl (k12, 10, .inr (.inl f12))), (h4, .inr (10, mX10 h5 h6 h7 h8 h9 h10 v4)), (h5, .inl (k5, 400, .inr (.inl f5)))] := hD.sub [0, 5, 6, 7, 1, 2, 3, 4] (by decide) rfl
  generalize H1 = H at hP hS ⊢
  clear hz1
  refine lv_lstore_n (lv' := [(2, .long r5_), (0, .ref h0), (1, .int x1)]) hx hb dX4_wantedWord_8 rfl hl (by decide) rfl (fun ls hl => ?_)
  refine lv_aload_n hx hb dX4_wantedWord_9 rfl (lv_at hl 1 rfl) ?_
  refine va_get (D := (dC, dI)) (ci := 4) (v := .ref h11) (C := RX4) (T := TX4) (N := 12) hx hb hG zuX4 hown hK hP 0 rfl rfl 2 (by decide) (hG _ zv410) (fun _ h9 => h9) rfl dX4_wantedWord_10 ?_
  refine lv_lload_n hx hb dX4_wantedWord_13 rfl (lv_at hl 0 rfl) ?_
  have hPc := hP.sub (ws' := [(h11, .inr (10, mX10 h12 h13 h14 h15 h16 h17 v11)), (h12, .inl (k12, 10, .inr (.inl f12)))]) [4, 5] rfl
  have hDc := hD.sub (ws' := [(h11, .inr (10, mX10 h12 h13 h14 h15 h16 h17 v11)), (h12, .inl (k12, 10, .inr (.inl f12)))]) [4, 5] (by decide) rfl
  have hKc := hK.sub (tys' := [(k12, .long)]) [2] rfl
  have hFc := va_free (wc := [(h11, .inr (10, mX10 h12 h13 h14 h15 h16 h17 v11)), (h12, .inl (k12, 10, .inr (.inl f12)))]) hD hS hA [4, 5] rfl
  refine va_calli (va_runV (As := [.long r5_]) (rest := []) ⟨hx, hb, hml, hown, hG⟩ (sX10_rankOf_0 l dC dI adK adV h11 h12 h13 h14 h15 h16 h17 k12 H.size v11 f12 r5_ hv11) (cwV 1 hG (zgV zv1136 zv740 zv741 zv131 zv742) rfl rfl rfl (by decide +kernel) ⟨Nat.le_of_ble_eq_true rfl, Nat.le_of_ble_eq_true rfl⟩) ⟨zPc_blind, va_recv hKc hPc (ci := 10) (q0 := 0) rfl rfl, zPc_pre hPc hKc hDc hE hS hFc hZ⟩ rfl rfl hl.1 rfl (lv_room (Nat.le_of_ble_eq_true rfl)) dX4_wantedWord_14 ⟨Nat.le_of_ble_eq_true rfl, Nat.le_of_ble_eq_true rfl⟩) hS (fun q _ h => hFc q h) hFc (fun r14_ u14_ t H1 locs ht hvm hw hB hz1 hk1 hS => ?_)
  replace hw : ((-1) ≤ r14_.toInt ∧ r14_.toInt ≤ 9) ∧ (r14_.toInt < (v11 7).toInt) ∧ (zRf f12 (v11 7).toInt r5_.toInt r14_.toInt) := hw
  obtain ⟨b_, hX14_0, hX14_1⟩ := hw
  obtain ⟨w14_, a14_, b14_, hP1, hK1, hD1⟩ := hB
  rw [ht] at hP1
  obtain ⟨hP, hD⟩ := va_join (wr := [(h0, .inr (4, mX4 h1 h4 h11 h18 v0)), (h1, .inr (9, mX9 h2 h3 (upd v1 3 (u5_ 0)))), (h2, zi k2 600 f2), (h3, zi k3 12 (a5_ 0)), (h4, .inr (10, mX10 h5 h6 h7 h8 h9 h10 v4)), (h5, .inl (k5, 400, .inr (.inl f5)))]) (w1 := [(h11, .inr (10, mX10 h12 h13 h14 h15 h16 h17 v11)), (h12, .inl (k12, 10, .inr (.inl f12)))]) hP hD [4, 5] [0, 1, 2, 3, 6, 7] rfl rfl (by decide) (by decide) hk1 hFc hP1 hD1
  have hP : va_P (dC, dI) vwCl [(h0, .inr (4, mX4 h1 h4 h11 h18 v0)), (h1, .inr (9, mX9 h2 h3 (upd v1 3 (u5_ 0)))), (h2, zi k2 600 f2), (h3, zi k3 12 (a5_ 0)), (h11, .inr (10, mX10 h12 h13 h14 h15 h16 h17 v11)), (h12, .inl (k12, 10, .inr (.inl f12))), (h4, .inr (10, mX10 h5 h6 h7 h8 h9 h10 v4)), (h5, .inl (k5, 400, .inr (.inl f5)))] H1 := hP.sub [0, 1, 2, 3, 6, 7, 4, 5] rfl
  have hD : va_D A [(h0, .inr (4, mX4 h1 h4 h11 h18 v0)), (h1, .inr (9, mX9 h2 h3 (upd v1 3 (u5_ 0)))), (h2, zi k2 600 f2), (h3, zi k3 12 (a5_ 0)), (h11, .inr (10, mX10 h12 h13 h14 h15 h16 h17 v11)), (h12, .inl (k12, 10, .inr (.inl f12))), (h4, .inr (10, mX10 h5 h6 h7 h8 h9 h10 v4)), (h5, .inl (k5, 400, .inr (.inl f5)))] := hD.sub [0, 1, 2, 3, 6, 7, 4, 5] (by decide) rfl
  generalize H1 = H at hP hS ⊢
  clear hz1
  refine lv_iconst (v := (-1)) hx hb dX4_wantedWord_17 (by decide) ?_
  refine lv_icmp_eq (tgt := 24) hx hb dX4_wantedWord_18 (by decide) (fun c_ => ?_) (fun c_ => ?_)
  · skip
    have b_ := zT_eq rfl zk_m1 c_
    refine lv_aload_n hx hb dX4_wantedWord_24 rfl (lv_at hl 1 rfl) ?_
    refine va_get (D := (dC, dI)) (ci := 4) (v := .ref h4) (C := RX4) (T := TX4) (N := 12) hx hb hG zuX4 hown hK hP 0 rfl rfl 1 (by decide) (hG _ zv409) (fun _ h9 => h9) rfl dX4_wantedWord_25 ?_
    refine lv_lload_n hx hb dX4_wantedWord_28 rfl (lv_at hl 0 rfl) ?_
    have hPc := hP.sub (ws' := [(h4, .inr (10, mX10 h5 h6 h7 h8 h9 h10 v4)), (h5, .inl (k5, 400, .inr (.inl f5)))]) [6, 7] rfl
    have hDc := hD.sub (ws' := [(h4, .inr (10, mX10 h5 h6 h7 h8 h9 h10 v4)), (h5, .inl (k5, 400, .inr (.inl f5)))]) [6, 7] (by decide) rfl
    have hKc := hK.sub (tys' := [(k5, .long)]) [3] rfl
    have hFc := va_free (wc := [(h4, .inr (10, mX10 h5 h6 h7 h8 h9 h10 v4)), (h5, .inl (k5, 400, .inr (.inl f5)))]) hD hS hA [6, 7] rfl
    refine va_calli (va_runV (As := [.long r5_]) (rest := []) ⟨hx, hb, hml, hown, hG⟩ (sX10_rankOf_1 l dC dI adK adV h4 h5 h6 h7 h8 h9 h10 k5 H.size v4 f5 r5_ hv4) (cwV 1 hG (zgV zv1136 zv740 zv741 zv131 zv742) rfl rfl rfl (by decide +kernel) ⟨Nat.le_of_ble_eq_true rfl, Nat.le_of_ble_eq_true rfl⟩) ⟨zPc_blind, va_recv hKc hPc (ci := 10) (q0 := 0) rfl rfl, zPc_pre hPc hKc hDc hE hS hFc hZ⟩ rfl rfl hl.1 rfl (lv_room (Nat.le_of_ble_eq_true rfl)) dX4_wantedWord_29 ⟨Nat.le_of_ble_eq_true rfl, Nat.le_of_ble_eq_true rfl⟩) hS (fun q _ h => hFc q h) hFc (fun r29_ u29_ t H1 locs ht hvm hw hB hz1 hk1 hS => ?_)
    replace hw : ((-1) ≤ r29_.toInt ∧ r29_.toInt ≤ 399) ∧ (r29_.toInt < (v4 7).toInt) ∧ (zRf f5 (v4 7).toInt r5_.toInt r29_.toInt) := hw
    obtain ⟨b_, hX29_0, hX29_1⟩ := hw
    obtain ⟨w29_, a29_, b29_, hP1, hK1, hD1⟩ := hB
    rw [ht] at hP1
    obtain ⟨hP, hD⟩ := va_join (wr := [(h0, .inr (4, mX4 h1 h4 h11 h18 v0)), (h1, .inr (9, mX9 h2 h3 (upd v1 3 (u5_ 0)))), (h2, zi k2 600 f2), (h3, zi k3 12 (a5_ 0)), (h11, .inr (10, mX10 h12 h13 h14 h15 h16 h17 v11)), (h12, .inl (k12, 10, .inr (.inl f12)))]) (w1 := [(h4, .inr (10, mX10 h5 h6 h7 h8 h9 h10 v4)), (h5, .inl (k5, 400, .inr (.inl f5)))]) hP hD [6, 7] [0, 1, 2, 3, 4, 5] rfl rfl (by decide) (by decide) hk1 hFc hP1 hD1
    have hP : va_P (dC, dI) vwCl [(h0, .inr (4, mX4 h1 h4 h11 h18 v0)), (h1, .inr (9, mX9 h2 h3 (upd v1 3 (u5_ 0)))), (h2, zi k2 600 f2), (h3, zi k3 12 (a5_ 0)), (h11, .inr (10, mX10 h12 h13 h14 h15 h16 h17 v11)), (h12, .inl (k12, 10, .inr (.inl f12))), (h4, .inr (10, mX10 h5 h6 h7 h8 h9 h10 v4)), (h5, .inl (k5, 400, .inr (.inl f5)))] H1 := hP.sub [0, 1, 2, 3, 4, 5, 6, 7] rfl
    have hD : va_D A [(h0, .inr (4, mX4 h1 h4 h11 h18 v0)), (h1, .inr (9, mX9 h2 h3 (upd v1 3 (u5_ 0)))), (h2, zi k2 600 f2), (h3, zi k3 12 (a5_ 0)), (h11, .inr (10, mX10 h12 h13 h14 h15 h16 h17 v11)), (h12, .inl (k12, 10, .inr (.inl f12))), (h4, .inr (10, mX10 h5 h6 h7 h8 h9 h10 v4)), (h5, .inl (k5, 400, .inr (.inl f5)))] := hD.sub [0, 1, 2, 3, 4, 5, 6, 7] (by decide) rfl
    generalize H1 = H at hP hS ⊢
    clear hz1
    refine lv_istore (lv' := [(4, .int r29_), (2, .long r5_), (0, .ref h0), (1, .int x1)]) hx hb dX4_wantedWord_32 hl (by decide) rfl (fun ls hl => ?_)
    refine lv_iload hx hb dX4_wantedWord_34 (lv_at hl 0 rfl) ?_
    refine lv_iconst (v := (-1)) hx hb dX4_wantedWord_36 (by decide) ?_
    refine lv_icmp_ne (tgt := 45) hx hb dX4_wantedWord_37 (by decide) (fun c_ => ?_) (fun c_ => ?_)
    · skip
      have b_ := zT_ne rfl zk_m1 c_
      refine lv_iload hx hb dX4_wantedWord_45 (lv_at hl 0 rfl) ?_
      refine W.widen (k := 0) (n := 0) (by decide) (by decide) ?_
      have hpost : ((-3) ≤ r29_.toInt ∧ r29_.toInt ≤ 399) ∧ (0 ≤ (u5_ 0).toInt ∧ (u5_ 0).toInt ≤ 12) := ⟨(by first | with_reducible assumption | exact ⟨by omega, by omega⟩), (by first | with_reducible assumption | exact ⟨by omega, by omega⟩)⟩
      have hP9 : va_P (dC, dI) vwCl [(h0, .inr (4, mX4 h1 h4 h11 h18 v0)), (h1, .inr (9, mX9 h2 h3 (upd v1 3 (u5_ 0)))), (h2, zi k2 600 f2), (h3, zi k3 12 (a5_ 0)), (h11, .inr (10, mX10 h12 h13 h14 h15 h16 h17 v11)), (h12, .inl (k12, 10, .inr (.inl f12))), (h4, .inr (10, mX10 h5 h6 h7 h8 h9 h10 v4)), (h5, .inl (k5, 400, .inr (.inl f5)))] H := hP
      have hD9 : va_D A [(h0, .inr (4, mX4 h1 h4 h11 h18 v0)), (h1, .inr (9, mX9 h2 h3 (upd v1 3 (u5_ 0)))), (h2, zi k2 600 f2), (h3, zi k3 12 (a5_ 0)), (h11, .inr (10, mX10 h12 h13 h14 h15 h16 h17 v11)), (h12, .inl (k12, 10, .inr (.inl f12))), (h4, .inr (10, mX10 h5 h6 h7 h8 h9 h10 v4)), (h5, .inl (k5, 400, .inr (.inl f5)))] := hD
      exact W.iret (v := r29_) hx hb hr (fun t ht hW => ⟨⟨r29_, (fun i => ([(u5_ 0)] : List (Int32)).getD i 0), rfl, hpost, (fun _ => 0), (fun i => ([(a5_ 0)] : List (Nat → Int32)).getD i (fun _ => 0)), (fun _ => (fun _ => 0)), by rw [ht]; exact hP9, va_K.moved hW.alike hK, hD9⟩, hS.F ht⟩) hS.2.2 dX4_wantedWord_47
    · skip
      have b_ := zF_ne rfl zk_m1 c_
      refine lv_bipush (v := (-3)) hx hb dX4_wantedWord_40 (by decide) ?_
      refine lv_goto (tgt := 47) hx hb dX4_wantedWord_42 (by decide) ?_
      refine W.widen (k := 0) (n := 0) (by decide) (by decide) ?_
      have hpost : ((-3) ≤ ((-3) : Int32).toInt ∧ ((-3) : Int32).toInt ≤ 399) ∧ (0 ≤ (u5_ 0).toInt ∧ (u5_ 0).toInt ≤ 12) := ⟨(by first | with_reducible assumption | exact ⟨by omega, by omega⟩), (by first | with_reducible assumption | exact ⟨by omega, by omega⟩)⟩
      have hP9 : va_P (dC, dI) vwCl [(h0, .inr (4, mX4 h1 h4 h11 h18 v0)), (h1, .inr (9, mX9 h2 h3 (upd v1 3 (u5_ 0)))), (h2, zi k2 600 f2), (h3, zi k3 12 (a5_ 0)), (h11, .inr (10, mX10 h12 h13 h14 h15 h16 h17 v11)), (h12, .inl (k12, 10, .inr (.inl f12))), (h4, .inr (10, mX10 h5 h6 h7 h8 h9 h10 v4)), (h5, .inl (k5, 400, .inr (.inl f5)))] H := hP
      have hD9 : va_D A [(h0, .inr (4, mX4 h1 h4 h11 h18 v0)), (h1, .inr (9, mX9 h2 h3 (upd v1 3 (u5_ 0)))), (h2, zi k2 600 f2), (h3, zi k3 12 (a5_ 0)), (h11, .inr (10, mX10 h12 h13 h14 h15 h16 h17 v11)), (h12, .inl (k12, 10, .inr (.inl f12))), (h4, .inr (10, mX10 h5 h6 h7 h8 h9 h10 v4)), (h5, .inl (k5, 400, .inr (.inl f5)))] := hD
      exact W.iret (v := (-3)) hx hb hr (fun t ht hW => ⟨⟨(-3), (fun i => ([(u5_ 0)] : List (Int32)).getD i 0), rfl, hpost, (fun _ => 0), (fun i => ([(a5_ 0)] : List (Nat → Int32)).getD i (fun _ => 0)), (fun _ => (fun _ => 0)), by rw [ht]; exact hP9, va_K.moved hW.alike hK, hD9⟩, hS.F ht⟩) hS.2.2 dX4_wantedWord_47
  · skip
    have b_ := zF_eq rfl zk_m1 c_
    refine lv_bipush (v := (-2)) hx hb dX4_wantedWord_21 (by decide) ?_
    refine W.widen (k := 0) (n := 0) (by decide) (by decide) ?_
    have hpost : ((-3) ≤ ((-2) : Int32).toInt ∧ ((-2) : Int32).toInt ≤ 399) ∧ (0 ≤ (u5_ 0).toInt ∧ (u5_ 0).toInt ≤ 12) := ⟨(by first | with_reducible assumption | exact ⟨by omega, by omega⟩), (by first | with_reducible assumption | exact ⟨by omega, by omega⟩)⟩
    have hP9 : va_P (dC, dI) vwCl [(h0, .inr (4, mX4 h1 h4 h11 h18 v0)), (h1, .inr (9, mX9 h2 h3 (upd v1 3 (u5_ 0)))), (h2, zi k2 600 f2), (h3, zi k3 12 (a5_ 0)), (h11, .inr (10, mX10 h12 h13 h14 h15 h16 h17 v11)), (h12, .inl (k12, 10, .inr (.inl f12))), (h4, .inr (10, mX10 h5 h6 h7 h8 h9 h10 v4)), (h5, .inl (k5, 400, .inr (.inl f5)))] H := hP
    have hD9 : va_D A [(h0, .inr (4, mX4 h1 h4 h11 h18 v0)), (h1, .inr (9, mX9 h2 h3 (upd v1 3 (u5_ 0)))), (h2, zi k2 600 f2), (h3, zi k3 12 (a5_ 0)), (h11, .inr (10, mX10 h12 h13 h14 h15 h16 h17 v11)), (h12, .inl (k12, 10, .inr (.inl f12))), (h4, .inr (10, mX10 h5 h6 h7 h8 h9 h10 v4)), (h5, .inl (k5, 400, .inr (.inl f5)))] := hD
    exact W.iret (v := (-2)) hx hb hr (fun t ht hW => ⟨⟨(-2), (fun i => ([(u5_ 0)] : List (Int32)).getD i 0), rfl, hpost, (fun _ => 0), (fun i => ([(a5_ 0)] : List (Nat → Int32)).getD i (fun _ => 0)), (fun _ => (fun _ => 0)), by rw [ht]; exact hP9, va_K.moved hW.alike hK, hD9⟩, hS.F ht⟩) hS.2.2 dX4_wantedWord_23
set_option maxHeartbeats 8000000 in
set_option maxRecDepth 100000 in
theorem sX7_addPhraseWord_0 (l : Launch) (dC : Nat → ClassId) (dI : Nat → Nat → Nat) (adK adV : Nat → Nat) (h0 : Nat) (h6 : Nat) (h1 : Nat) (h2 : Nat) (h3 : Nat) (h4 : Nat) (h5 : Nat) (h7 : Nat) (k6 : ClassId) (sz : Nat) (v0 : Nat → Int32) (f6 : Nat → Int32) (x1 : Int32) (hv0 : zR rg_Query v0) : Met l yX7_addPhraseWord (zw yX7_addPhraseWord cX7_addPhraseWord 2 none) { frames := 0, cells := 0, slots := 0, locals := 0 } (zPc dC dI adK adV [.ref h0, .int x1] sz [(h0, .inr (7, mX7 h1 h2 h3 h4 h5 h6 h7 v0)), (h6, zi k6 160 f6)] [(k6, .int)]) (va_Qv (fun (u : Nat → Int32) => (1 ≤ (u 0).toInt ∧ (u 0).toInt ≤ 160)) (fun (u : Nat → Int32) (t : State) => ∃ (ww : Nat → Int64) (aa : Nat → Nat → Int32) (bb : Nat → Nat → Int64), va_P (dC, dI) vwCl [(h0, .inr (7, mX7 h1 h2 h3 h4 h5 h6 h7 (upd v0 8 (u 0)))), (h6, zi k6 160 (aa 0))] t.heap ∧ va_K (dC, dI) vwCl [(k6, .int)] t ∧ va_D (va_A [(h0, .inr (7, mX7 h1 h2 h3 h4 h5 h6 h7 v0)), (h6, zi k6 160 f6)] sz) [(h0, .inr (7, mX7 h1 h2 h3 h4 h5 h6 h7 (upd v0 8 (u 0)))), (h6, zi k6 160 (aa 0))]) (va_A [(h0, .inr (7, mX7 h1 h2 h3 h4 h5 h6 h7 v0)), (h6, zi k6 160 f6)] sz)) 0 0 (va_A [(h0, .inr (7, mX7 h1 h2 h3 h4 h5 h6 h7 v0)), (h6, zi k6 160 f6)] sz) := by
  refine Met.ofW (cc := cX7_addPhraseWord) (maxL := 2) (ret := none) (by decide) rfl ?_
  intro p e s m args below meth c s₁ B hml hv
  obtain ⟨rfl, hsz, hP, hK, hD0, hE, hZ⟩ := hv
  have hx := B.exec
  have hb := B.bytes
  have hr := B.returns
  have hG : ∀ w ∈ zG, w.before _ s = true := fun w h => atoms_spec (ws := (zw yX7_addPhraseWord cX7_addPhraseWord 2 none)) B.pre w (List.mem_cons_of_mem _ h)
  have hown : s.vm.findClass RX7 = some m.cls := findClass_of_methodNamed B.named
  have hlocks := B.notSynchronized

  subst hsz
  have hD := hD0.self (sz := s.heap.size)
  generalize hAe : va_A [(h0, .inr (7, mX7 h1 h2 h3 h4 h5 h6 h7 v0)), (h6, zi k6 160 f6)] s.heap.size = A at hD hZ ⊢
  have hA : ∀ q : Nat, s.heap.size ≤ q → A q := fun q h => by rw [← hAe]; exact Or.inr h
  have hS : va_S A s.heap s.heap [] := va_S.rf
  have hl := lv_entry ([.ref h0, .int x1]) (n := 2) (Nat.le_of_ble_eq_true rfl)
  rw [lg_entry_eq]
  generalize (lg_sl ([.ref h0, .int x1]) ++ List.replicate (2 - (lg_sl ([.ref h0, .int x1])).length) Slot.unset).toArray = ls at hl ⊢
  have hl : lv_has ls 2 [(0, .ref h0), (1, .int x1)] := hl
  refine lv_aload_n hx hb dX7_addPhraseWord_0 rfl (lv_at hl 0 rfl) ?_
  have b_ : 0 ≤ (v0 8).toInt ∧ (v0 8).toInt ≤ 160 := hv0 8
  refine va_get (D := (dC, dI)) (ci := 7) (v := .int (v0 8)) (C := RX7) (T := TX7) (N := 12) hx hb hG zuX7 hown hK hP 0 rfl rfl 8 (by decide) (hG _ zv373) (fun _ h9 => h9) rfl dX7_addPhraseWord_1 ?_
  refine lv_sipush (v := 160) hx hb dX7_addPhraseWord_4 (by decide) ?_
  refine lv_icmp_ge (tgt := 30) hx hb dX7_addPhraseWord_7 (by decide) (fun c_ => ?_) (fun c_ => ?_)
  · skip
    have b_ := zT_ge rfl zk_160 c_
    refine W.widen (k := 0) (n := 0) (by decide) (by decide) ?_
    have hpost : (1 ≤ (v0 8).toInt ∧ (v0 8).toInt ≤ 160) := (by first | with_reducible assumption | exact ⟨by omega, by omega⟩)
    have hP9 : va_P (dC, dI) vwCl [(h0, .inr (7, mX7 h1 h2 h3 h4 h5 h6 h7 (upd v0 8 (v0 8)))), (h6, zi k6 160 f6)] s.heap := hP
    have hD9 : va_D A [(h0, .inr (7, mX7 h1 h2 h3 h4 h5 h6 h7 (upd v0 8 (v0 8)))), (h6, zi k6 160 f6)] := hD
    exact W.vret hx hb hr (fun t ht hW => ⟨⟨(fun i => ([(v0 8)] : List (Int32)).getD i 0), rfl, hpost, (fun _ => 0), (fun i => ([f6] : List (Nat → Int32)).getD i (fun _ => 0)), (fun _ => (fun _ => 0)), by rw [ht]; exact hP9, va_K.moved hW.alike hK, hD9⟩, hS.F ht⟩) hS.2.2 dX7_addPhraseWord_30
  · skip
    have b_ := zF_ge rfl zk_160 c_
    refine lv_aload_n hx hb dX7_addPhraseWord_10 rfl (lv_at hl 0 rfl) ?_
    refine va_get (D := (dC, dI)) (ci := 7) (v := .ref h6) (C := RX7) (T := TX7) (N := 12) hx hb hG zuX7 hown hK hP 0 rfl rfl 5 (by decide) (hG _ zv370) (fun _ h9 => h9) rfl dX7_addPhraseWord_11 ?_
    refine lv_aload_n hx hb dX7_addPhraseWord_14 rfl (lv_at hl 0 rfl) ?_
    refine va_get (D := (dC, dI)) (ci := 7) (v := .int (v0 8)) (C := RX7) (T := TX7) (N := 12) hx hb hG zuX7 hown hK hP 0 rfl rfl 8 (by decide) (hG _ zv373) (fun _ h9 => h9) rfl dX7_addPhraseWord_15 ?_
    refine lv_iload_n hx hb dX7_addPhraseWord_18 rfl (lv_at hl 1 rfl) ?_
    refine va_iast hx hb hK hP hD hS 1 0 rfl rfl (zin_lit ⟨by omega, by omega⟩) dX7_addPhraseWord_19 (fun H locs hP hD hS => ?_)
    obtain ⟨f_19, e_f_19⟩ : ∃ z : Nat → Int32, z = upd f6 ((v0 8) : Int32).toNatClampNeg x1 := ⟨_, rfl⟩
    have hP : va_P (dC, dI) vwCl [(h0, .inr (7, mX7 h1 h2 h3 h4 h5 h6 h7 v0)), (h6, zi k6 160 f_19)] H := by rw [e_f_19]; exact hP
    have hD : va_D A [(h0, .inr (7, mX7 h1 h2 h3 h4 h5 h6 h7 v0)), (h6, zi k6 160 f_19)] := by rw [e_f_19]; exact hD
    refine lv_aload_n hx hb dX7_addPhraseWord_20 rfl (lv_at hl 0 rfl) ?_
    refine lv_dup hx hb dX7_addPhraseWord_21 rfl ?_
    refine va_get (D := (dC, dI)) (ci := 7) (v := .int (v0 8)) (C := RX7) (T := TX7) (N := 12) hx hb hG zuX7 hown hK hP 0 rfl rfl 8 (by decide) (hG _ zv373) (fun _ h9 => h9) rfl dX7_addPhraseWord_22 ?_
    refine lv_iconst (v := 1) hx hb dX7_addPhraseWord_25 (by decide) ?_
    refine lv_iadd hx hb dX7_addPhraseWord_26 ?_
    refine lv_topi (fun z26 e_z26 => ?_)
    have b_ := zadd rfl zk_1 e_z26 (by omega) (by omega)
    refine va_put (D := (dC, dI)) (ci := 7) (v := .int z26) (ty := .int) (C := RX7) (T := TX7) (N := 12) hx hb hG zuX7 tyX7 tyX7_ok nmX7 hown hK hP hD hS 0 rfl rfl 8 (by decide) (hG _ zv373) (fun _ h9 => h9) rfl (by decide +kernel) rfl rfl (Nat.le_of_ble_eq_true rfl) dX7_addPhraseWord_27 (fun H locs hP hD hS => ?_)
    have hP : va_P (dC, dI) vwCl [(h0, .inr (7, mX7 h1 h2 h3 h4 h5 h6 h7 (upd v0 8 z26))), (h6, zi k6 160 f_19)] H := hP
    have hD : va_D A [(h0, .inr (7, mX7 h1 h2 h3 h4 h5 h6 h7 (upd v0 8 z26))), (h6, zi k6 160 f_19)] := hD
    refine W.widen (k := 0) (n := 0) (by decide) (by decide) ?_
    have hpost : (1 ≤ z26.toInt ∧ z26.toInt ≤ 160) := (by first | with_reducible assumption | exact ⟨by omega, by omega⟩)
    have hP9 : va_P (dC, dI) vwCl [(h0, .inr (7, mX7 h1 h2 h3 h4 h5 h6 h7 (upd v0 8 z26))), (h6, zi k6 160 f_19)] H := hP
    have hD9 : va_D A [(h0, .inr (7, mX7 h1 h2 h3 h4 h5 h6 h7 (upd v0 8 z26))), (h6, zi k6 160 f_19)] := hD
    exact W.vret hx hb hr (fun t ht hW => ⟨⟨(fun i => ([z26] : List (Int32)).getD i 0), rfl, hpost, (fun _ => 0), (fun i => ([f_19] : List (Nat → Int32)).getD i (fun _ => 0)), (fun _ => (fun _ => 0)), by rw [ht]; exact hP9, va_K.moved hW.alike hK, hD9⟩, hS.F ht⟩) hS.2.2 dX7_addPhraseWord_30
set_option maxHeartbeats 8000000 in
set_option maxRecDepth 100000 in
theorem sX4_readPhrase_0 (l : Launch) (dC : Nat → ClassId) (dI : Nat → Nat → Nat) (adK adV : Nat → Nat) (h0 : Nat) (h18 : Nat) (h1 : Nat) (h2 : Nat) (h19 : Nat) (h20 : Nat) (h21 : Nat) (h22 : Nat) (h23 : Nat) (h25 : Nat) (h3 : Nat) (h11 : Nat) (h12 : Nat) (h4 : Nat) (h5 : Nat) (h24 : Nat) (h13 : Nat) (h14 : Nat) (h15 : Nat) (h16 : Nat) (h17 : Nat) (h6 : Nat) (h7 : Nat) (h8 : Nat) (h9 : Nat) (h10 : Nat) (k2 : ClassId) (k19 : ClassId) (k20 : ClassId) (k21 : ClassId) (k22 : ClassId) (k23 : ClassId) (k25 : ClassId) (k3 : ClassId) (k12 : ClassId) (k5 : ClassId) (k24 : ClassId) (sz : Nat) (v0 : Nat → Int32) (v18 : Nat → Int32) (v1 : Nat → Int32) (f2 : Nat → Int32) (f19 : Nat → Int32) (f20 : Nat → Int32) (f21 : Nat → Int32) (f22 : Nat → Int32) (f23 : Nat → Int32) (f25 : Nat → Int32) (f3 : Nat → Int32) (v11 : Nat → Int32) (f12 : Nat → Int64) (v4 : Nat → Int32) (f5 : Nat → Int64) (f24 : Nat → Int32) (x1 : Int32) (hv0 : zR rg_Parser v0) (hv18 : zR rg_Query v18) (hv1 : zR rg_Tape v1) (hf25 : zA 0 12000 f25) (hv11 : zR rg_Words10 v11) (hv4 : zR rg_Words400 v4) : Met l yX4_readPhrase (zw yX4_readPhrase cX4_readPhrase 4 none) { frames := 8, cells := 0, slots := 0, locals := 175 } (zPc dC dI adK adV [.ref h0, .int x1] sz [(h0, .inr (4, mX4 h1 h4 h11 h18 v0)), (h18, .inr (7, mX7 h19 h20 h21 h22 h23 h24 h25 v18)), (h1, .inr (9, mX9 h2 h3 v1)), (h2, zi k2 600 f2), (h19, zi k19 40 f19), (h20, zi k20 40 f20), (h21, zi k21 40 f21), (h22, zi k22 40 f22), (h23, zi k23 40 f23), (h25, zi k25 270 f25), (h3, zi k3 12 f3), (h11, .inr (10, mX10 h12 h13 h14 h15 h16 h17 v11)), (h12, .inl (k12, 10, .inr (.inl f12))), (h4, .inr (10, mX10 h5 h6 h7 h8 h9 h10 v4)), (h5, .inl (k5, 400, .inr (.inl f5))), (h24, zi k24 160 f24)] [(k2, .byte), (k19, .int), (k20, .int), (k21, .int), (k22, .int), (k23, .boolean), (k25, .int), (k3, .byte), (k12, .long), (k5, .long), (k24, .int)]) (va_Qv (fun (u : Nat → Int32) => (0 ≤ (u 0).toInt ∧ (u 0).toInt ≤ 265) ∧ (0 ≤ (u 4).toInt ∧ (u 4).toInt ≤ 1) ∧ (0 ≤ (u 5).toInt ∧ (u 5).toInt ≤ 40) ∧ (0 ≤ (u 6).toInt ∧ (u 6).toInt ≤ 160) ∧ (0 ≤ (u 7).toInt ∧ (u 7).toInt ≤ 270) ∧ (0 ≤ (u 10).toInt ∧ (u 10).toInt ≤ 12)) (fun (u : Nat → Int32) (t : State) => ∃ (ww : Nat → Int64) (aa : Nat → Nat → Int32) (bb : Nat → Nat → Int64), zA 0 12000 (aa 5) ∧ va_P (dC, dI) vwCl [(h0, .inr (4, mX4 h1 h4 h11 h18 (upd (upd (upd (upd (upd v0 4 (u 0)) 5 (u 1)) 6 (u 2)) 7 (u 3)) 9 (u 4)))), (h18, .inr (7, mX7 h19 h20 h21 h22 h23 h24 h25 (upd (upd (upd (upd (upd v18 7 (u 5)) 8 (u 6)) 9 (u 7)) 10 (u 8)) 11 (u 9)))), (h1, .inr (9, mX9 h2 h3 (upd v1 3 (u 10)))), (h2, zi k2 600 f2), (h19, zi k19 40 (aa 0)), (h20, zi k20 40 (aa 1)), (h21, zi k21 40 (aa 2)), (h22, zi k22 40 (aa 3)), (h23, zi k23 40 (aa 4)), (h25, zi k25 270 (aa 5)), (h3, zi k3 12 (aa 6)), (h11, .inr (10, mX10 h12 h13 h14 h15 h16 h17 v11)), (h12, .inl (k12, 10, .inr (.inl f12))), (h4, .inr (10, mX10 h5 h6 h7 h8 h9 h10 v4)), (h5, .inl (k5, 400, .inr (.inl f5))), (h24, zi k24 160 (aa 7))] t.heap ∧ va_K (dC, dI) vwCl [(k2, .byte), (k19, .int), (k20, .int), (k21, .int), (k22, .int), (k23, .boolean), (k25, .int), (k3, .byte), (k12, .long), (k5, .long), (k24, .int)] t ∧ va_D (va_A [(h0, .inr (4, mX4 h1 h4 h11 h18 v0)), (h18, .inr (7, mX7 h19 h20 h21 h22 h23 h24 h25 v18)), (h1, .inr (9, mX9 h2 h3 v1)), (h2, zi k2 600 f2), (h19, zi k19 40 f19), (h20, zi k20 40 f20), (h21, zi k21 40 f21), (h22, zi k22 40 f22), (h23, zi k23 40 f23), (h25, zi k25 270 f25), (h3, zi k3 12 f3), (h11, .inr (10, mX10 h12 h13 h14 h15 h16 h17 v11)), (h12, .inl (k12, 10, .inr (.inl f12))), (h4, .inr (10, mX10 h5 h6 h7 h8 h9 h10 v4)), (h5, .inl (k5, 400, .inr (.inl f5))), (h24, zi k24 160 f24)] sz) [(h0, .inr (4, mX4 h1 h4 h11 h18 (upd (upd (upd (upd (upd v0 4 (u 0)) 5 (u 1)) 6 (u 2)) 7 (u 3)) 9 (u 4)))), (h18, .inr (7, mX7 h19 h20 h21 h22 h23 h24 h25 (upd (upd (upd (upd (upd v18 7 (u 5)) 8 (u 6)) 9 (u 7)) 10 (u 8)) 11 (u 9)))), (h1, .inr (9, mX9 h2 h3 (upd v1 3 (u 10)))), (h2, zi k2 600 f2), (h19, zi k19 40 (aa 0)), (h20, zi k20 40 (aa 1)), (h21, zi k21 40 (aa 2)), (h22, zi k22 40 (aa 3)), (h23, zi k23 40 (aa 4)), (h25, zi k25 270 (aa 5)), (h3, zi k3 12 (aa 6)), (h11, .inr (10, mX10 h12 h13 h14 h15 h16 h17 v11)), (h12, .inl (k12, 10, .inr (.inl f12))), (h4, .inr (10, mX10 h5 h6 h7 h8 h9 h10 v4)), (h5, .inl (k5, 400, .inr (.inl f5))), (h24, zi k24 160 (aa 7))]) (va_A [(h0, .inr (4, mX4 h1 h4 h11 h18 v0)), (h18, .inr (7, mX7 h19 h20 h21 h22 h23 h24 h25 v18)), (h1, .inr (9, mX9 h2 h3 v1)), (h2, zi k2 600 f2), (h19, zi k19 40 f19), (h20, zi k20 40 f20), (h21, zi k21 40 f21), (h22, zi k22 40 f22), (h23, zi k23 40 f23), (h25, zi k25 270 f25), (h3, zi k3 12 f3), (h11, .inr (10, mX10 h12 h13 h14 h15 h16 h17 v11)), (h12, .inl (k12, 10, .inr (.inl f12))), (h4, .inr (10, mX10 h5 h6 h7 h8 h9 h10 v4)), (h5, .inl (k5, 400, .inr (.inl f5))), (h24, zi k24 160 f24)] sz)) 0 0 (va_A [(h0, .inr (4, mX4 h1 h4 h11 h18 v0)), (h18, .inr (7, mX7 h19 h20 h21 h22 h23 h24 h25 v18)), (h1, .inr (9, mX9 h2 h3 v1)), (h2, zi k2 600 f2), (h19, zi k19 40 f19), (h20, zi k20 40 f20), (h21, zi k21 40 f21), (h22, zi k22 40 f22), (h23, zi k23 40 f23), (h25, zi k25 270 f25), (h3, zi k3 12 f3), (h11, .inr (10, mX10 h12 h13 h14 h15 h16 h17 v11)), (h12, .inl (k12, 10, .inr (.inl f12))), (h4, .inr (10, mX10 h5 h6 h7 h8 h9 h10 v4)), (h5, .inl (k5, 400, .inr (.inl f5))), (h24, zi k24 160 f24)] sz) := by
  refine Met.ofW (cc := cX4_readPhrase) (maxL := 4) (ret := none) (by decide) rfl ?_
  intro p e s m args below meth c s₁ B hml hv
  obtain ⟨rfl, hsz, hP, hK, hD0, hE, hZ⟩ := hv
  have hx := B.exec
  have hb := B.bytes
  have hr := B.returns
  have hG : ∀ w ∈ zG, w.before _ s = true := fun w h => atoms_spec (ws := (zw yX4_readPhrase cX4_readPhrase 4 none)) B.pre w (List.mem_cons_of_mem _ h)
  have hown : s.vm.findClass RX4 = some m.cls := findClass_of_methodNamed B.named
  have hlocks := B.notSynchronized

  subst hsz
  have hD := hD0.self (sz := s.heap.size)
  generalize hAe : va_A [(h0, .inr (4, mX4 h1 h4 h11 h18 v0)), (h18, .inr (7, mX7 h19 h20 h21 h22 h23 h24 h25 v18)), (h1, .inr (9, mX9 h2 h3 v1)), (h2, zi k2 600 f2), (h19, zi k19 40 f19), (h20, zi k20 40 f20), (h21, zi k21 40 f21), (h22, zi k22 40 f22), (h23, zi k23 40 f23), (h25, zi k25 270 f25), (h3, zi k3 12 f3), (h11, .inr (10, mX10 h12 h13 h14 h15 h16 h17 v11)), (h12, .inl (k12, 10, .inr (.inl f12))), (h4, .inr (10, mX10 h5 h6 h7 h8 h9 h10 v4)), (h5, .inl (k5, 400, .inr (.inl f5))), (h24, zi k24 160 f24)] s.heap.size = A at hD hZ ⊢
  have hA : ∀ q : Nat, s.heap.size ≤ q → A q := fun q h => by rw [← hAe]; exact Or.inr h
  have hS : va_S A s.heap s.heap [] := va_S.rf
  have hl := lv_entry ([.ref h0, .int x1]) (n := 4) (Nat.le_of_ble_eq_true rfl)
  rw [lg_entry_eq]
  generalize (lg_sl ([.ref h0, .int x1]) ++ List.replicate (4 - (lg_sl ([.ref h0, .int x1])).length) Slot.unset).toArray = ls at hl ⊢
  have hl : lv_has ls 4 [(0, .ref h0), (1, .int x1)] := hl
  refine lv_aload_n hx hb dX4_readPhrase_0 rfl (lv_at hl 0 rfl) ?_
  have hPc := hP.sub (ws' := [(h0, .inr (4, mX4 h1 h4 h11 h18 v0)), (h18, .inr (7, mX7 h19 h20 h21 h22 h23 h24 h25 v18))]) [0, 1] rfl
  have hDc := hD.sub (ws' := [(h0, .inr (4, mX4 h1 h4 h11 h18 v0)), (h18, .inr (7, mX7 h19 h20 h21 h22 h23 h24 h25 v18))]) [0, 1] (by decide) rfl
  have hKc := hK.sub (tys' := []) [] rfl
  have hFc := va_free (wc := [(h0, .inr (4, mX4 h1 h4 h11 h18 v0)), (h18, .inr (7, mX7 h19 h20 h21 h22 h23 h24 h25 v18))]) hD hS hA [0, 1] rfl
  refine va_callv (va_runV (As := []) (rest := []) ⟨hx, hb, hml, hown, hG⟩ (sX4_testLeafRoom_0 l dC dI adK adV h0 h18 h1 h4 h11 h19 h20 h21 h22 h23 h24 h25 s.heap.size v0 v18 hv0 hv18) (cwV 0 hG (zgV zv1088 zv1090 zv24 zv137 zv1091) rfl rfl rfl (by decide +kernel) ⟨Nat.le_of_ble_eq_true rfl, Nat.le_of_ble_eq_true rfl⟩) ⟨zPc_blind, va_recv hKc hPc (ci := 4) (q0 := 0) rfl rfl, zPc_pre hPc hKc hDc hE hS hFc hZ⟩ rfl rfl hl.1 rfl (lv_room (Nat.le_of_ble_eq_true rfl)) dX4_readPhrase_1 ⟨Nat.le_of_ble_eq_true rfl, Nat.le_of_ble_eq_true rfl⟩) hS (fun q _ h => hFc q h) hFc (fun u1_ t H1 locs ht hvm hw hB hz1 hk1 hS => ?_)
  obtain ⟨w1_, a1_, b1_, hP1, hK1, hD1⟩ := hB
  rw [ht] at hP1
  obtain ⟨hP, hD⟩ := va_join (wr := [(h1, .inr (9, mX9 h2 h3 v1)), (h2, zi k2 600 f2), (h19, zi k19 40 f19), (h20, zi k20 40 f20), (h21, zi k21 40 f21), (h22, zi k22 40 f22), (h23, zi k23 40 f23), (h25, zi k25 270 f25), (h3, zi k3 12 f3), (h11, .inr (10, mX10 h12 h13 h14 h15 h16 h17 v11)), (h12, .inl (k12, 10, .inr (.inl f12))), (h4, .inr (10, mX10 h5 h6 h7 h8 h9 h10 v4)), (h5, .inl (k5, 400, .inr (.inl f5))), (h24, zi k24 160 f24)]) (w1 := [(h0, .inr (4, mX4 h1 h4 h11 h18 (upd (upd v0 4 (u1_ 0)) 7 (u1_ 1)))), (h18, .inr (7, mX7 h19 h20 h21 h22 h23 h24 h25 v18))]) hP hD [0, 1] [2, 3, 4, 5, 6, 7, 8, 9, 10, 11, 12, 13, 14, 15] rfl rfl (by decide) (by decide) hk1 hFc hP1 hD1
  have hP : va_P (dC, dI) vwCl [(h0, .inr (4, mX4 h1 h4 h11 h18 (upd (upd v0 4 (u1_ 0)) 7 (u1_ 1)))), (h18, .inr (7, mX7 h19 h20 h21 h22 h23 h24 h25 v18)), (h1, .inr (9, mX9 h2 h3 v1)), (h2, zi k2 600 f2), (h19, zi k19 40 f19), (h20, zi k20 40 f20), (h21, zi k21 40 f21), (h22, zi k22 40 f22), (h23, zi k23 40 f23), (h25, zi k25 270 f25), (h3, zi k3 12 f3), (h11, .inr (10, mX10 h12 h13 h14 h15 h16 h17 v11)), (h12, .inl (k12, 10, .inr (.inl f12))), (h4, .inr (10, mX10 h5 h6 h7 h8 h9 h10 v4)), (h5, .inl (k5, 400, .inr (.inl f5))), (h24, zi k24 160 f24)] H1 := hP.sub [14, 15, 0, 1, 2, 3, 4, 5, 6, 7, 8, 9, 10, 11, 12, 13] rfl
  have hD : va_D A [(h0, .inr (4, mX4 h1 h4 h11 h18 (upd (upd v0 4 (u1_ 0)) 7 (u1_ 1)))), (h18, .inr (7, mX7 h19 h20 h21 h22 h23 h24 h25 v18)), (h1, .inr (9, mX9 h2 h3 v1)), (h2, zi k2 600 f2), (h19, zi k19 40 f19), (h20, zi k20 40 f20), (h21, zi k21 40 f21), (h22, zi k22 40 f22), (h23, zi k23 40 f23), (h25, zi k25 270 f25), (h3, zi k3 12 f3), (h11, .inr (10, mX10 h12 h13 h14 h15 h16 h17 v11)), (h12, .inl (k12, 10, .inr (.inl f12))), (h4, .inr (10, mX10 h5 h6 h7 h8 h9 h10 v4)), (h5, .inl (k5, 400, .inr (.inl f5))), (h24, zi k24 160 f24)] := hD.sub [14, 15, 0, 1, 2, 3, 4, 5, 6, 7, 8, 9, 10, 11, 12, 13] (by decide) rfl
  generalize H1 = H at hP hS ⊢
  clear hz1
  refine lv_aload_n hx hb dX4_readPhrase_4 rfl (lv_at hl 0 rfl) ?_
  have b_ : -2147483648 ≤ (u1_ 0).toInt ∧ (u1_ 0).toInt ≤ 2147483647 := ⟨zlo _, zhi _⟩
  have b_ : -2147483648 ≤ (u1_ 1).toInt ∧ (u1_ 1).toInt ≤ 2147483647 := ⟨zlo _, zhi _⟩
  have hPc := hP.sub (ws' := [(h0, .inr (4, mX4 h1 h4 h11 h18 (upd (upd v0 4 (u1_ 0)) 7 (u1_ 1))))]) [0] rfl
  have hDc := hD.sub (ws' := [(h0, .inr (4, mX4 h1 h4 h11 h18 (upd (upd v0 4 (u1_ 0)) 7 (u1_ 1))))]) [0] (by decide) rfl
  have hKc := hK.sub (tys' := []) [] rfl
  have hFc := va_free (wc := [(h0, .inr (4, mX4 h1 h4 h11 h18 (upd (upd v0 4 (u1_ 0)) 7 (u1_ 1))))]) hD hS hA [0] rfl
  refine va_callv (va_runV (As := []) (rest := []) ⟨hx, hb, hml, hown, hG⟩ (sX4_settleNear_0 l dC dI adK adV h0 h1 h4 h11 h18 H.size (upd (upd v0 4 (u1_ 0)) 7 (u1_ 1)) (zR_updF (zR_updF hv0 4 rfl) 7 rfl)) (cwV 0 hG (zgV zv1017 zv1019 zv12 zv137 zv1020) rfl rfl rfl (by decide +kernel) ⟨Nat.le_of_ble_eq_true rfl, Nat.le_of_ble_eq_true rfl⟩) ⟨zPc_blind, va_recv hKc hPc (ci := 4) (q0 := 0) rfl rfl, zPc_pre hPc hKc hDc hE hS hFc hZ⟩ rfl rfl hl.1 rfl (lv_room (Nat.le_of_ble_eq_true rfl)) dX4_readPhrase_5 ⟨Nat.le_of_ble_eq_true rfl, Nat.le_of_ble_eq_true rfl⟩) hS (fun q _ h => hFc q h) hFc (fun u5_ t H1 locs ht hvm hw hB hz1 hk1 hS => ?_)
  obtain ⟨w5_, a5_, b5_, hP1, hK1, hD1⟩ := hB
  rw [ht] at hP1
  obtain ⟨hP, hD⟩ := va_join (wr := [(h18, .inr (7, mX7 h19 h20 h21 h22 h23 h24 h25 v18)), (h1, .inr (9, mX9 h2 h3 v1)), (h2, zi k2 600 f2), (h19, zi k19 40 f19), (h20, zi k20 40 f20), (h21, zi k21 40 f21), (h22, zi k22 40 f22), (h23, zi k23 40 f23), (h25, zi k25 270 f25), (h3, zi k3 12 f3), (h11, .inr (10, mX10 h12 h13 h14 h15 h16 h17 v11)), (h12, .inl (k12, 10, .inr (.inl f12))), (h4, .inr (10, mX10 h5 h6 h7 h8 h9 h10 v4)), (h5, .inl (k5, 400, .inr (.inl f5))), (h24, zi k24 160 f24)]) (w1 := [(h0, .inr (4, mX4 h1 h4 h11 h18 (upd (upd v0 4 (u5_ 0)) 7 (u5_ 1))))]) hP hD [0] [1, 2, 3, 4, 5, 6, 7, 8, 9, 10, 11, 12, 13, 14, 15] rfl rfl (by decide) (by decide) hk1 hFc hP1 hD1
  have hP : va_P (dC, dI) vwCl [(h0, .inr (4, mX4 h1 h4 h11 h18 (upd (upd v0 4 (u5_ 0)) 7 (u5_ 1)))), (h18, .inr (7, mX7 h19 h20 h21 h22 h23 h24 h25 v18)), (h1, .inr (9, mX9 h2 h3 v1)), (h2, zi k2 600 f2), (h19, zi k19 40 f19), (h20, zi k20 40 f20), (h21, zi k21 40 f21), (h22, zi k22 40 f22), (h23, zi k23 40 f23), (h25, zi k25 270 f25), (h3, zi k3 12 f3), (h11, .inr (10, mX10 h12 h13 h14 h15 h16 h17 v11)), (h12, .inl (k12, 10, .inr (.inl f12))), (h4, .inr (10, mX10 h5 h6 h7 h8 h9 h10 v4)), (h5, .inl (k5, 400, .inr (.inl f5))), (h24, zi k24 160 f24)] H1 := hP.sub [15, 0, 1, 2, 3, 4, 5, 6, 7, 8, 9, 10, 11, 12, 13, 14] rfl
  have hD : va_D A [(h0, .inr (4, mX4 h1 h4 h11 h18 (upd (upd v0 4 (u5_ 0)) 7 (u5_ 1)))), (h18, .inr (7, mX7 h19 h20 h21 h22 h23 h24 h25 v18)), (h1, .inr (9, mX9 h2 h3 v1)), (h2, zi k2 600 f2), (h19, zi k19 40 f19), (h20, zi k20 40 f20), (h21, zi k21 40 f21), (h22, zi k22 40 f22), (h23, zi k23 40 f23), (h25, zi k25 270 f25), (h3, zi k3 12 f3), (h11, .inr (10, mX10 h12 h13 h14 h15 h16 h17 v11)), (h12, .inl (k12, 10, .inr (.inl f12))), (h4, .inr (10, mX10 h5 h6 h7 h8 h9 h10 v4)), (h5, .inl (k5, 400, .inr (.inl f5))), (h24, zi k24 160 f24)] := hD.sub [15, 0, 1, 2, 3, 4, 5, 6, 7, 8, 9, 10, 11, 12, 13, 14] (by decide) rfl
  generalize H1 = H at hP hS ⊢
  clear hz1
  refine lv_aload_n hx hb dX4_readPhrase_8 rfl (lv_at hl 0 rfl) ?_
  refine va_get (D := (dC, dI)) (ci := 4) (v := .ref h18) (C := RX4) (T := TX4) (N := 12) hx hb hG zuX4 hown hK hP 0 rfl rfl 3 (by decide) (hG _ zv411) (fun _ h9 => h9) rfl dX4_readPhrase_9 ?_
  have hPc := hP.sub (ws' := [(h18, .inr (7, mX7 h19 h20 h21 h22 h23 h24 h25 v18))]) [1] rfl
  have hDc := hD.sub (ws' := [(h18, .inr (7, mX7 h19 h20 h21 h22 h23 h24 h25 v18))]) [1] (by decide) rfl
  have hKc := hK.sub (tys' := []) [] rfl
  have hFc := va_free (wc := [(h18, .inr (7, mX7 h19 h20 h21 h22 h23 h24 h25 v18))]) hD hS hA [1] rfl
  refine va_calli (va_runV (As := []) (rest := []) ⟨hx, hb, hml, hown, hG⟩ (sX7_phraseWords_0 l dC dI adK adV h18 h19 h20 h21 h22 h23 h24 h25 H.size v18 hv18) (cwV 0 hG (zgV zv1121 zv1122 zv1123 zv136 zv1124) rfl rfl rfl (by decide +kernel) ⟨Nat.le_of_ble_eq_true rfl, Nat.le_of_ble_eq_true rfl⟩) ⟨zPc_blind, va_recv hKc hPc (ci := 7) (q0 := 0) rfl rfl, zPc_pre hPc hKc hDc hE hS hFc hZ⟩ rfl rfl hl.1 rfl (lv_room (Nat.le_of_ble_eq_true rfl)) dX4_readPhrase_12 ⟨Nat.le_of_ble_eq_true rfl, Nat.le_of_ble_eq_true rfl⟩) hS (fun q _ h => hFc q h) hFc (fun r12_ u12_ t H1 locs ht hvm hw hB hz1 hk1 hS => ?_)
  replace hw : (0 ≤ r12_.toInt ∧ r12_.toInt ≤ 160) := hw
  have b_ := hw
  obtain ⟨w12_, a12_, b12_, hP1, hK1, hD1⟩ := hB
  rw [ht] at hP1
  obtain ⟨hP, hD⟩ := va_join (wr := [(h0, .inr (4, mX4 h1 h4 h11 h18 (upd (upd v0 4 (u5_ 0)) 7 (u5_ 1)))), (h1, .inr (9, mX9 h2 h3 v1)), (h2, zi k2 600 f2), (h19, zi k19 40 f19), (h20, zi k20 40 f20), (h21, zi k21 40 f21), (h22, zi k22 40 f22), (h23, zi k23 40 f23), (h25, zi k25 270 f25), (h3, zi k3 12 f3), (h11, .inr (10, mX10 h12 h13 h14 h15 h16 h17 v11)), (h12, .inl (k12, 10, .inr (.inl f12))), (h4, .inr (10, mX10 h5 h6 h7 h8 h9 h10 v4)), (h5, .inl (k5, 400, .inr (.inl f5))), (h24, zi k24 160 f24)]) (w1 := [(h18, .inr (7, mX7 h19 h20 h21 h22 h23 h24 h25 v18))]) hP hD [1] [0, 2, 3, 4, 5, 6, 7, 8, 9, 10, 11, 12, 13, 14, 15] rfl rfl (by decide) (by decide) hk1 hFc hP1 hD1
  have hP : va_P (dC, dI) vwCl [(h0, .inr (4, mX4 h1 h4 h11 h18 (upd (upd v0 4 (u5_ 0)) 7 (u5_ 1)))), (h18, .inr (7, mX7 h19 h20 h21 h22 h23 h24 h25 v18)), (h1, .inr (9, mX9 h2 h3 v1)), (h2, zi k2 600 f2), (h19, zi k19 40 f19), (h20, zi k20 40 f20), (h21, zi k21 40 f21), (h22, zi k22 40 f22), (h23, zi k23 40 f23), (h25, zi k25 270 f25), (h3, zi k3 12 f3), (h11, .inr (10, mX10 h12 h13 h14 h15 h16 h17 v11)), (h12, .inl (k12, 10, .inr (.inl f12))), (h4, .inr (10, mX10 h5 h6 h7 h8 h9 h10 v4)), (h5, .inl (k5, 400, .inr (.inl f5))), (h24, zi k24 160 f24)] H1 := hP.sub [0, 15, 1, 2, 3, 4, 5, 6, 7, 8, 9, 10, 11, 12, 13, 14] rfl
  have hD : va_D A [(h0, .inr (4, mX4 h1 h4 h11 h18 (upd (upd v0 4 (u5_ 0)) 7 (u5_ 1)))), (h18, .inr (7, mX7 h19 h20 h21 h22 h23 h24 h25 v18)), (h1, .inr (9, mX9 h2 h3 v1)), (h2, zi k2 600 f2), (h19, zi k19 40 f19), (h20, zi k20 40 f20), (h21, zi k21 40 f21), (h22, zi k22 40 f22), (h23, zi k23 40 f23), (h25, zi k25 270 f25), (h3, zi k3 12 f3), (h11, .inr (10, mX10 h12 h13 h14 h15 h16 h17 v11)), (h12, .inl (k12, 10, .inr (.inl f12))), (h4, .inr (10, mX10 h5 h6 h7 h8 h9 h10 v4)), (h5, .inl (k5, 400, .inr (.inl f5))), (h24, zi k24 160 f24)] := hD.sub [0, 15, 1, 2, 3, 4, 5, 6, 7, 8, 9, 10, 11, 12, 13, 14] (by decide) rfl
  generalize H1 = H at hP hS ⊢
  clear hz1
  refine lv_istore_n (lv' := [(2, .int r12_), (0, .ref h0), (1, .int x1)]) hx hb dX4_readPhrase_15 rfl hl (by decide) rfl (fun ls hl => ?_)
  refine lv_aload_n hx hb dX4_readPhrase_16 rfl (lv_at hl 1 rfl) ?_
  refine va_get (D := (dC, dI)) (ci := 4) (v := .int (v0 6)) (C := RX4) (T := TX4) (N := 12) hx hb hG zuX4 hown hK hP 0 rfl rfl 6 (by decide) (hG _ zv414) (fun _ h9 => h9) rfl dX4_readPhrase_17 ?_
  refine lv_istore_n (lv' := [(3, .int (v0 6)), (2, .int r12_), (0, .ref h0), (1, .int x1)]) hx hb dX4_readPhrase_20 rfl hl (by decide) rfl (fun ls hl => ?_)
  refine zcutL (fun u21_ => (2147483647 - (u21_ 0).toInt).toNat) (fun H locs ls u21_ w21_ a21_ b21_ => va_P (dC, dI) vwCl [(h0, .inr (4, mX4 h1 h4 h11 h18 (upd (upd v0 4 (u21_ 3)) 7 (u21_ 4)))), (h18, .inr (7, mX7 h19 h20 h21 h22 h23 h24 h25 (upd v18 8 (u21_ 1)))), (h1, .inr (9, mX9 h2 h3 (upd v1 3 (u21_ 2)))), (h2, zi k2 600 f2), (h19, zi k19 40 f19), (h20, zi k20 40 f20), (h21, zi k21 40 f21), (h22, zi k22 40 f22), (h23, zi k23 40 f23), (h25, zi k25 270 f25), (h3, zi k3 12 (a21_ 1)), (h11, .inr (10, mX10 h12 h13 h14 h15 h16 h17 v11)), (h12, .inl (k12, 10, .inr (.inl f12))), (h4, .inr (10, mX10 h5 h6 h7 h8 h9 h10 v4)), (h5, .inl (k5, 400, .inr (.inl f5))), (h24, zi k24 160 (a21_ 0))] H ∧ va_D A [(h0, .inr (4, mX4 h1 h4 h11 h18 (upd (upd v0 4 (u21_ 3)) 7 (u21_ 4)))), (h18, .inr (7, mX7 h19 h20 h21 h22 h23 h24 h25 (upd v18 8 (u21_ 1)))), (h1, .inr (9, mX9 h2 h3 (upd v1 3 (u21_ 2)))), (h2, zi k2 600 f2), (h19, zi k19 40 f19), (h20, zi k20 40 f20), (h21, zi k21 40 f21), (h22, zi k22 40 f22), (h23, zi k23 40 f23), (h25, zi k25 270 f25), (h3, zi k3 12 (a21_ 1)), (h11, .inr (10, mX10 h12 h13 h14 h15 h16 h17 v11)), (h12, .inl (k12, 10, .inr (.inl f12))), (h4, .inr (10, mX10 h5 h6 h7 h8 h9 h10 v4)), (h5, .inl (k5, 400, .inr (.inl f5))), (h24, zi k24 160 (a21_ 0))] ∧ va_S A s.heap H locs ∧ lv_has ls 4 [(0, .ref h0), (1, .int x1), (2, .int r12_), (3, .int (u21_ 0))] ∧ (0 ≤ (u21_ 1).toInt ∧ (u21_ 1).toInt ≤ 160) ∧ (0 ≤ (u21_ 2).toInt ∧ (u21_ 2).toInt ≤ 12)) (fun ls u21_ w21_ => F0 m 21 ls []) 0 0 ?_ (fun hJ21 => ?_)
  · skip
    intro H locs ls u21_ w21_ a21_ b21_ hc hJ21
    obtain ⟨hP, hD, hS, hl, b_, b_⟩ := hc
    refine lv_iload_n hx hb dX4_readPhrase_21 rfl (lv_at hl 3 rfl) ?_
    refine lv_aload_n hx hb dX4_readPhrase_22 rfl (lv_at hl 0 rfl) ?_
    refine va_get (D := (dC, dI)) (ci := 4) (v := .ref h1) (C := RX4) (T := TX4) (N := 12) hx hb hG zuX4 hown hK hP 0 rfl rfl 0 (by decide) (hG _ zv408) (fun _ h9 => h9) rfl dX4_readPhrase_23 ?_
    have hPc := hP.sub (ws' := [(h1, .inr (9, mX9 h2 h3 (upd v1 3 (u21_ 2))))]) [2] rfl
    have hDc := hD.sub (ws' := [(h1, .inr (9, mX9 h2 h3 (upd v1 3 (u21_ 2))))]) [2] (by decide) rfl
    have hKc := hK.sub (tys' := []) [] rfl
    have hFc := va_free (wc := [(h1, .inr (9, mX9 h2 h3 (upd v1 3 (u21_ 2))))]) hD hS hA [2] rfl
    refine va_calli (va_runV (As := []) (rest := [.int (u21_ 0)]) ⟨hx, hb, hml, hown, hG⟩ (sX9_size_0 l dC dI adK adV h1 h2 h3 H.size (upd v1 3 (u21_ 2)) (zR_up2 hv1 3 (show (0 : Int) ≤ ((u21_ 2) : Int32).toInt ∧ ((u21_ 2) : Int32).toInt ≤ (12 : Int) from (by first | with_reducible assumption | exact ⟨by omega, by omega⟩)))) (cwV 0 hG (zgV zv1125 zv607 zv608 zv130 zv609) rfl rfl rfl (by decide +kernel) ⟨Nat.le_of_ble_eq_true rfl, Nat.le_of_ble_eq_true rfl⟩) ⟨zPc_blind, va_recv hKc hPc (ci := 9) (q0 := 0) rfl rfl, zPc_pre hPc hKc hDc hE hS hFc hZ⟩ rfl rfl hl.1 rfl (lv_room (Nat.le_of_ble_eq_true rfl)) dX4_readPhrase_26 ⟨Nat.le_of_ble_eq_true rfl, Nat.le_of_ble_eq_true rfl⟩) hS (fun q _ h => hFc q h) hFc (fun r26_ u26_ t H1 locs ht hvm hw hB hz1 hk1 hS => ?_)
    replace hw : (0 ≤ r26_.toInt ∧ r26_.toInt ≤ 600) ∧ (r26_.toInt = (v1 2).toInt) := hw
    obtain ⟨b_, hX26_0⟩ := hw
    obtain ⟨w26_, a26_, b26_, hP1, hK1, hD1⟩ := hB
    rw [ht] at hP1
    obtain ⟨hP, hD⟩ := va_join (wr := [(h0, .inr (4, mX4 h1 h4 h11 h18 (upd (upd v0 4 (u21_ 3)) 7 (u21_ 4)))), (h18, .inr (7, mX7 h19 h20 h21 h22 h23 h24 h25 (upd v18 8 (u21_ 1)))), (h2, zi k2 600 f2), (h19, zi k19 40 f19), (h20, zi k20 40 f20), (h21, zi k21 40 f21), (h22, zi k22 40 f22), (h23, zi k23 40 f23), (h25, zi k25 270 f25), (h3, zi k3 12 (a21_ 1)), (h11, .inr (10, mX10 h12 h13 h14 h15 h16 h17 v11)), (h12, .inl (k12, 10, .inr (.inl f12))), (h4, .inr (10, mX10 h5 h6 h7 h8 h9 h10 v4)), (h5, .inl (k5, 400, .inr (.inl f5))), (h24, zi k24 160 (a21_ 0))]) (w1 := [(h1, .inr (9, mX9 h2 h3 (upd v1 3 (u21_ 2))))]) hP hD [2] [0, 1, 3, 4, 5, 6, 7, 8, 9, 10, 11, 12, 13, 14, 15] rfl rfl (by decide) (by decide) hk1 hFc hP1 hD1
    have hP : va_P (dC, dI) vwCl [(h0, .inr (4, mX4 h1 h4 h11 h18 (upd (upd v0 4 (u21_ 3)) 7 (u21_ 4)))), (h18, .inr (7, mX7 h19 h20 h21 h22 h23 h24 h25 (upd v18 8 (u21_ 1)))), (h1, .inr (9, mX9 h2 h3 (upd v1 3 (u21_ 2)))), (h2, zi k2 600 f2), (h19, zi k19 40 f19), (h20, zi k20 40 f20), (h21, zi k21 40 f21), (h22, zi k22 40 f22), (h23, zi k23 40 f23), (h25, zi k25 270 f25), (h3, zi k3 12 (a21_ 1)), (h11, .inr (10, mX10 h12 h13 h14 h15 h16 h17 v11)), (h12, .inl (k12, 10, .inr (.inl f12))), (h4, .inr (10, mX10 h5 h6 h7 h8 h9 h10 v4)), (h5, .inl (k5, 400, .inr (.inl f5))), (h24, zi k24 160 (a21_ 0))] H1 := hP.sub [0, 1, 15, 2, 3, 4, 5, 6, 7, 8, 9, 10, 11, 12, 13, 14] rfl
    have hD : va_D A [(h0, .inr (4, mX4 h1 h4 h11 h18 (upd (upd v0 4 (u21_ 3)) 7 (u21_ 4)))), (h18, .inr (7, mX7 h19 h20 h21 h22 h23 h24 h25 (upd v18 8 (u21_ 1)))), (h1, .inr (9, mX9 h2 h3 (upd v1 3 (u21_ 2)))), (h2, zi k2 600 f2), (h19, zi k19 40 f19), (h20, zi k20 40 f20), (h21, zi k21 40 f21), (h22, zi k22 40 f22), (h23, zi k23 40 f23), (h25, zi k25 270 f25), (h3, zi k3 12 (a21_ 1)), (h11, .inr (10, mX10 h12 h13 h14 h15 h16 h17 v11)), (h12, .inl (k12, 10, .inr (.inl f12))), (h4, .inr (10, mX10 h5 h6 h7 h8 h9 h10 v4)), (h5, .inl (k5, 400, .inr (.inl f5))), (h24, zi k24 160 (a21_ 0))] := hD.sub [0, 1, 15, 2, 3, 4, 5, 6, 7, 8, 9, 10, 11, 12, 13, 14] (by decide) rfl
    generalize H1 = H at hP hS ⊢
    clear hz1
    refine zcutW (fun H locs ls u124_ w124_ a124_ b124_ => va_P (dC, dI) vwCl [(h0, .inr (4, mX4 h1 h4 h11 h18 (upd (upd v0 4 (u21_ 3)) 7 (u21_ 4)))), (h18, .inr (7, mX7 h19 h20 h21 h22 h23 h24 h25 (upd v18 8 (u21_ 1)))), (h1, .inr (9, mX9 h2 h3 (upd v1 3 (u21_ 2)))), (h2, zi k2 600 f2), (h19, zi k19 40 f19), (h20, zi k20 40 f20), (h21, zi k21 40 f21), (h22, zi k22 40 f22), (h23, zi k23 40 f23), (h25, zi k25 270 f25), (h3, zi k3 12 (a21_ 1)), (h11, .inr (10, mX10 h12 h13 h14 h15 h16 h17 v11)), (h12, .inl (k12, 10, .inr (.inl f12))), (h4, .inr (10, mX10 h5 h6 h7 h8 h9 h10 v4)), (h5, .inl (k5, 400, .inr (.inl f5))), (h24, zi k24 160 (a21_ 0))] H ∧ va_D A [(h0, .inr (4, mX4 h1 h4 h11 h18 (upd (upd v0 4 (u21_ 3)) 7 (u21_ 4)))), (h18, .inr (7, mX7 h19 h20 h21 h22 h23 h24 h25 (upd v18 8 (u21_ 1)))), (h1, .inr (9, mX9 h2 h3 (upd v1 3 (u21_ 2)))), (h2, zi k2 600 f2), (h19, zi k19 40 f19), (h20, zi k20 40 f20), (h21, zi k21 40 f21), (h22, zi k22 40 f22), (h23, zi k23 40 f23), (h25, zi k25 270 f25), (h3, zi k3 12 (a21_ 1)), (h11, .inr (10, mX10 h12 h13 h14 h15 h16 h17 v11)), (h12, .inl (k12, 10, .inr (.inl f12))), (h4, .inr (10, mX10 h5 h6 h7 h8 h9 h10 v4)), (h5, .inl (k5, 400, .inr (.inl f5))), (h24, zi k24 160 (a21_ 0))] ∧ va_S A s.heap H locs ∧ lv_has ls 4 [(0, .ref h0), (1, .int x1), (2, .int r12_), (3, .int (u21_ 0))] ∧ (0 ≤ r26_.toInt ∧ r26_.toInt ≤ 600)) (fun ls u124_ w124_ => F0 m 124 ls []) 0 0 ?_ (fun hJ124 => ?_)
    · skip
      intro H locs ls u124_ w124_ a124_ b124_ hc
      obtain ⟨hP, hD, hS, hl, b_⟩ := hc
      refine lv_aload_n hx hb dX4_readPhrase_124 rfl (lv_at hl 0 rfl) ?_
      refine lv_iconst (v := 1) hx hb dX4_readPhrase_125 (by decide) ?_
      refine lv_aload_n hx hb dX4_readPhrase_126 rfl (lv_at hl 0 rfl) ?_
      refine va_get (D := (dC, dI)) (ci := 4) (v := .ref h1) (C := RX4) (T := TX4) (N := 12) hx hb hG zuX4 hown hK hP 0 rfl rfl 0 (by decide) (hG _ zv408) (fun _ h9 => h9) rfl dX4_readPhrase_127 ?_
      have hPc := hP.sub (ws' := [(h1, .inr (9, mX9 h2 h3 (upd v1 3 (u21_ 2))))]) [2] rfl
      have hDc := hD.sub (ws' := [(h1, .inr (9, mX9 h2 h3 (upd v1 3 (u21_ 2))))]) [2] (by decide) rfl
      have hKc := hK.sub (tys' := []) [] rfl
      have hFc := va_free (wc := [(h1, .inr (9, mX9 h2 h3 (upd v1 3 (u21_ 2))))]) hD hS hA [2] rfl
      refine va_calli (va_runV (As := []) (rest := [.int 1, .ref h0]) ⟨hx, hb, hml, hown, hG⟩ (sX9_size_0 l dC dI adK adV h1 h2 h3 H.size (upd v1 3 (u21_ 2)) (zR_up2 hv1 3 (show (0 : Int) ≤ ((u21_ 2) : Int32).toInt ∧ ((u21_ 2) : Int32).toInt ≤ (12 : Int) from (by first | with_reducible assumption | exact ⟨by omega, by omega⟩)))) (cwV 0 hG (zgV zv1125 zv607 zv608 zv130 zv609) rfl rfl rfl (by decide +kernel) ⟨Nat.le_of_ble_eq_true rfl, Nat.le_of_ble_eq_true rfl⟩) ⟨zPc_blind, va_recv hKc hPc (ci := 9) (q0 := 0) rfl rfl, zPc_pre hPc hKc hDc hE hS hFc hZ⟩ rfl rfl hl.1 rfl (lv_room (Nat.le_of_ble_eq_true rfl)) dX4_readPhrase_130 ⟨Nat.le_of_ble_eq_true rfl, Nat.le_of_ble_eq_true rfl⟩) hS (fun q _ h => hFc q h) hFc (fun r130_ u130_ t H1 locs ht hvm hw hB hz1 hk1 hS => ?_)
      replace hw : (0 ≤ r130_.toInt ∧ r130_.toInt ≤ 600) ∧ (r130_.toInt = (v1 2).toInt) := hw
      obtain ⟨b_, hX130_0⟩ := hw
      obtain ⟨w130_, a130_, b130_, hP1, hK1, hD1⟩ := hB
      rw [ht] at hP1
      obtain ⟨hP, hD⟩ := va_join (wr := [(h0, .inr (4, mX4 h1 h4 h11 h18 (upd (upd v0 4 (u21_ 3)) 7 (u21_ 4)))), (h18, .inr (7, mX7 h19 h20 h21 h22 h23 h24 h25 (upd v18 8 (u21_ 1)))), (h2, zi k2 600 f2), (h19, zi k19 40 f19), (h20, zi k20 40 f20), (h21, zi k21 40 f21), (h22, zi k22 40 f22), (h23, zi k23 40 f23), (h25, zi k25 270 f25), (h3, zi k3 12 (a21_ 1)), (h11, .inr (10, mX10 h12 h13 h14 h15 h16 h17 v11)), (h12, .inl (k12, 10, .inr (.inl f12))), (h4, .inr (10, mX10 h5 h6 h7 h8 h9 h10 v4)), (h5, .inl (k5, 400, .inr (.inl f5))), (h24, zi k24 160 (a21_ 0))]) (w1 := [(h1, .inr (9, mX9 h2 h3 (upd v1 3 (u21_ 2))))]) hP hD [2] [0, 1, 3, 4, 5, 6, 7, 8, 9, 10, 11, 12, 13, 14, 15] rfl rfl (by decide) (by decide) hk1 hFc hP1 hD1
      have hP : va_P (dC, dI) vwCl [(h0, .inr (4, mX4 h1 h4 h11 h18 (upd (upd v0 4 (u21_ 3)) 7 (u21_ 4)))), (h18, .inr (7, mX7 h19 h20 h21 h22 h23 h24 h25 (upd v18 8 (u21_ 1)))), (h1, .inr (9, mX9 h2 h3 (upd v1 3 (u21_ 2)))), (h2, zi k2 600 f2), (h19, zi k19 40 f19), (h20, zi k20 40 f20), (h21, zi k21 40 f21), (h22, zi k22 40 f22), (h23, zi k23 40 f23), (h25, zi k25 270 f25), (h3, zi k3 12 (a21_ 1)), (h11, .inr (10, mX10 h12 h13 h14 h15 h16 h17 v11)), (h12, .inl (k12, 10, .inr (.inl f12))), (h4, .inr (10, mX10 h5 h6 h7 h8 h9 h10 v4)), (h5, .inl (k5, 400, .inr (.inl f5))), (h24, zi k24 160 (a21_ 0))] H1 := hP.sub [0, 1, 15, 2, 3, 4, 5, 6, 7, 8, 9, 10, 11, 12, 13, 14] rfl
      have hD : va_D A [(h0, .inr (4, mX4 h1 h4 h11 h18 (upd (upd v0 4 (u21_ 3)) 7 (u21_ 4)))), (h18, .inr (7, mX7 h19 h20 h21 h22 h23 h24 h25 (upd v18 8 (u21_ 1)))), (h1, .inr (9, mX9 h2 h3 (upd v1 3 (u21_ 2)))), (h2, zi k2 600 f2), (h19, zi k19 40 f19), (h20, zi k20 40 f20), (h21, zi k21 40 f21), (h22, zi k22 40 f22), (h23, zi k23 40 f23), (h25, zi k25 270 f25), (h3, zi k3 12 (a21_ 1)), (h11, .inr (10, mX10 h12 h13 h14 h15 h16 h17 v11)), (h12, .inl (k12, 10, .inr (.inl f12))), (h4, .inr (10, mX10 h5 h6 h7 h8 h9 h10 v4)), (h5, .inl (k5, 400, .inr (.inl f5))), (h24, zi k24 160 (a21_ 0))] := hD.sub [0, 1, 15, 2, 3, 4, 5, 6, 7, 8, 9, 10, 11, 12, 13, 14] (by decide) rfl
      generalize H1 = H at hP hS ⊢
      clear hz1
      have b_ : -2147483648 ≤ (u21_ 3).toInt ∧ (u21_ 3).toInt ≤ 2147483647 := ⟨zlo _, zhi _⟩
      have b_ : -2147483648 ≤ (u21_ 4).toInt ∧ (u21_ 4).toInt ≤ 2147483647 := ⟨zlo _, zhi _⟩
      have hPc := hP.sub (ws' := [(h0, .inr (4, mX4 h1 h4 h11 h18 (upd (upd v0 4 (u21_ 3)) 7 (u21_ 4))))]) [0] rfl
      have hDc := hD.sub (ws' := [(h0, .inr (4, mX4 h1 h4 h11 h18 (upd (upd v0 4 (u21_ 3)) 7 (u21_ 4))))]) [0] (by decide) rfl
      have hKc := hK.sub (tys' := []) [] rfl
      have hFc := va_free (wc := [(h0, .inr (4, mX4 h1 h4 h11 h18 (upd (upd v0 4 (u21_ 3)) 7 (u21_ 4))))]) hD hS hA [0] rfl
      refine va_callv (va_runV (As := [.int 1, .int r130_]) (rest := []) ⟨hx, hb, hml, hown, hG⟩ (sX4_fail_0 l dC dI adK adV h0 h1 h4 h11 h18 H.size (upd (upd v0 4 (u21_ 3)) 7 (u21_ 4)) 1 r130_ (zR_updF (zR_updF hv0 4 rfl) 7 rfl)) (cwV 2 hG (zgV zv1021 zv1023 zv13 zv137 zv1024) rfl rfl rfl (by decide +kernel) ⟨Nat.le_of_ble_eq_true rfl, Nat.le_of_ble_eq_true rfl⟩) ⟨zPc_blind, va_recv hKc hPc (ci := 4) (q0 := 0) rfl rfl, zPc_pre hPc hKc hDc hE hS hFc hZ⟩ rfl rfl hl.1 rfl (lv_room (Nat.le_of_ble_eq_true rfl)) dX4_readPhrase_133 ⟨Nat.le_of_ble_eq_true rfl, Nat.le_of_ble_eq_true rfl⟩) hS (fun q _ h => hFc q h) hFc (fun u133_ t H1 locs ht hvm hw hB hz1 hk1 hS => ?_)
      replace hw : (265 ≤ (u133_ 0).toInt ∧ (u133_ 0).toInt ≤ 265) := hw
      have b_ := hw
      obtain ⟨w133_, a133_, b133_, hP1, hK1, hD1⟩ := hB
      rw [ht] at hP1
      obtain ⟨hP, hD⟩ := va_join (wr := [(h18, .inr (7, mX7 h19 h20 h21 h22 h23 h24 h25 (upd v18 8 (u21_ 1)))), (h1, .inr (9, mX9 h2 h3 (upd v1 3 (u21_ 2)))), (h2, zi k2 600 f2), (h19, zi k19 40 f19), (h20, zi k20 40 f20), (h21, zi k21 40 f21), (h22, zi k22 40 f22), (h23, zi k23 40 f23), (h25, zi k25 270 f25), (h3, zi k3 12 (a21_ 1)), (h11, .inr (10, mX10 h12 h13 h14 h15 h16 h17 v11)), (h12, .inl (k12, 10, .inr (.inl f12))), (h4, .inr (10, mX10 h5 h6 h7 h8 h9 h10 v4)), (h5, .inl (k5, 400, .inr (.inl f5))), (h24, zi k24 160 (a21_ 0))]) (w1 := [(h0, .inr (4, mX4 h1 h4 h11 h18 (upd (upd v0 4 (u133_ 0)) 7 (u133_ 1))))]) hP hD [0] [1, 2, 3, 4, 5, 6, 7, 8, 9, 10, 11, 12, 13, 14, 15] rfl rfl (by decide) (by decide) hk1 hFc hP1 hD1
      have hP : va_P (dC, dI) vwCl [(h0, .inr (4, mX4 h1 h4 h11 h18 (upd (upd v0 4 (u133_ 0)) 7 (u133_ 1)))), (h18, .inr (7, mX7 h19 h20 h21 h22 h23 h24 h25 (upd v18 8 (u21_ 1)))), (h1, .inr (9, mX9 h2 h3 (upd v1 3 (u21_ 2)))), (h2, zi k2 600 f2), (h19, zi k19 40 f19), (h20, zi k20 40 f20), (h21, zi k21 40 f21), (h22, zi k22 40 f22), (h23, zi k23 40 f23), (h25, zi k25 270 f25), (h3, zi k3 12 (a21_ 1)), (h11, .inr (10, mX10 h12 h13 h14 h15 h16 h17 v11)), (h12, .inl (k12, 10, .inr (.inl f12))), (h4, .inr (10, mX10 h5 h6 h7 h8 h9 h10 v4)), (h5, .inl (k5, 400, .inr (.inl f5))), (h24, zi k24 160 (a21_ 0))] H1 := hP.sub [15, 0, 1, 2, 3, 4, 5, 6, 7, 8, 9, 10, 11, 12, 13, 14] rfl
      have hD : va_D A [(h0, .inr (4, mX4 h1 h4 h11 h18 (upd (upd v0 4 (u133_ 0)) 7 (u133_ 1)))), (h18, .inr (7, mX7 h19 h20 h21 h22 h23 h24 h25 (upd v18 8 (u21_ 1)))), (h1, .inr (9, mX9 h2 h3 (upd v1 3 (u21_ 2)))), (h2, zi k2 600 f2), (h19, zi k19 40 f19), (h20, zi k20 40 f20), (h21, zi k21 40 f21), (h22, zi k22 40 f22), (h23, zi k23 40 f23), (h25, zi k25 270 f25), (h3, zi k3 12 (a21_ 1)), (h11, .inr (10, mX10 h12 h13 h14 h15 h16 h17 v11)), (h12, .inl (k12, 10, .inr (.inl f12))), (h4, .inr (10, mX10 h5 h6 h7 h8 h9 h10 v4)), (h5, .inl (k5, 400, .inr (.inl f5))), (h24, zi k24 160 (a21_ 0))] := hD.sub [15, 0, 1, 2, 3, 4, 5, 6, 7, 8, 9, 10, 11, 12, 13, 14] (by decide) rfl
      generalize H1 = H at hP hS ⊢
      clear hz1
      refine W.widen (k := 0) (n := 0) (by decide) (by decide) ?_
      have b_ : -2147483648 ≤ (v0 5).toInt ∧ (v0 5).toInt ≤ 2147483647 := ⟨zlo _, zhi _⟩
      have b_ : -2147483648 ≤ (v0 6).toInt ∧ (v0 6).toInt ≤ 2147483647 := ⟨zlo _, zhi _⟩
      have b_ : -2147483648 ≤ (u133_ 1).toInt ∧ (u133_ 1).toInt ≤ 2147483647 := ⟨zlo _, zhi _⟩
      have b_ : 0 ≤ (v0 9).toInt ∧ (v0 9).toInt ≤ 1 := hv0 9
      have b_ : 0 ≤ (v18 7).toInt ∧ (v18 7).toInt ≤ 40 := hv18 7
      have b_ : 0 ≤ (v18 9).toInt ∧ (v18 9).toInt ≤ 270 := hv18 9
      have b_ : -2147483648 ≤ (v18 10).toInt ∧ (v18 10).toInt ≤ 2147483647 := ⟨zlo _, zhi _⟩
      have b_ : -2147483648 ≤ (v18 11).toInt ∧ (v18 11).toInt ≤ 2147483647 := ⟨zlo _, zhi _⟩
      have hpost : (0 ≤ (u133_ 0).toInt ∧ (u133_ 0).toInt ≤ 265) ∧ (0 ≤ (v0 9).toInt ∧ (v0 9).toInt ≤ 1) ∧ (0 ≤ (v18 7).toInt ∧ (v18 7).toInt ≤ 40) ∧ (0 ≤ (u21_ 1).toInt ∧ (u21_ 1).toInt ≤ 160) ∧ (0 ≤ (v18 9).toInt ∧ (v18 9).toInt ≤ 270) ∧ (0 ≤ (u21_ 2).toInt ∧ (u21_ 2).toInt ≤ 12) := ⟨(by first | with_reducible assumption | exact ⟨by omega, by omega⟩), (by first | with_reducible assumption | exact ⟨by omega, by omega⟩), (by first | with_reducible assumption | exact ⟨by omega, by omega⟩), (by first | with_reducible assumption | exact ⟨by omega, by omega⟩), (by first | with_reducible assumption | exact ⟨by omega, by omega⟩), (by first | with_reducible assumption | exact ⟨by omega, by omega⟩)⟩
      have hP9 : va_P (dC, dI) vwCl [(h0, .inr (4, mX4 h1 h4 h11 h18 (upd (upd (upd (upd (upd v0 4 (u133_ 0)) 5 (v0 5)) 6 (v0 6)) 7 (u133_ 1)) 9 (v0 9)))), (h18, .inr (7, mX7 h19 h20 h21 h22 h23 h24 h25 (upd (upd (upd (upd (upd v18 7 (v18 7)) 8 (u21_ 1)) 9 (v18 9)) 10 (v18 10)) 11 (v18 11)))), (h1, .inr (9, mX9 h2 h3 (upd v1 3 (u21_ 2)))), (h2, zi k2 600 f2), (h19, zi k19 40 f19), (h20, zi k20 40 f20), (h21, zi k21 40 f21), (h22, zi k22 40 f22), (h23, zi k23 40 f23), (h25, zi k25 270 f25), (h3, zi k3 12 (a21_ 1)), (h11, .inr (10, mX10 h12 h13 h14 h15 h16 h17 v11)), (h12, .inl (k12, 10, .inr (.inl f12))), (h4, .inr (10, mX10 h5 h6 h7 h8 h9 h10 v4)), (h5, .inl (k5, 400, .inr (.inl f5))), (h24, zi k24 160 (a21_ 0))] H := hP
      have hD9 : va_D A [(h0, .inr (4, mX4 h1 h4 h11 h18 (upd (upd (upd (upd (upd v0 4 (u133_ 0)) 5 (v0 5)) 6 (v0 6)) 7 (u133_ 1)) 9 (v0 9)))), (h18, .inr (7, mX7 h19 h20 h21 h22 h23 h24 h25 (upd (upd (upd (upd (upd v18 7 (v18 7)) 8 (u21_ 1)) 9 (v18 9)) 10 (v18 10)) 11 (v18 11)))), (h1, .inr (9, mX9 h2 h3 (upd v1 3 (u21_ 2)))), (h2, zi k2 600 f2), (h19, zi k19 40 f19), (h20, zi k20 40 f20), (h21, zi k21 40 f21), (h22, zi k22 40 f22), (h23, zi k23 40 f23), (h25, zi k25 270 f25), (h3, zi k3 12 (a21_ 1)), (h11, .inr (10, mX10 h12 h13 h14 h15 h16 h17 v11)), (h12, .inl (k12, 10, .inr (.inl f12))), (h4, .inr (10, mX10 h5 h6 h7 h8 h9 h10 v4)), (h5, .inl (k5, 400, .inr (.inl f5))), (h24, zi k24 160 (a21_ 0))] := hD
      exact W.vret hx hb hr (fun t ht hW => ⟨⟨(fun i => ([(u133_ 0), (v0 5), (v0 6), (u133_ 1), (v0 9), (v18 7), (u21_ 1), (v18 9), (v18 10), (v18 11), (u21_ 2)] : List (Int32)).getD i 0), rfl, hpost, (fun _ => 0), (fun i => ([f19, f20, f21, f22, f23, f25, (a21_ 1), (a21_ 0)] : List (Nat → Int32)).getD i (fun _ => 0)), (fun _ => (fun _ => 0)), hf25, by rw [ht]; exact hP9, va_K.moved hW.alike hK, hD9⟩, hS.F ht⟩) hS.2.2 dX4_readPhrase_136
    · skip
      have b_ : -2147483648 ≤ (u21_ 0).toInt ∧ (u21_ 0).toInt ≤ 2147483647 := ⟨zlo _, zhi _⟩
      refine lv_icmp_ge (tgt := 124) hx hb dX4_readPhrase_29 (by decide) (fun c_ => ?_) (fun c_ => ?_)
      · skip
        have b_ := zT_ge rfl rfl c_
        have hc : va_P (dC, dI) vwCl [(h0, .inr (4, mX4 h1 h4 h11 h18 (upd (upd v0 4 (u21_ 3)) 7 (u21_ 4)))), (h18, .inr (7, mX7 h19 h20 h21 h22 h23 h24 h25 (upd v18 8 (u21_ 1)))), (h1, .inr (9, mX9 h2 h3 (upd v1 3 (u21_ 2)))), (h2, zi k2 600 f2), (h19, zi k19 40 f19), (h20, zi k20 40 f20), (h21, zi k21 40 f21), (h22, zi k22 40 f22), (h23, zi k23 40 f23), (h25, zi k25 270 f25), (h3, zi k3 12 (a21_ 1)), (h11, .inr (10, mX10 h12 h13 h14 h15 h16 h17 v11)), (h12, .inl (k12, 10, .inr (.inl f12))), (h4, .inr (10, mX10 h5 h6 h7 h8 h9 h10 v4)), (h5, .inl (k5, 400, .inr (.inl f5))), (h24, zi k24 160 (a21_ 0))] H ∧ va_D A [(h0, .inr (4, mX4 h1 h4 h11 h18 (upd (upd v0 4 (u21_ 3)) 7 (u21_ 4)))), (h18, .inr (7, mX7 h19 h20 h21 h22 h23 h24 h25 (upd v18 8 (u21_ 1)))), (h1, .inr (9, mX9 h2 h3 (upd v1 3 (u21_ 2)))), (h2, zi k2 600 f2), (h19, zi k19 40 f19), (h20, zi k20 40 f20), (h21, zi k21 40 f21), (h22, zi k22 40 f22), (h23, zi k23 40 f23), (h25, zi k25 270 f25), (h3, zi k3 12 (a21_ 1)), (h11, .inr (10, mX10 h12 h13 h14 h15 h16 h17 v11)), (h12, .inl (k12, 10, .inr (.inl f12))), (h4, .inr (10, mX10 h5 h6 h7 h8 h9 h10 v4)), (h5, .inl (k5, 400, .inr (.inl f5))), (h24, zi k24 160 (a21_ 0))] ∧ va_S A s.heap H locs ∧ lv_has ls 4 [(0, .ref h0), (1, .int x1), (2, .int r12_), (3, .int (u21_ 0))] ∧ (0 ≤ r26_.toInt ∧ r26_.toInt ≤ 600) := ⟨hP, hD, hS, lv_sub hl [0, 1, 2, 3] rfl, (by first | with_reducible assumption | exact ⟨by omega, by omega⟩)⟩
        exact hJ124 H locs ls (fun _ => 0) (fun _ => 0) (fun _ => (fun _ => 0)) (fun _ => (fun _ => 0)) hc
      · skip
        have b_ := zF_ge rfl rfl c_
        refine lv_aload_n hx hb dX4_readPhrase_32 rfl (lv_at hl 0 rfl) ?_
        refine va_get (D := (dC, dI)) (ci := 4) (v := .int (u21_ 3)) (C := RX4) (T := TX4) (N := 12) hx hb hG zuX4 hown hK hP 0 rfl rfl 4 (by decide) (hG _ zv412) (fun _ h9 => h9) rfl dX4_readPhrase_33 ?_
        refine lv_bipush (v := 34) hx hb dX4_readPhrase_36 (by decide) ?_
        have b_ : -2147483648 ≤ (u21_ 3).toInt ∧ (u21_ 3).toInt ≤ 2147483647 := ⟨zlo _, zhi _⟩
        refine lv_icmp_ne (tgt := 124) hx hb dX4_readPhrase_38 (by decide) (fun c_ => ?_) (fun c_ => ?_)
        · skip
          have b_ := zT_ne rfl zk_34 c_
          have hc : va_P (dC, dI) vwCl [(h0, .inr (4, mX4 h1 h4 h11 h18 (upd (upd v0 4 (u21_ 3)) 7 (u21_ 4)))), (h18, .inr (7, mX7 h19 h20 h21 h22 h23 h24 h25 (upd v18 8 (u21_ 1)))), (h1, .inr (9, mX9 h2 h3 (upd v1 3 (u21_ 2)))), (h2, zi k2 600 f2), (h19, zi k19 40 f19), (h20, zi k20 40 f20), (h21, zi k21 40 f21), (h22, zi k22 40 f22), (h23, zi k23 40 f23), (h25, zi k25 270 f25), (h3, zi k3 12 (a21_ 1)), (h11, .inr (10, mX10 h12 h13 h14 h15 h16 h17 v11)), (h12, .inl (k12, 10, .inr (.inl f12))), (h4, .inr (10, mX10 h5 h6 h7 h8 h9 h10 v4)), (h5, .inl (k5, 400, .inr (.inl f5))), (h24, zi k24 160 (a21_ 0))] H ∧ va_D A [(h0, .inr (4, mX4 h1 h4 h11 h18 (upd (upd v0 4 (u21_ 3)) 7 (u21_ 4)))), (h18, .inr (7, mX7 h19 h20 h21 h22 h23 h24 h25 (upd v18 8 (u21_ 1)))), (h1, .inr (9, mX9 h2 h3 (upd v1 3 (u21_ 2)))), (h2, zi k2 600 f2), (h19, zi k19 40 f19), (h20, zi k20 40 f20), (h21, zi k21 40 f21), (h22, zi k22 40 f22), (h23, zi k23 40 f23), (h25, zi k25 270 f25), (h3, zi k3 12 (a21_ 1)), (h11, .inr (10, mX10 h12 h13 h14 h15 h16 h17 v11)), (h12, .inl (k12, 10, .inr (.inl f12))), (h4, .inr (10, mX10 h5 h6 h7 h8 h9 h10 v4)), (h5, .inl (k5, 400, .inr (.inl f5))), (h24, zi k24 160 (a21_ 0))] ∧ va_S A s.heap H locs ∧ lv_has ls 4 [(0, .ref h0), (1, .int x1), (2, .int r12_), (3, .int (u21_ 0))] ∧ (0 ≤ r26_.toInt ∧ r26_.toInt ≤ 600) := ⟨hP, hD, hS, lv_sub hl [0, 1, 2, 3] rfl, (by first | with_reducible assumption | exact ⟨by omega, by omega⟩)⟩
          exact hJ124 H locs ls (fun _ => 0) (fun _ => 0) (fun _ => (fun _ => 0)) (fun _ => (fun _ => 0)) hc
        · skip
          have b_ := zF_ne rfl zk_34 c_
          refine lv_aload_n hx hb dX4_readPhrase_41 rfl (lv_at hl 0 rfl) ?_
          refine va_get (D := (dC, dI)) (ci := 4) (v := .ref h1) (C := RX4) (T := TX4) (N := 12) hx hb hG zuX4 hown hK hP 0 rfl rfl 0 (by decide) (hG _ zv408) (fun _ h9 => h9) rfl dX4_readPhrase_42 ?_
          refine lv_iload_n hx hb dX4_readPhrase_45 rfl (lv_at hl 3 rfl) ?_
          have hPc := hP.sub (ws' := [(h1, .inr (9, mX9 h2 h3 (upd v1 3 (u21_ 2)))), (h2, zi k2 600 f2)]) [2, 3] rfl
          have hDc := hD.sub (ws' := [(h1, .inr (9, mX9 h2 h3 (upd v1 3 (u21_ 2)))), (h2, zi k2 600 f2)]) [2, 3] (by decide) rfl
          have hKc := hK.sub (tys' := [(k2, .byte)]) [0] rfl
          have hFc := va_free (wc := [(h1, .inr (9, mX9 h2 h3 (upd v1 3 (u21_ 2)))), (h2, zi k2 600 f2)]) hD hS hA [2, 3] rfl
          refine va_calli (va_runV (As := [.int (u21_ 0)]) (rest := []) ⟨hx, hb, hml, hown, hG⟩ (sX9_at_0 l dC dI adK adV h1 h2 h3 k2 H.size (upd v1 3 (u21_ 2)) f2 (u21_ 0) (zR_up2 hv1 3 (show (0 : Int) ≤ ((u21_ 2) : Int32).toInt ∧ ((u21_ 2) : Int32).toInt ≤ (12 : Int) from (by first | with_reducible assumption | exact ⟨by omega, by omega⟩)))) (cwV 1 hG (zgV zv1032 zv641 zv642 zv130 zv643) rfl rfl rfl (by decide +kernel) ⟨Nat.le_of_ble_eq_true rfl, Nat.le_of_ble_eq_true rfl⟩) ⟨zPc_blind, va_recv hKc hPc (ci := 9) (q0 := 0) rfl rfl, zPc_pre hPc hKc hDc hE hS hFc hZ⟩ rfl rfl hl.1 rfl (lv_room (Nat.le_of_ble_eq_true rfl)) dX4_readPhrase_46 ⟨Nat.le_of_ble_eq_true rfl, Nat.le_of_ble_eq_true rfl⟩) hS (fun q _ h => hFc q h) hFc (fun r46_ u46_ t H1 locs ht hvm hw hB hz1 hk1 hS => ?_)
          replace hw : ((-1) ≤ r46_.toInt ∧ r46_.toInt ≤ 255) ∧ (0 ≤ (u21_ 0).toInt ∧ (u21_ 0).toInt < (v1 2).toInt → r46_.toInt = (f2 (((u21_ 0) : Int32)).toNatClampNeg &&& 255).toInt) ∧ (r46_.toInt ≠ -1 → 0 ≤ (u21_ 0).toInt ∧ (u21_ 0).toInt < (v1 2).toInt ∧ (u21_ 0).toInt < 600) := hw
          obtain ⟨b_, hX46_0, hX46_1⟩ := hw
          obtain ⟨w46_, a46_, b46_, hP1, hK1, hD1⟩ := hB
          rw [ht] at hP1
          obtain ⟨hP, hD⟩ := va_join (wr := [(h0, .inr (4, mX4 h1 h4 h11 h18 (upd (upd v0 4 (u21_ 3)) 7 (u21_ 4)))), (h18, .inr (7, mX7 h19 h20 h21 h22 h23 h24 h25 (upd v18 8 (u21_ 1)))), (h19, zi k19 40 f19), (h20, zi k20 40 f20), (h21, zi k21 40 f21), (h22, zi k22 40 f22), (h23, zi k23 40 f23), (h25, zi k25 270 f25), (h3, zi k3 12 (a21_ 1)), (h11, .inr (10, mX10 h12 h13 h14 h15 h16 h17 v11)), (h12, .inl (k12, 10, .inr (.inl f12))), (h4, .inr (10, mX10 h5 h6 h7 h8 h9 h10 v4)), (h5, .inl (k5, 400, .inr (.inl f5))), (h24, zi k24 160 (a21_ 0))]) (w1 := [(h1, .inr (9, mX9 h2 h3 (upd v1 3 (u21_ 2)))), (h2, zi k2 600 f2)]) hP hD [2, 3] [0, 1, 4, 5, 6, 7, 8, 9, 10, 11, 12, 13, 14, 15] rfl rfl (by decide) (by decide) hk1 hFc hP1 hD1
          have hP : va_P (dC, dI) vwCl [(h0, .inr (4, mX4 h1 h4 h11 h18 (upd (upd v0 4 (u21_ 3)) 7 (u21_ 4)))), (h18, .inr (7, mX7 h19 h20 h21 h22 h23 h24 h25 (upd v18 8 (u21_ 1)))), (h1, .inr (9, mX9 h2 h3 (upd v1 3 (u21_ 2)))), (h2, zi k2 600 f2), (h19, zi k19 40 f19), (h20, zi k20 40 f20), (h21, zi k21 40 f21), (h22, zi k22 40 f22), (h23, zi k23 40 f23), (h25, zi k25 270 f25), (h3, zi k3 12 (a21_ 1)), (h11, .inr (10, mX10 h12 h13 h14 h15 h16 h17 v11)), (h12, .inl (k12, 10, .inr (.inl f12))), (h4, .inr (10, mX10 h5 h6 h7 h8 h9 h10 v4)), (h5, .inl (k5, 400, .inr (.inl f5))), (h24, zi k24 160 (a21_ 0))] H1 := hP.sub [0, 1, 14, 15, 2, 3, 4, 5, 6, 7, 8, 9, 10, 11, 12, 13] rfl
          have hD : va_D A [(h0, .inr (4, mX4 h1 h4 h11 h18 (upd (upd v0 4 (u21_ 3)) 7 (u21_ 4)))), (h18, .inr (7, mX7 h19 h20 h21 h22 h23 h24 h25 (upd v18 8 (u21_ 1)))), (h1, .inr (9, mX9 h2 h3 (upd v1 3 (u21_ 2)))), (h2, zi k2 600 f2), (h19, zi k19 40 f19), (h20, zi k20 40 f20), (h21, zi k21 40 f21), (h22, zi k22 40 f22), (h23, zi k23 40 f23), (h25, zi k25 270 f25), (h3, zi k3 12 (a21_ 1)), (h11, .inr (10, mX10 h12 h13 h14 h15 h16 h17 v11)), (h12, .inl (k12, 10, .inr (.inl f12))), (h4, .inr (10, mX10 h5 h6 h7 h8 h9 h10 v4)), (h5, .inl (k5, 400, .inr (.inl f5))), (h24, zi k24 160 (a21_ 0))] := hD.sub [0, 1, 14, 15, 2, 3, 4, 5, 6, 7, 8, 9, 10, 11, 12, 13] (by decide) rfl
          generalize H1 = H at hP hS ⊢
          clear hz1
          refine lv_bipush (v := 34) hx hb dX4_readPhrase_49 (by decide) ?_
          refine lv_icmp_ne (tgt := 62) hx hb dX4_readPhrase_51 (by decide) (fun c_ => ?_) (fun c_ => ?_)
          · skip
            have b_ := zT_ne rfl zk_34 c_
            refine lv_aload_n hx hb dX4_readPhrase_62 rfl (lv_at hl 0 rfl) ?_
            refine va_get (D := (dC, dI)) (ci := 4) (v := .ref h1) (C := RX4) (T := TX4) (N := 12) hx hb hG zuX4 hown hK hP 0 rfl rfl 0 (by decide) (hG _ zv408) (fun _ h9 => h9) rfl dX4_readPhrase_63 ?_
            refine lv_iload_n hx hb dX4_readPhrase_66 rfl (lv_at hl 3 rfl) ?_
            have hPc := hP.sub (ws' := [(h1, .inr (9, mX9 h2 h3 (upd v1 3 (u21_ 2)))), (h2, zi k2 600 f2)]) [2, 3] rfl
            have hDc := hD.sub (ws' := [(h1, .inr (9, mX9 h2 h3 (upd v1 3 (u21_ 2)))), (h2, zi k2 600 f2)]) [2, 3] (by decide) rfl
            have hKc := hK.sub (tys' := [(k2, .byte)]) [0] rfl
            have hFc := va_free (wc := [(h1, .inr (9, mX9 h2 h3 (upd v1 3 (u21_ 2)))), (h2, zi k2 600 f2)]) hD hS hA [2, 3] rfl
            refine va_calli (va_runV (As := [.int (u21_ 0)]) (rest := []) ⟨hx, hb, hml, hown, hG⟩ (sX9_startsToken_0 l dC dI adK adV h1 h2 h3 k2 H.size (upd v1 3 (u21_ 2)) f2 (u21_ 0) (zR_up2 hv1 3 (show (0 : Int) ≤ ((u21_ 2) : Int32).toInt ∧ ((u21_ 2) : Int32).toInt ≤ (12 : Int) from (by first | with_reducible assumption | exact ⟨by omega, by omega⟩)))) (cwV 1 hG (zgV zv1130 zv645 zv646 zv130 zv647) rfl rfl rfl (by decide +kernel) ⟨Nat.le_of_ble_eq_true rfl, Nat.le_of_ble_eq_true rfl⟩) ⟨zPc_blind, va_recv hKc hPc (ci := 9) (q0 := 0) rfl rfl, zPc_pre hPc hKc hDc hE hS hFc hZ⟩ rfl rfl hl.1 rfl (lv_room (Nat.le_of_ble_eq_true rfl)) dX4_readPhrase_67 ⟨Nat.le_of_ble_eq_true rfl, Nat.le_of_ble_eq_true rfl⟩) hS (fun q _ h => hFc q h) hFc (fun r67_ u67_ t H1 locs ht hvm hw hB hz1 hk1 hS => ?_)
            replace hw : (0 ≤ r67_.toInt ∧ r67_.toInt ≤ 1) ∧ (r67_.toInt = 1 → zsb f2 (v1 2).toInt (u21_ 0).toInt = true) ∧ (r67_.toInt = 0 → zsb f2 (v1 2).toInt (u21_ 0).toInt = false) := hw
            obtain ⟨b_, hX67_0, hX67_1⟩ := hw
            obtain ⟨w67_, a67_, b67_, hP1, hK1, hD1⟩ := hB
            rw [ht] at hP1
            obtain ⟨hP, hD⟩ := va_join (wr := [(h0, .inr (4, mX4 h1 h4 h11 h18 (upd (upd v0 4 (u21_ 3)) 7 (u21_ 4)))), (h18, .inr (7, mX7 h19 h20 h21 h22 h23 h24 h25 (upd v18 8 (u21_ 1)))), (h19, zi k19 40 f19), (h20, zi k20 40 f20), (h21, zi k21 40 f21), (h22, zi k22 40 f22), (h23, zi k23 40 f23), (h25, zi k25 270 f25), (h3, zi k3 12 (a21_ 1)), (h11, .inr (10, mX10 h12 h13 h14 h15 h16 h17 v11)), (h12, .inl (k12, 10, .inr (.inl f12))), (h4, .inr (10, mX10 h5 h6 h7 h8 h9 h10 v4)), (h5, .inl (k5, 400, .inr (.inl f5))), (h24, zi k24 160 (a21_ 0))]) (w1 := [(h1, .inr (9, mX9 h2 h3 (upd v1 3 (u21_ 2)))), (h2, zi k2 600 f2)]) hP hD [2, 3] [0, 1, 4, 5, 6, 7, 8, 9, 10, 11, 12, 13, 14, 15] rfl rfl (by decide) (by decide) hk1 hFc hP1 hD1
            have hP : va_P (dC, dI) vwCl [(h0, .inr (4, mX4 h1 h4 h11 h18 (upd (upd v0 4 (u21_ 3)) 7 (u21_ 4)))), (h18, .inr (7, mX7 h19 h20 h21 h22 h23 h24 h25 (upd v18 8 (u21_ 1)))), (h1, .inr (9, mX9 h2 h3 (upd v1 3 (u21_ 2)))), (h2, zi k2 600 f2), (h19, zi k19 40 f19), (h20, zi k20 40 f20), (h21, zi k21 40 f21), (h22, zi k22 40 f22), (h23, zi k23 40 f23), (h25, zi k25 270 f25), (h3, zi k3 12 (a21_ 1)), (h11, .inr (10, mX10 h12 h13 h14 h15 h16 h17 v11)), (h12, .inl (k12, 10, .inr (.inl f12))), (h4, .inr (10, mX10 h5 h6 h7 h8 h9 h10 v4)), (h5, .inl (k5, 400, .inr (.inl f5))), (h24, zi k24 160 (a21_ 0))] H1 := hP.sub [0, 1, 14, 15, 2, 3, 4, 5, 6, 7, 8, 9, 10, 11, 12, 13] rfl
            have hD : va_D A [(h0, .inr (4, mX4 h1 h4 h11 h18 (upd (upd v0 4 (u21_ 3)) 7 (u21_ 4)))), (h18, .inr (7, mX7 h19 h20 h21 h22 h23 h24 h25 (upd v18 8 (u21_ 1)))), (h1, .inr (9, mX9 h2 h3 (upd v1 3 (u21_ 2)))), (h2, zi k2 600 f2), (h19, zi k19 40 f19), (h20, zi k20 40 f20), (h21, zi k21 40 f21), (h22, zi k22 40 f22), (h23, zi k23 40 f23), (h25, zi k25 270 f25), (h3, zi k3 12 (a21_ 1)), (h11, .inr (10, mX10 h12 h13 h14 h15 h16 h17 v11)), (h12, .inl (k12, 10, .inr (.inl f12))), (h4, .inr (10, mX10 h5 h6 h7 h8 h9 h10 v4)), (h5, .inl (k5, 400, .inr (.inl f5))), (h24, zi k24 160 (a21_ 0))] := hD.sub [0, 1, 14, 15, 2, 3, 4, 5, 6, 7, 8, 9, 10, 11, 12, 13] (by decide) rfl
            generalize H1 = H at hP hS ⊢
            clear hz1
            refine zcutW (fun H locs ls u95_ w95_ a95_ b95_ => va_P (dC, dI) vwCl [(h0, .inr (4, mX4 h1 h4 h11 h18 (upd (upd v0 4 (u21_ 3)) 7 (u21_ 4)))), (h18, .inr (7, mX7 h19 h20 h21 h22 h23 h24 h25 (upd v18 8 (u21_ 1)))), (h1, .inr (9, mX9 h2 h3 (upd v1 3 (u21_ 2)))), (h2, zi k2 600 f2), (h19, zi k19 40 f19), (h20, zi k20 40 f20), (h21, zi k21 40 f21), (h22, zi k22 40 f22), (h23, zi k23 40 f23), (h25, zi k25 270 f25), (h3, zi k3 12 (a21_ 1)), (h11, .inr (10, mX10 h12 h13 h14 h15 h16 h17 v11)), (h12, .inl (k12, 10, .inr (.inl f12))), (h4, .inr (10, mX10 h5 h6 h7 h8 h9 h10 v4)), (h5, .inl (k5, 400, .inr (.inl f5))), (h24, zi k24 160 (a21_ 0))] H ∧ va_D A [(h0, .inr (4, mX4 h1 h4 h11 h18 (upd (upd v0 4 (u21_ 3)) 7 (u21_ 4)))), (h18, .inr (7, mX7 h19 h20 h21 h22 h23 h24 h25 (upd v18 8 (u21_ 1)))), (h1, .inr (9, mX9 h2 h3 (upd v1 3 (u21_ 2)))), (h2, zi k2 600 f2), (h19, zi k19 40 f19), (h20, zi k20 40 f20), (h21, zi k21 40 f21), (h22, zi k22 40 f22), (h23, zi k23 40 f23), (h25, zi k25 270 f25), (h3, zi k3 12 (a21_ 1)), (h11, .inr (10, mX10 h12 h13 h14 h15 h16 h17 v11)), (h12, .inl (k12, 10, .inr (.inl f12))), (h4, .inr (10, mX10 h5 h6 h7 h8 h9 h10 v4)), (h5, .inl (k5, 400, .inr (.inl f5))), (h24, zi k24 160 (a21_ 0))] ∧ va_S A s.heap H locs ∧ lv_has ls 4 [(0, .ref h0), (1, .int x1), (2, .int r12_), (3, .int (u21_ 0))] ∧ (0 ≤ r67_.toInt ∧ r67_.toInt ≤ 1)) (fun ls u95_ w95_ => F0 m 95 ls []) 0 0 ?_ (fun hJ95 => ?_)
            · skip
              intro H locs ls u95_ w95_ a95_ b95_ hc
              obtain ⟨hP, hD, hS, hl, b_⟩ := hc
              refine lv_aload_n hx hb dX4_readPhrase_95 rfl (lv_at hl 0 rfl) ?_
              refine va_get (D := (dC, dI)) (ci := 4) (v := .ref h1) (C := RX4) (T := TX4) (N := 12) hx hb hG zuX4 hown hK hP 0 rfl rfl 0 (by decide) (hG _ zv408) (fun _ h9 => h9) rfl dX4_readPhrase_96 ?_
              refine lv_iload_n hx hb dX4_readPhrase_99 rfl (lv_at hl 3 rfl) ?_
              have hPc := hP.sub (ws' := [(h1, .inr (9, mX9 h2 h3 (upd v1 3 (u21_ 2)))), (h2, zi k2 600 f2)]) [2, 3] rfl
              have hDc := hD.sub (ws' := [(h1, .inr (9, mX9 h2 h3 (upd v1 3 (u21_ 2)))), (h2, zi k2 600 f2)]) [2, 3] (by decide) rfl
              have hKc := hK.sub (tys' := [(k2, .byte)]) [0] rfl
              have hFc := va_free (wc := [(h1, .inr (9, mX9 h2 h3 (upd v1 3 (u21_ 2)))), (h2, zi k2 600 f2)]) hD hS hA [2, 3] rfl
              refine va_calli (va_runV (As := [.int (u21_ 0)]) (rest := []) ⟨hx, hb, hml, hown, hG⟩ (sX9_startsToken_0 l dC dI adK adV h1 h2 h3 k2 H.size (upd v1 3 (u21_ 2)) f2 (u21_ 0) (zR_up2 hv1 3 (show (0 : Int) ≤ ((u21_ 2) : Int32).toInt ∧ ((u21_ 2) : Int32).toInt ≤ (12 : Int) from (by first | with_reducible assumption | exact ⟨by omega, by omega⟩)))) (cwV 1 hG (zgV zv1130 zv645 zv646 zv130 zv647) rfl rfl rfl (by decide +kernel) ⟨Nat.le_of_ble_eq_true rfl, Nat.le_of_ble_eq_true rfl⟩) ⟨zPc_blind, va_recv hKc hPc (ci := 9) (q0 := 0) rfl rfl, zPc_pre hPc hKc hDc hE hS hFc hZ⟩ rfl rfl hl.1 rfl (lv_room (Nat.le_of_ble_eq_true rfl)) dX4_readPhrase_100 ⟨Nat.le_of_ble_eq_true rfl, Nat.le_of_ble_eq_true rfl⟩) hS (fun q _ h => hFc q h) hFc (fun r100_ u100_ t H1 locs ht hvm hw hB hz1 hk1 hS => ?_)
              replace hw : (0 ≤ r100_.toInt ∧ r100_.toInt ≤ 1) ∧ (r100_.toInt = 1 → zsb f2 (v1 2).toInt (u21_ 0).toInt = true) ∧ (r100_.toInt = 0 → zsb f2 (v1 2).toInt (u21_ 0).toInt = false) := hw
              obtain ⟨b_, hX100_0, hX100_1⟩ := hw
              obtain ⟨w100_, a100_, b100_, hP1, hK1, hD1⟩ := hB
              rw [ht] at hP1
              obtain ⟨hP, hD⟩ := va_join (wr := [(h0, .inr (4, mX4 h1 h4 h11 h18 (upd (upd v0 4 (u21_ 3)) 7 (u21_ 4)))), (h18, .inr (7, mX7 h19 h20 h21 h22 h23 h24 h25 (upd v18 8 (u21_ 1)))), (h19, zi k19 40 f19), (h20, zi k20 40 f20), (h21, zi k21 40 f21), (h22, zi k22 40 f22), (h23, zi k23 40 f23), (h25, zi k25 270 f25), (h3, zi k3 12 (a21_ 1)), (h11, .inr (10, mX10 h12 h13 h14 h15 h16 h17 v11)), (h12, .inl (k12, 10, .inr (.inl f12))), (h4, .inr (10, mX10 h5 h6 h7 h8 h9 h10 v4)), (h5, .inl (k5, 400, .inr (.inl f5))), (h24, zi k24 160 (a21_ 0))]) (w1 := [(h1, .inr (9, mX9 h2 h3 (upd v1 3 (u21_ 2)))), (h2, zi k2 600 f2)]) hP hD [2, 3] [0, 1, 4, 5, 6, 7, 8, 9, 10, 11, 12, 13, 14, 15] rfl rfl (by decide) (by decide) hk1 hFc hP1 hD1
              have hP : va_P (dC, dI) vwCl [(h0, .inr (4, mX4 h1 h4 h11 h18 (upd (upd v0 4 (u21_ 3)) 7 (u21_ 4)))), (h18, .inr (7, mX7 h19 h20 h21 h22 h23 h24 h25 (upd v18 8 (u21_ 1)))), (h1, .inr (9, mX9 h2 h3 (upd v1 3 (u21_ 2)))), (h2, zi k2 600 f2), (h19, zi k19 40 f19), (h20, zi k20 40 f20), (h21, zi k21 40 f21), (h22, zi k22 40 f22), (h23, zi k23 40 f23), (h25, zi k25 270 f25), (h3, zi k3 12 (a21_ 1)), (h11, .inr (10, mX10 h12 h13 h14 h15 h16 h17 v11)), (h12, .inl (k12, 10, .inr (.inl f12))), (h4, .inr (10, mX10 h5 h6 h7 h8 h9 h10 v4)), (h5, .inl (k5, 400, .inr (.inl f5))), (h24, zi k24 160 (a21_ 0))] H1 := hP.sub [0, 1, 14, 15, 2, 3, 4, 5, 6, 7, 8, 9, 10, 11, 12, 13] rfl
              have hD : va_D A [(h0, .inr (4, mX4 h1 h4 h11 h18 (upd (upd v0 4 (u21_ 3)) 7 (u21_ 4)))), (h18, .inr (7, mX7 h19 h20 h21 h22 h23 h24 h25 (upd v18 8 (u21_ 1)))), (h1, .inr (9, mX9 h2 h3 (upd v1 3 (u21_ 2)))), (h2, zi k2 600 f2), (h19, zi k19 40 f19), (h20, zi k20 40 f20), (h21, zi k21 40 f21), (h22, zi k22 40 f22), (h23, zi k23 40 f23), (h25, zi k25 270 f25), (h3, zi k3 12 (a21_ 1)), (h11, .inr (10, mX10 h12 h13 h14 h15 h16 h17 v11)), (h12, .inl (k12, 10, .inr (.inl f12))), (h4, .inr (10, mX10 h5 h6 h7 h8 h9 h10 v4)), (h5, .inl (k5, 400, .inr (.inl f5))), (h24, zi k24 160 (a21_ 0))] := hD.sub [0, 1, 14, 15, 2, 3, 4, 5, 6, 7, 8, 9, 10, 11, 12, 13] (by decide) rfl
              generalize H1 = H at hP hS ⊢
              clear hz1
              refine lv_if_eq (tgt := 118) hx hb dX4_readPhrase_103 (by decide) (fun c_ => ?_) (fun c_ => ?_)
              · skip
                have b_ := zT_eq rfl zk_0 c_
                obtain ⟨z118, e_z118⟩ : ∃ z : Int32, z = (u21_ 0) + Int32.ofInt 1 := ⟨_, rfl⟩
                have b_ := zadd (x := (u21_ 0)) (y := Int32.ofInt 1) rfl (show (Int32.ofInt 1).toInt = 1 from by decide) e_z118 (by omega) (by omega)
                refine lv_iinc (v := z118) (lv' := [(3, .int z118), (0, .ref h0), (1, .int x1), (2, .int r12_)]) hx hb dX4_readPhrase_118 hl (k := 3) rfl e_z118.symm (by decide) rfl (fun ls hl => ?_)
                refine lv_goto (tgt := 21) hx hb dX4_readPhrase_121 (by decide) ?_
                have b_ : -2147483648 ≤ x1.toInt ∧ x1.toInt ≤ 2147483647 := ⟨zlo _, zhi _⟩
                have hc : va_P (dC, dI) vwCl [(h0, .inr (4, mX4 h1 h4 h11 h18 (upd (upd v0 4 (u21_ 3)) 7 (u21_ 4)))), (h18, .inr (7, mX7 h19 h20 h21 h22 h23 h24 h25 (upd v18 8 (u21_ 1)))), (h1, .inr (9, mX9 h2 h3 (upd v1 3 (u21_ 2)))), (h2, zi k2 600 f2), (h19, zi k19 40 f19), (h20, zi k20 40 f20), (h21, zi k21 40 f21), (h22, zi k22 40 f22), (h23, zi k23 40 f23), (h25, zi k25 270 f25), (h3, zi k3 12 (a21_ 1)), (h11, .inr (10, mX10 h12 h13 h14 h15 h16 h17 v11)), (h12, .inl (k12, 10, .inr (.inl f12))), (h4, .inr (10, mX10 h5 h6 h7 h8 h9 h10 v4)), (h5, .inl (k5, 400, .inr (.inl f5))), (h24, zi k24 160 (a21_ 0))] H ∧ va_D A [(h0, .inr (4, mX4 h1 h4 h11 h18 (upd (upd v0 4 (u21_ 3)) 7 (u21_ 4)))), (h18, .inr (7, mX7 h19 h20 h21 h22 h23 h24 h25 (upd v18 8 (u21_ 1)))), (h1, .inr (9, mX9 h2 h3 (upd v1 3 (u21_ 2)))), (h2, zi k2 600 f2), (h19, zi k19 40 f19), (h20, zi k20 40 f20), (h21, zi k21 40 f21), (h22, zi k22 40 f22), (h23, zi k23 40 f23), (h25, zi k25 270 f25), (h3, zi k3 12 (a21_ 1)), (h11, .inr (10, mX10 h12 h13 h14 h15 h16 h17 v11)), (h12, .inl (k12, 10, .inr (.inl f12))), (h4, .inr (10, mX10 h5 h6 h7 h8 h9 h10 v4)), (h5, .inl (k5, 400, .inr (.inl f5))), (h24, zi k24 160 (a21_ 0))] ∧ va_S A s.heap H locs ∧ lv_has ls 4 [(0, .ref h0), (1, .int x1), (2, .int r12_), (3, .int z118)] ∧ (0 ≤ (u21_ 1).toInt ∧ (u21_ 1).toInt ≤ 160) ∧ (0 ≤ (u21_ 2).toInt ∧ (u21_ 2).toInt ≤ 12) := ⟨hP, hD, hS, lv_sub hl [1, 2, 3, 0] rfl, (by first | with_reducible assumption | exact ⟨by omega, by omega⟩), (by first | with_reducible assumption | exact ⟨by omega, by omega⟩)⟩
                exact hJ21 H locs ls (fun i => ([z118, (u21_ 1), (u21_ 2), (u21_ 3), (u21_ 4)] : List (Int32)).getD i 0) (fun _ => 0) (fun i => ([(a21_ 0), (a21_ 1)] : List (Nat → Int32)).getD i (fun _ => 0)) (fun _ => (fun _ => 0)) hc (show (2147483647 - z118.toInt).toNat < (2147483647 - (u21_ 0).toInt).toNat from by omega)
              · skip
                have b_ := zF_eq rfl zk_0 c_
                refine lv_aload_n hx hb dX4_readPhrase_106 rfl (lv_at hl 0 rfl) ?_
                refine va_get (D := (dC, dI)) (ci := 4) (v := .ref h18) (C := RX4) (T := TX4) (N := 12) hx hb hG zuX4 hown hK hP 0 rfl rfl 3 (by decide) (hG _ zv411) (fun _ h9 => h9) rfl dX4_readPhrase_107 ?_
                refine lv_aload_n hx hb dX4_readPhrase_110 rfl (lv_at hl 0 rfl) ?_
                refine lv_iload_n hx hb dX4_readPhrase_111 rfl (lv_at hl 3 rfl) ?_
                have b_ : -2147483648 ≤ (u21_ 4).toInt ∧ (u21_ 4).toInt ≤ 2147483647 := ⟨zlo _, zhi _⟩
                have hPc := hP.sub (ws' := [(h0, .inr (4, mX4 h1 h4 h11 h18 (upd (upd v0 4 (u21_ 3)) 7 (u21_ 4)))), (h1, .inr (9, mX9 h2 h3 (upd v1 3 (u21_ 2)))), (h2, zi k2 600 f2), (h3, zi k3 12 (a21_ 1)), (h11, .inr (10, mX10 h12 h13 h14 h15 h16 h17 v11)), (h12, .inl (k12, 10, .inr (.inl f12))), (h4, .inr (10, mX10 h5 h6 h7 h8 h9 h10 v4)), (h5, .inl (k5, 400, .inr (.inl f5)))]) [0, 2, 3, 10, 11, 12, 13, 14] rfl
                have hDc := hD.sub (ws' := [(h0, .inr (4, mX4 h1 h4 h11 h18 (upd (upd v0 4 (u21_ 3)) 7 (u21_ 4)))), (h1, .inr (9, mX9 h2 h3 (upd v1 3 (u21_ 2)))), (h2, zi k2 600 f2), (h3, zi k3 12 (a21_ 1)), (h11, .inr (10, mX10 h12 h13 h14 h15 h16 h17 v11)), (h12, .inl (k12, 10, .inr (.inl f12))), (h4, .inr (10, mX10 h5 h6 h7 h8 h9 h10 v4)), (h5, .inl (k5, 400, .inr (.inl f5)))]) [0, 2, 3, 10, 11, 12, 13, 14] (by decide) rfl
                have hKc := hK.sub (tys' := [(k2, .byte), (k3, .byte), (k12, .long), (k5, .long)]) [0, 7, 8, 9] rfl
                have hFc := va_free (wc := [(h0, .inr (4, mX4 h1 h4 h11 h18 (upd (upd v0 4 (u21_ 3)) 7 (u21_ 4)))), (h1, .inr (9, mX9 h2 h3 (upd v1 3 (u21_ 2)))), (h2, zi k2 600 f2), (h3, zi k3 12 (a21_ 1)), (h11, .inr (10, mX10 h12 h13 h14 h15 h16 h17 v11)), (h12, .inl (k12, 10, .inr (.inl f12))), (h4, .inr (10, mX10 h5 h6 h7 h8 h9 h10 v4)), (h5, .inl (k5, 400, .inr (.inl f5)))]) hD hS hA [0, 2, 3, 10, 11, 12, 13, 14] rfl
                refine va_calli (va_runV (As := [.int (u21_ 0)]) (rest := [.ref h18]) ⟨hx, hb, hml, hown, hG⟩ (sX4_wantedWord_0 l dC dI adK adV h0 h1 h2 h3 h11 h12 h4 h5 h18 h13 h14 h15 h16 h17 h6 h7 h8 h9 h10 k2 k3 k12 k5 H.size (upd (upd v0 4 (u21_ 3)) 7 (u21_ 4)) (upd v1 3 (u21_ 2)) f2 (a21_ 1) v11 f12 v4 f5 (u21_ 0) (zR_updF (zR_updF hv0 4 rfl) 7 rfl) (zR_up2 hv1 3 (show (0 : Int) ≤ ((u21_ 2) : Int32).toInt ∧ ((u21_ 2) : Int32).toInt ≤ (12 : Int) from (by first | with_reducible assumption | exact ⟨by omega, by omega⟩))) hv11 hv4) (cwV 1 hG (zgV zv1131 zv1133 zv28 zv137 zv1134) rfl rfl rfl (by decide +kernel) ⟨Nat.le_of_ble_eq_true rfl, Nat.le_of_ble_eq_true rfl⟩) ⟨zPc_blind, va_recv hKc hPc (ci := 4) (q0 := 0) rfl rfl, zPc_pre hPc hKc hDc hE hS hFc hZ⟩ rfl rfl hl.1 rfl (lv_room (Nat.le_of_ble_eq_true rfl)) dX4_readPhrase_112 ⟨Nat.le_of_ble_eq_true rfl, Nat.le_of_ble_eq_true rfl⟩) hS (fun q _ h => hFc q h) hFc (fun r112_ u112_ t H1 locs ht hvm hw hB hz1 hk1 hS => ?_)
                replace hw : ((-3) ≤ r112_.toInt ∧ r112_.toInt ≤ 399) ∧ (0 ≤ (u112_ 0).toInt ∧ (u112_ 0).toInt ≤ 12) := hw
                obtain ⟨b_, b_⟩ := hw
                obtain ⟨w112_, a112_, b112_, hP1, hK1, hD1⟩ := hB
                rw [ht] at hP1
                obtain ⟨hP, hD⟩ := va_join (wr := [(h18, .inr (7, mX7 h19 h20 h21 h22 h23 h24 h25 (upd v18 8 (u21_ 1)))), (h19, zi k19 40 f19), (h20, zi k20 40 f20), (h21, zi k21 40 f21), (h22, zi k22 40 f22), (h23, zi k23 40 f23), (h25, zi k25 270 f25), (h24, zi k24 160 (a21_ 0))]) (w1 := [(h0, .inr (4, mX4 h1 h4 h11 h18 (upd (upd v0 4 (u21_ 3)) 7 (u21_ 4)))), (h1, .inr (9, mX9 h2 h3 (upd v1 3 (u112_ 0)))), (h2, zi k2 600 f2), (h3, zi k3 12 (a112_ 0)), (h11, .inr (10, mX10 h12 h13 h14 h15 h16 h17 v11)), (h12, .inl (k12, 10, .inr (.inl f12))), (h4, .inr (10, mX10 h5 h6 h7 h8 h9 h10 v4)), (h5, .inl (k5, 400, .inr (.inl f5)))]) hP hD [0, 2, 3, 10, 11, 12, 13, 14] [1, 4, 5, 6, 7, 8, 9, 15] rfl rfl (by decide) (by decide) hk1 hFc hP1 hD1
                have hP : va_P (dC, dI) vwCl [(h0, .inr (4, mX4 h1 h4 h11 h18 (upd (upd v0 4 (u21_ 3)) 7 (u21_ 4)))), (h18, .inr (7, mX7 h19 h20 h21 h22 h23 h24 h25 (upd v18 8 (u21_ 1)))), (h1, .inr (9, mX9 h2 h3 (upd v1 3 (u112_ 0)))), (h2, zi k2 600 f2), (h19, zi k19 40 f19), (h20, zi k20 40 f20), (h21, zi k21 40 f21), (h22, zi k22 40 f22), (h23, zi k23 40 f23), (h25, zi k25 270 f25), (h3, zi k3 12 (a112_ 0)), (h11, .inr (10, mX10 h12 h13 h14 h15 h16 h17 v11)), (h12, .inl (k12, 10, .inr (.inl f12))), (h4, .inr (10, mX10 h5 h6 h7 h8 h9 h10 v4)), (h5, .inl (k5, 400, .inr (.inl f5))), (h24, zi k24 160 (a21_ 0))] H1 := hP.sub [8, 0, 9, 10, 1, 2, 3, 4, 5, 6, 11, 12, 13, 14, 15, 7] rfl
                have hD : va_D A [(h0, .inr (4, mX4 h1 h4 h11 h18 (upd (upd v0 4 (u21_ 3)) 7 (u21_ 4)))), (h18, .inr (7, mX7 h19 h20 h21 h22 h23 h24 h25 (upd v18 8 (u21_ 1)))), (h1, .inr (9, mX9 h2 h3 (upd v1 3 (u112_ 0)))), (h2, zi k2 600 f2), (h19, zi k19 40 f19), (h20, zi k20 40 f20), (h21, zi k21 40 f21), (h22, zi k22 40 f22), (h23, zi k23 40 f23), (h25, zi k25 270 f25), (h3, zi k3 12 (a112_ 0)), (h11, .inr (10, mX10 h12 h13 h14 h15 h16 h17 v11)), (h12, .inl (k12, 10, .inr (.inl f12))), (h4, .inr (10, mX10 h5 h6 h7 h8 h9 h10 v4)), (h5, .inl (k5, 400, .inr (.inl f5))), (h24, zi k24 160 (a21_ 0))] := hD.sub [8, 0, 9, 10, 1, 2, 3, 4, 5, 6, 11, 12, 13, 14, 15, 7] (by decide) rfl
                generalize H1 = H at hP hS ⊢
                clear hz1
                have hPc := hP.sub (ws' := [(h18, .inr (7, mX7 h19 h20 h21 h22 h23 h24 h25 (upd v18 8 (u21_ 1)))), (h24, zi k24 160 (a21_ 0))]) [1, 15] rfl
                have hDc := hD.sub (ws' := [(h18, .inr (7, mX7 h19 h20 h21 h22 h23 h24 h25 (upd v18 8 (u21_ 1)))), (h24, zi k24 160 (a21_ 0))]) [1, 15] (by decide) rfl
                have hKc := hK.sub (tys' := [(k24, .int)]) [10] rfl
                have hFc := va_free (wc := [(h18, .inr (7, mX7 h19 h20 h21 h22 h23 h24 h25 (upd v18 8 (u21_ 1)))), (h24, zi k24 160 (a21_ 0))]) hD hS hA [1, 15] rfl
                refine va_callv (va_runV (As := [.int r112_]) (rest := []) ⟨hx, hb, hml, hown, hG⟩ (sX7_addPhraseWord_0 l dC dI adK adV h18 h24 h19 h20 h21 h22 h23 h25 k24 H.size (upd v18 8 (u21_ 1)) (a21_ 0) r112_ (zR_up2 hv18 8 (show (0 : Int) ≤ ((u21_ 1) : Int32).toInt ∧ ((u21_ 1) : Int32).toInt ≤ (160 : Int) from (by first | with_reducible assumption | exact ⟨by omega, by omega⟩)))) (cwV 1 hG (zgV zv1137 zv1138 zv1139 zv136 zv1140) rfl rfl rfl (by decide +kernel) ⟨Nat.le_of_ble_eq_true rfl, Nat.le_of_ble_eq_true rfl⟩) ⟨zPc_blind, va_recv hKc hPc (ci := 7) (q0 := 0) rfl rfl, zPc_pre hPc hKc hDc hE hS hFc hZ⟩ rfl rfl hl.1 rfl (lv_room (Nat.le_of_ble_eq_true rfl)) dX4_readPhrase_115 ⟨Nat.le_of_ble_eq_true rfl, Nat.le_of_ble_eq_true rfl⟩) hS (fun q _ h => hFc q h) hFc (fun u115_ t H1 locs ht hvm hw hB hz1 hk1 hS => ?_)
                replace hw : (1 ≤ (u115_ 0).toInt ∧ (u115_ 0).toInt ≤ 160) := hw
                have b_ := hw
                obtain ⟨w115_, a115_, b115_, hP1, hK1, hD1⟩ := hB
                rw [ht] at hP1
                obtain ⟨hP, hD⟩ := va_join (wr := [(h0, .inr (4, mX4 h1 h4 h11 h18 (upd (upd v0 4 (u21_ 3)) 7 (u21_ 4)))), (h1, .inr (9, mX9 h2 h3 (upd v1 3 (u112_ 0)))), (h2, zi k2 600 f2), (h19, zi k19 40 f19), (h20, zi k20 40 f20), (h21, zi k21 40 f21), (h22, zi k22 40 f22), (h23, zi k23 40 f23), (h25, zi k25 270 f25), (h3, zi k3 12 (a112_ 0)), (h11, .inr (10, mX10 h12 h13 h14 h15 h16 h17 v11)), (h12, .inl (k12, 10, .inr (.inl f12))), (h4, .inr (10, mX10 h5 h6 h7 h8 h9 h10 v4)), (h5, .inl (k5, 400, .inr (.inl f5)))]) (w1 := [(h18, .inr (7, mX7 h19 h20 h21 h22 h23 h24 h25 (upd v18 8 (u115_ 0)))), (h24, zi k24 160 (a115_ 0))]) hP hD [1, 15] [0, 2, 3, 4, 5, 6, 7, 8, 9, 10, 11, 12, 13, 14] rfl rfl (by decide) (by decide) hk1 hFc hP1 hD1
                have hP : va_P (dC, dI) vwCl [(h0, .inr (4, mX4 h1 h4 h11 h18 (upd (upd v0 4 (u21_ 3)) 7 (u21_ 4)))), (h18, .inr (7, mX7 h19 h20 h21 h22 h23 h24 h25 (upd v18 8 (u115_ 0)))), (h1, .inr (9, mX9 h2 h3 (upd v1 3 (u112_ 0)))), (h2, zi k2 600 f2), (h19, zi k19 40 f19), (h20, zi k20 40 f20), (h21, zi k21 40 f21), (h22, zi k22 40 f22), (h23, zi k23 40 f23), (h25, zi k25 270 f25), (h3, zi k3 12 (a112_ 0)), (h11, .inr (10, mX10 h12 h13 h14 h15 h16 h17 v11)), (h12, .inl (k12, 10, .inr (.inl f12))), (h4, .inr (10, mX10 h5 h6 h7 h8 h9 h10 v4)), (h5, .inl (k5, 400, .inr (.inl f5))), (h24, zi k24 160 (a115_ 0))] H1 := hP.sub [0, 14, 1, 2, 3, 4, 5, 6, 7, 8, 9, 10, 11, 12, 13, 15] rfl
                have hD : va_D A [(h0, .inr (4, mX4 h1 h4 h11 h18 (upd (upd v0 4 (u21_ 3)) 7 (u21_ 4)))), (h18, .inr (7, mX7 h19 h20 h21 h22 h23 h24 h25 (upd v18 8 (u115_ 0)))), (h1, .inr (9, mX9 h2 h3 (upd v1 3 (u112_ 0)))), (h2, zi k2 600 f2), (h19, zi k19 40 f19), (h20, zi k20 40 f20), (h21, zi k21 40 f21), (h22, zi k22 40 f22), (h23, zi k23 40 f23), (h25, zi k25 270 f25), (h3, zi k3 12 (a112_ 0)), (h11, .inr (10, mX10 h12 h13 h14 h15 h16 h17 v11)), (h12, .inl (k12, 10, .inr (.inl f12))), (h4, .inr (10, mX10 h5 h6 h7 h8 h9 h10 v4)), (h5, .inl (k5, 400, .inr (.inl f5))), (h24, zi k24 160 (a115_ 0))] := hD.sub [0, 14, 1, 2, 3, 4, 5, 6, 7, 8, 9, 10, 11, 12, 13, 15] (by decide) rfl
                generalize H1 = H at hP hS ⊢
                clear hz1
                obtain ⟨z118, e_z118⟩ : ∃ z : Int32, z = (u21_ 0) + Int32.ofInt 1 := ⟨_, rfl⟩
                have b_ := zadd (x := (u21_ 0)) (y := Int32.ofInt 1) rfl (show (Int32.ofInt 1).toInt = 1 from by decide) e_z118 (by omega) (by omega)
                refine lv_iinc (v := z118) (lv' := [(3, .int z118), (0, .ref h0), (1, .int x1), (2, .int r12_)]) hx hb dX4_readPhrase_118 hl (k := 3) rfl e_z118.symm (by decide) rfl (fun ls hl => ?_)
                refine lv_goto (tgt := 21) hx hb dX4_readPhrase_121 (by decide) ?_
                have b_ : -2147483648 ≤ x1.toInt ∧ x1.toInt ≤ 2147483647 := ⟨zlo _, zhi _⟩
                have hc : va_P (dC, dI) vwCl [(h0, .inr (4, mX4 h1 h4 h11 h18 (upd (upd v0 4 (u21_ 3)) 7 (u21_ 4)))), (h18, .inr (7, mX7 h19 h20 h21 h22 h23 h24 h25 (upd v18 8 (u115_ 0)))), (h1, .inr (9, mX9 h2 h3 (upd v1 3 (u112_ 0)))), (h2, zi k2 600 f2), (h19, zi k19 40 f19), (h20, zi k20 40 f20), (h21, zi k21 40 f21), (h22, zi k22 40 f22), (h23, zi k23 40 f23), (h25, zi k25 270 f25), (h3, zi k3 12 (a112_ 0)), (h11, .inr (10, mX10 h12 h13 h14 h15 h16 h17 v11)), (h12, .inl (k12, 10, .inr (.inl f12))), (h4, .inr (10, mX10 h5 h6 h7 h8 h9 h10 v4)), (h5, .inl (k5, 400, .inr (.inl f5))), (h24, zi k24 160 (a115_ 0))] H ∧ va_D A [(h0, .inr (4, mX4 h1 h4 h11 h18 (upd (upd v0 4 (u21_ 3)) 7 (u21_ 4)))), (h18, .inr (7, mX7 h19 h20 h21 h22 h23 h24 h25 (upd v18 8 (u115_ 0)))), (h1, .inr (9, mX9 h2 h3 (upd v1 3 (u112_ 0)))), (h2, zi k2 600 f2), (h19, zi k19 40 f19), (h20, zi k20 40 f20), (h21, zi k21 40 f21), (h22, zi k22 40 f22), (h23, zi k23 40 f23), (h25, zi k25 270 f25), (h3, zi k3 12 (a112_ 0)), (h11, .inr (10, mX10 h12 h13 h14 h15 h16 h17 v11)), (h12, .inl (k12, 10, .inr (.inl f12))), (h4, .inr (10, mX10 h5 h6 h7 h8 h9 h10 v4)), (h5, .inl (k5, 400, .inr (.inl f5))), (h24, zi k24 160 (a115_ 0))] ∧ va_S A s.heap H locs ∧ lv_has ls 4 [(0, .ref h0), (1, .int x1), (2, .int r12_), (3, .int z118)] ∧ (0 ≤ (u115_ 0).toInt ∧ (u115_ 0).toInt ≤ 160) ∧ (0 ≤ (u112_ 0).toInt ∧ (u112_ 0).toInt ≤ 12) := ⟨hP, hD, hS, lv_sub hl [1, 2, 3, 0] rfl, (by first | with_reducible assumption | exact ⟨by omega, by omega⟩), (by first | with_reducible assumption | exact ⟨by omega, by omega⟩)⟩
                exact hJ21 H locs ls (fun i => ([z118, (u115_ 0), (u112_ 0), (u21_ 3), (u21_ 4)] : List (Int32)).getD i 0) (fun _ => 0) (fun i => ([(a115_ 0), (a112_ 0)] : List (Nat → Int32)).getD i (fun _ => 0)) (fun _ => (fun _ => 0)) hc (show (2147483647 - z118.toInt).toNat < (2147483647 - (u21_ 0).toInt).toNat from by omega)
            · skip
              refine lv_if_eq (tgt := 95) hx hb dX4_readPhrase_70 (by decide) (fun c_ => ?_) (fun c_ => ?_)
              · skip
                have b_ := zT_eq rfl zk_0 c_
                have hc : va_P (dC, dI) vwCl [(h0, .inr (4, mX4 h1 h4 h11 h18 (upd (upd v0 4 (u21_ 3)) 7 (u21_ 4)))), (h18, .inr (7, mX7 h19 h20 h21 h22 h23 h24 h25 (upd v18 8 (u21_ 1)))), (h1, .inr (9, mX9 h2 h3 (upd v1 3 (u21_ 2)))), (h2, zi k2 600 f2), (h19, zi k19 40 f19), (h20, zi k20 40 f20), (h21, zi k21 40 f21), (h22, zi k22 40 f22), (h23, zi k23 40 f23), (h25, zi k25 270 f25), (h3, zi k3 12 (a21_ 1)), (h11, .inr (10, mX10 h12 h13 h14 h15 h16 h17 v11)), (h12, .inl (k12, 10, .inr (.inl f12))), (h4, .inr (10, mX10 h5 h6 h7 h8 h9 h10 v4)), (h5, .inl (k5, 400, .inr (.inl f5))), (h24, zi k24 160 (a21_ 0))] H ∧ va_D A [(h0, .inr (4, mX4 h1 h4 h11 h18 (upd (upd v0 4 (u21_ 3)) 7 (u21_ 4)))), (h18, .inr (7, mX7 h19 h20 h21 h22 h23 h24 h25 (upd v18 8 (u21_ 1)))), (h1, .inr (9, mX9 h2 h3 (upd v1 3 (u21_ 2)))), (h2, zi k2 600 f2), (h19, zi k19 40 f19), (h20, zi k20 40 f20), (h21, zi k21 40 f21), (h22, zi k22 40 f22), (h23, zi k23 40 f23), (h25, zi k25 270 f25), (h3, zi k3 12 (a21_ 1)), (h11, .inr (10, mX10 h12 h13 h14 h15 h16 h17 v11)), (h12, .inl (k12, 10, .inr (.inl f12))), (h4, .inr (10, mX10 h5 h6 h7 h8 h9 h10 v4)), (h5, .inl (k5, 400, .inr (.inl f5))), (h24, zi k24 160 (a21_ 0))] ∧ va_S A s.heap H locs ∧ lv_has ls 4 [(0, .ref h0), (1, .int x1), (2, .int r12_), (3, .int (u21_ 0))] ∧ (0 ≤ r67_.toInt ∧ r67_.toInt ≤ 1) := ⟨hP, hD, hS, lv_sub hl [0, 1, 2, 3] rfl, (by first | with_reducible assumption | exact ⟨by omega, by omega⟩)⟩
                exact hJ95 H locs ls (fun _ => 0) (fun _ => 0) (fun _ => (fun _ => 0)) (fun _ => (fun _ => 0)) hc
              · skip
                have b_ := zF_eq rfl zk_0 c_
                refine lv_aload_n hx hb dX4_readPhrase_73 rfl (lv_at hl 0 rfl) ?_
                refine va_get (D := (dC, dI)) (ci := 4) (v := .ref h18) (C := RX4) (T := TX4) (N := 12) hx hb hG zuX4 hown hK hP 0 rfl rfl 3 (by decide) (hG _ zv411) (fun _ h9 => h9) rfl dX4_readPhrase_74 ?_
                have hPc := hP.sub (ws' := [(h18, .inr (7, mX7 h19 h20 h21 h22 h23 h24 h25 (upd v18 8 (u21_ 1))))]) [1] rfl
                have hDc := hD.sub (ws' := [(h18, .inr (7, mX7 h19 h20 h21 h22 h23 h24 h25 (upd v18 8 (u21_ 1))))]) [1] (by decide) rfl
                have hKc := hK.sub (tys' := []) [] rfl
                have hFc := va_free (wc := [(h18, .inr (7, mX7 h19 h20 h21 h22 h23 h24 h25 (upd v18 8 (u21_ 1))))]) hD hS hA [1] rfl
                refine va_calli (va_runV (As := []) (rest := []) ⟨hx, hb, hml, hown, hG⟩ (sX7_phraseWords_0 l dC dI adK adV h18 h19 h20 h21 h22 h23 h24 h25 H.size (upd v18 8 (u21_ 1)) (zR_up2 hv18 8 (show (0 : Int) ≤ ((u21_ 1) : Int32).toInt ∧ ((u21_ 1) : Int32).toInt ≤ (160 : Int) from (by first | with_reducible assumption | exact ⟨by omega, by omega⟩)))) (cwV 0 hG (zgV zv1121 zv1122 zv1123 zv136 zv1124) rfl rfl rfl (by decide +kernel) ⟨Nat.le_of_ble_eq_true rfl, Nat.le_of_ble_eq_true rfl⟩) ⟨zPc_blind, va_recv hKc hPc (ci := 7) (q0 := 0) rfl rfl, zPc_pre hPc hKc hDc hE hS hFc hZ⟩ rfl rfl hl.1 rfl (lv_room (Nat.le_of_ble_eq_true rfl)) dX4_readPhrase_77 ⟨Nat.le_of_ble_eq_true rfl, Nat.le_of_ble_eq_true rfl⟩) hS (fun q _ h => hFc q h) hFc (fun r77_ u77_ t H1 locs ht hvm hw hB hz1 hk1 hS => ?_)
                replace hw : (0 ≤ r77_.toInt ∧ r77_.toInt ≤ 160) := hw
                have b_ := hw
                obtain ⟨w77_, a77_, b77_, hP1, hK1, hD1⟩ := hB
                rw [ht] at hP1
                obtain ⟨hP, hD⟩ := va_join (wr := [(h0, .inr (4, mX4 h1 h4 h11 h18 (upd (upd v0 4 (u21_ 3)) 7 (u21_ 4)))), (h1, .inr (9, mX9 h2 h3 (upd v1 3 (u21_ 2)))), (h2, zi k2 600 f2), (h19, zi k19 40 f19), (h20, zi k20 40 f20), (h21, zi k21 40 f21), (h22, zi k22 40 f22), (h23, zi k23 40 f23), (h25, zi k25 270 f25), (h3, zi k3 12 (a21_ 1)), (h11, .inr (10, mX10 h12 h13 h14 h15 h16 h17 v11)), (h12, .inl (k12, 10, .inr (.inl f12))), (h4, .inr (10, mX10 h5 h6 h7 h8 h9 h10 v4)), (h5, .inl (k5, 400, .inr (.inl f5))), (h24, zi k24 160 (a21_ 0))]) (w1 := [(h18, .inr (7, mX7 h19 h20 h21 h22 h23 h24 h25 (upd v18 8 (u21_ 1))))]) hP hD [1] [0, 2, 3, 4, 5, 6, 7, 8, 9, 10, 11, 12, 13, 14, 15] rfl rfl (by decide) (by decide) hk1 hFc hP1 hD1
                have hP : va_P (dC, dI) vwCl [(h0, .inr (4, mX4 h1 h4 h11 h18 (upd (upd v0 4 (u21_ 3)) 7 (u21_ 4)))), (h18, .inr (7, mX7 h19 h20 h21 h22 h23 h24 h25 (upd v18 8 (u21_ 1)))), (h1, .inr (9, mX9 h2 h3 (upd v1 3 (u21_ 2)))), (h2, zi k2 600 f2), (h19, zi k19 40 f19), (h20, zi k20 40 f20), (h21, zi k21 40 f21), (h22, zi k22 40 f22), (h23, zi k23 40 f23), (h25, zi k25 270 f25), (h3, zi k3 12 (a21_ 1)), (h11, .inr (10, mX10 h12 h13 h14 h15 h16 h17 v11)), (h12, .inl (k12, 10, .inr (.inl f12))), (h4, .inr (10, mX10 h5 h6 h7 h8 h9 h10 v4)), (h5, .inl (k5, 400, .inr (.inl f5))), (h24, zi k24 160 (a21_ 0))] H1 := hP.sub [0, 15, 1, 2, 3, 4, 5, 6, 7, 8, 9, 10, 11, 12, 13, 14] rfl
                have hD : va_D A [(h0, .inr (4, mX4 h1 h4 h11 h18 (upd (upd v0 4 (u21_ 3)) 7 (u21_ 4)))), (h18, .inr (7, mX7 h19 h20 h21 h22 h23 h24 h25 (upd v18 8 (u21_ 1)))), (h1, .inr (9, mX9 h2 h3 (upd v1 3 (u21_ 2)))), (h2, zi k2 600 f2), (h19, zi k19 40 f19), (h20, zi k20 40 f20), (h21, zi k21 40 f21), (h22, zi k22 40 f22), (h23, zi k23 40 f23), (h25, zi k25 270 f25), (h3, zi k3 12 (a21_ 1)), (h11, .inr (10, mX10 h12 h13 h14 h15 h16 h17 v11)), (h12, .inl (k12, 10, .inr (.inl f12))), (h4, .inr (10, mX10 h5 h6 h7 h8 h9 h10 v4)), (h5, .inl (k5, 400, .inr (.inl f5))), (h24, zi k24 160 (a21_ 0))] := hD.sub [0, 15, 1, 2, 3, 4, 5, 6, 7, 8, 9, 10, 11, 12, 13, 14] (by decide) rfl
                generalize H1 = H at hP hS ⊢
                clear hz1
                refine lv_sipush (v := 160) hx hb dX4_readPhrase_80 (by decide) ?_
                refine lv_icmp_lt (tgt := 95) hx hb dX4_readPhrase_83 (by decide) (fun c_ => ?_) (fun c_ => ?_)
                · skip
                  have b_ := zT_lt rfl zk_160 c_
                  have hc : va_P (dC, dI) vwCl [(h0, .inr (4, mX4 h1 h4 h11 h18 (upd (upd v0 4 (u21_ 3)) 7 (u21_ 4)))), (h18, .inr (7, mX7 h19 h20 h21 h22 h23 h24 h25 (upd v18 8 (u21_ 1)))), (h1, .inr (9, mX9 h2 h3 (upd v1 3 (u21_ 2)))), (h2, zi k2 600 f2), (h19, zi k19 40 f19), (h20, zi k20 40 f20), (h21, zi k21 40 f21), (h22, zi k22 40 f22), (h23, zi k23 40 f23), (h25, zi k25 270 f25), (h3, zi k3 12 (a21_ 1)), (h11, .inr (10, mX10 h12 h13 h14 h15 h16 h17 v11)), (h12, .inl (k12, 10, .inr (.inl f12))), (h4, .inr (10, mX10 h5 h6 h7 h8 h9 h10 v4)), (h5, .inl (k5, 400, .inr (.inl f5))), (h24, zi k24 160 (a21_ 0))] H ∧ va_D A [(h0, .inr (4, mX4 h1 h4 h11 h18 (upd (upd v0 4 (u21_ 3)) 7 (u21_ 4)))), (h18, .inr (7, mX7 h19 h20 h21 h22 h23 h24 h25 (upd v18 8 (u21_ 1)))), (h1, .inr (9, mX9 h2 h3 (upd v1 3 (u21_ 2)))), (h2, zi k2 600 f2), (h19, zi k19 40 f19), (h20, zi k20 40 f20), (h21, zi k21 40 f21), (h22, zi k22 40 f22), (h23, zi k23 40 f23), (h25, zi k25 270 f25), (h3, zi k3 12 (a21_ 1)), (h11, .inr (10, mX10 h12 h13 h14 h15 h16 h17 v11)), (h12, .inl (k12, 10, .inr (.inl f12))), (h4, .inr (10, mX10 h5 h6 h7 h8 h9 h10 v4)), (h5, .inl (k5, 400, .inr (.inl f5))), (h24, zi k24 160 (a21_ 0))] ∧ va_S A s.heap H locs ∧ lv_has ls 4 [(0, .ref h0), (1, .int x1), (2, .int r12_), (3, .int (u21_ 0))] ∧ (0 ≤ r67_.toInt ∧ r67_.toInt ≤ 1) := ⟨hP, hD, hS, lv_sub hl [0, 1, 2, 3] rfl, (by first | with_reducible assumption | exact ⟨by omega, by omega⟩)⟩
                  exact hJ95 H locs ls (fun _ => 0) (fun _ => 0) (fun _ => (fun _ => 0)) (fun _ => (fun _ => 0)) hc
                · skip
                  have b_ := zF_lt rfl zk_160 c_
                  refine lv_aload_n hx hb dX4_readPhrase_86 rfl (lv_at hl 0 rfl) ?_
                  refine lv_iconst (v := 3) hx hb dX4_readPhrase_87 (by decide) ?_
                  refine lv_iload_n hx hb dX4_readPhrase_88 rfl (lv_at hl 3 rfl) ?_
                  have b_ : -2147483648 ≤ (u21_ 4).toInt ∧ (u21_ 4).toInt ≤ 2147483647 := ⟨zlo _, zhi _⟩
                  have hPc := hP.sub (ws' := [(h0, .inr (4, mX4 h1 h4 h11 h18 (upd (upd v0 4 (u21_ 3)) 7 (u21_ 4))))]) [0] rfl
                  have hDc := hD.sub (ws' := [(h0, .inr (4, mX4 h1 h4 h11 h18 (upd (upd v0 4 (u21_ 3)) 7 (u21_ 4))))]) [0] (by decide) rfl
                  have hKc := hK.sub (tys' := []) [] rfl
                  have hFc := va_free (wc := [(h0, .inr (4, mX4 h1 h4 h11 h18 (upd (upd v0 4 (u21_ 3)) 7 (u21_ 4))))]) hD hS hA [0] rfl
                  refine va_callv (va_runV (As := [.int 3, .int (u21_ 0)]) (rest := []) ⟨hx, hb, hml, hown, hG⟩ (sX4_fail_0 l dC dI adK adV h0 h1 h4 h11 h18 H.size (upd (upd v0 4 (u21_ 3)) 7 (u21_ 4)) 3 (u21_ 0) (zR_updF (zR_updF hv0 4 rfl) 7 rfl)) (cwV 2 hG (zgV zv1021 zv1023 zv13 zv137 zv1024) rfl rfl rfl (by decide +kernel) ⟨Nat.le_of_ble_eq_true rfl, Nat.le_of_ble_eq_true rfl⟩) ⟨zPc_blind, va_recv hKc hPc (ci := 4) (q0 := 0) rfl rfl, zPc_pre hPc hKc hDc hE hS hFc hZ⟩ rfl rfl hl.1 rfl (lv_room (Nat.le_of_ble_eq_true rfl)) dX4_readPhrase_89 ⟨Nat.le_of_ble_eq_true rfl, Nat.le_of_ble_eq_true rfl⟩) hS (fun q _ h => hFc q h) hFc (fun u89_ t H1 locs ht hvm hw hB hz1 hk1 hS => ?_)
                  replace hw : (265 ≤ (u89_ 0).toInt ∧ (u89_ 0).toInt ≤ 265) := hw
                  have b_ := hw
                  obtain ⟨w89_, a89_, b89_, hP1, hK1, hD1⟩ := hB
                  rw [ht] at hP1
                  obtain ⟨hP, hD⟩ := va_join (wr := [(h18, .inr (7, mX7 h19 h20 h21 h22 h23 h24 h25 (upd v18 8 (u21_ 1)))), (h1, .inr (9, mX9 h2 h3 (upd v1 3 (u21_ 2)))), (h2, zi k2 600 f2), (h19, zi k19 40 f19), (h20, zi k20 40 f20), (h21, zi k21 40 f21), (h22, zi k22 40 f22), (h23, zi k23 40 f23), (h25, zi k25 270 f25), (h3, zi k3 12 (a21_ 1)), (h11, .inr (10, mX10 h12 h13 h14 h15 h16 h17 v11)), (h12, .inl (k12, 10, .inr (.inl f12))), (h4, .inr (10, mX10 h5 h6 h7 h8 h9 h10 v4)), (h5, .inl (k5, 400, .inr (.inl f5))), (h24, zi k24 160 (a21_ 0))]) (w1 := [(h0, .inr (4, mX4 h1 h4 h11 h18 (upd (upd v0 4 (u89_ 0)) 7 (u89_ 1))))]) hP hD [0] [1, 2, 3, 4, 5, 6, 7, 8, 9, 10, 11, 12, 13, 14, 15] rfl rfl (by decide) (by decide) hk1 hFc hP1 hD1
                  have hP : va_P (dC, dI) vwCl [(h0, .inr (4, mX4 h1 h4 h11 h18 (upd (upd v0 4 (u89_ 0)) 7 (u89_ 1)))), (h18, .inr (7, mX7 h19 h20 h21 h22 h23 h24 h25 (upd v18 8 (u21_ 1)))), (h1, .inr (9, mX9 h2 h3 (upd v1 3 (u21_ 2)))), (h2, zi k2 600 f2), (h19, zi k19 40 f19), (h20, zi k20 40 f20), (h21, zi k21 40 f21), (h22, zi k22 40 f22), (h23, zi k23 40 f23), (h25, zi k25 270 f25), (h3, zi k3 12 (a21_ 1)), (h11, .inr (10, mX10 h12 h13 h14 h15 h16 h17 v11)), (h12, .inl (k12, 10, .inr (.inl f12))), (h4, .inr (10, mX10 h5 h6 h7 h8 h9 h10 v4)), (h5, .inl (k5, 400, .inr (.inl f5))), (h24, zi k24 160 (a21_ 0))] H1 := hP.sub [15, 0, 1, 2, 3, 4, 5, 6, 7, 8, 9, 10, 11, 12, 13, 14] rfl
                  have hD : va_D A [(h0, .inr (4, mX4 h1 h4 h11 h18 (upd (upd v0 4 (u89_ 0)) 7 (u89_ 1)))), (h18, .inr (7, mX7 h19 h20 h21 h22 h23 h24 h25 (upd v18 8 (u21_ 1)))), (h1, .inr (9, mX9 h2 h3 (upd v1 3 (u21_ 2)))), (h2, zi k2 600 f2), (h19, zi k19 40 f19), (h20, zi k20 40 f20), (h21, zi k21 40 f21), (h22, zi k22 40 f22), (h23, zi k23 40 f23), (h25, zi k25 270 f25), (h3, zi k3 12 (a21_ 1)), (h11, .inr (10, mX10 h12 h13 h14 h15 h16 h17 v11)), (h12, .inl (k12, 10, .inr (.inl f12))), (h4, .inr (10, mX10 h5 h6 h7 h8 h9 h10 v4)), (h5, .inl (k5, 400, .inr (.inl f5))), (h24, zi k24 160 (a21_ 0))] := hD.sub [15, 0, 1, 2, 3, 4, 5, 6, 7, 8, 9, 10, 11, 12, 13, 14] (by decide) rfl
                  generalize H1 = H at hP hS ⊢
                  clear hz1
                  refine lv_goto (tgt := 118) hx hb dX4_readPhrase_92 (by decide) ?_
                  obtain ⟨z118, e_z118⟩ : ∃ z : Int32, z = (u21_ 0) + Int32.ofInt 1 := ⟨_, rfl⟩
                  have b_ := zadd (x := (u21_ 0)) (y := Int32.ofInt 1) rfl (show (Int32.ofInt 1).toInt = 1 from by decide) e_z118 (by omega) (by omega)
                  refine lv_iinc (v := z118) (lv' := [(3, .int z118), (0, .ref h0), (1, .int x1), (2, .int r12_)]) hx hb dX4_readPhrase_118 hl (k := 3) rfl e_z118.symm (by decide) rfl (fun ls hl => ?_)
                  refine lv_goto (tgt := 21) hx hb dX4_readPhrase_121 (by decide) ?_
                  have b_ : -2147483648 ≤ x1.toInt ∧ x1.toInt ≤ 2147483647 := ⟨zlo _, zhi _⟩
                  have hc : va_P (dC, dI) vwCl [(h0, .inr (4, mX4 h1 h4 h11 h18 (upd (upd v0 4 (u89_ 0)) 7 (u89_ 1)))), (h18, .inr (7, mX7 h19 h20 h21 h22 h23 h24 h25 (upd v18 8 (u21_ 1)))), (h1, .inr (9, mX9 h2 h3 (upd v1 3 (u21_ 2)))), (h2, zi k2 600 f2), (h19, zi k19 40 f19), (h20, zi k20 40 f20), (h21, zi k21 40 f21), (h22, zi k22 40 f22), (h23, zi k23 40 f23), (h25, zi k25 270 f25), (h3, zi k3 12 (a21_ 1)), (h11, .inr (10, mX10 h12 h13 h14 h15 h16 h17 v11)), (h12, .inl (k12, 10, .inr (.inl f12))), (h4, .inr (10, mX10 h5 h6 h7 h8 h9 h10 v4)), (h5, .inl (k5, 400, .inr (.inl f5))), (h24, zi k24 160 (a21_ 0))] H ∧ va_D A [(h0, .inr (4, mX4 h1 h4 h11 h18 (upd (upd v0 4 (u89_ 0)) 7 (u89_ 1)))), (h18, .inr (7, mX7 h19 h20 h21 h22 h23 h24 h25 (upd v18 8 (u21_ 1)))), (h1, .inr (9, mX9 h2 h3 (upd v1 3 (u21_ 2)))), (h2, zi k2 600 f2), (h19, zi k19 40 f19), (h20, zi k20 40 f20), (h21, zi k21 40 f21), (h22, zi k22 40 f22), (h23, zi k23 40 f23), (h25, zi k25 270 f25), (h3, zi k3 12 (a21_ 1)), (h11, .inr (10, mX10 h12 h13 h14 h15 h16 h17 v11)), (h12, .inl (k12, 10, .inr (.inl f12))), (h4, .inr (10, mX10 h5 h6 h7 h8 h9 h10 v4)), (h5, .inl (k5, 400, .inr (.inl f5))), (h24, zi k24 160 (a21_ 0))] ∧ va_S A s.heap H locs ∧ lv_has ls 4 [(0, .ref h0), (1, .int x1), (2, .int r12_), (3, .int z118)] ∧ (0 ≤ (u21_ 1).toInt ∧ (u21_ 1).toInt ≤ 160) ∧ (0 ≤ (u21_ 2).toInt ∧ (u21_ 2).toInt ≤ 12) := ⟨hP, hD, hS, lv_sub hl [1, 2, 3, 0] rfl, (by first | with_reducible assumption | exact ⟨by omega, by omega⟩), (by first | with_reducible assumption | exact ⟨by omega, by omega⟩)⟩
                  exact hJ21 H locs ls (fun i => ([z118, (u21_ 1), (u21_ 2), (u89_ 0), (u89_ 1)] : List (Int32)).getD i 0) (fun _ => 0) (fun i => ([(a21_ 0), (a21_ 1)] : List (Nat → Int32)).getD i (fun _ => 0)) (fun _ => (fun _ => 0)) hc (show (2147483647 - z118.toInt).toNat < (2147483647 - (u21_ 0).toInt).toNat from by omega)
          · skip
            have b_ := zF_ne rfl zk_34 c_
            refine lv_aload_n hx hb dX4_readPhrase_54 rfl (lv_at hl 0 rfl) ?_
            refine lv_iload_n hx hb dX4_readPhrase_55 rfl (lv_at hl 2 rfl) ?_
            refine lv_iload_n hx hb dX4_readPhrase_56 rfl (lv_at hl 3 rfl) ?_
            refine lv_iload_n hx hb dX4_readPhrase_57 rfl (lv_at hl 1 rfl) ?_
            have b_ : -2147483648 ≤ (u21_ 4).toInt ∧ (u21_ 4).toInt ≤ 2147483647 := ⟨zlo _, zhi _⟩
            have hPc := hP.sub (ws' := [(h0, .inr (4, mX4 h1 h4 h11 h18 (upd (upd v0 4 (u21_ 3)) 7 (u21_ 4)))), (h18, .inr (7, mX7 h19 h20 h21 h22 h23 h24 h25 (upd v18 8 (u21_ 1)))), (h19, zi k19 40 f19), (h20, zi k20 40 f20), (h21, zi k21 40 f21), (h22, zi k22 40 f22), (h23, zi k23 40 f23), (h25, zi k25 270 f25), (h1, .inr (9, mX9 h2 h3 (upd v1 3 (u21_ 2)))), (h2, zi k2 600 f2)]) [0, 1, 4, 5, 6, 7, 8, 9, 2, 3] rfl
            have hDc := hD.sub (ws' := [(h0, .inr (4, mX4 h1 h4 h11 h18 (upd (upd v0 4 (u21_ 3)) 7 (u21_ 4)))), (h18, .inr (7, mX7 h19 h20 h21 h22 h23 h24 h25 (upd v18 8 (u21_ 1)))), (h19, zi k19 40 f19), (h20, zi k20 40 f20), (h21, zi k21 40 f21), (h22, zi k22 40 f22), (h23, zi k23 40 f23), (h25, zi k25 270 f25), (h1, .inr (9, mX9 h2 h3 (upd v1 3 (u21_ 2)))), (h2, zi k2 600 f2)]) [0, 1, 4, 5, 6, 7, 8, 9, 2, 3] (by decide) rfl
            have hKc := hK.sub (tys' := [(k19, .int), (k20, .int), (k21, .int), (k22, .int), (k23, .boolean), (k25, .int), (k2, .byte)]) [1, 2, 3, 4, 5, 6, 0] rfl
            have hFc := va_free (wc := [(h0, .inr (4, mX4 h1 h4 h11 h18 (upd (upd v0 4 (u21_ 3)) 7 (u21_ 4)))), (h18, .inr (7, mX7 h19 h20 h21 h22 h23 h24 h25 (upd v18 8 (u21_ 1)))), (h19, zi k19 40 f19), (h20, zi k20 40 f20), (h21, zi k21 40 f21), (h22, zi k22 40 f22), (h23, zi k23 40 f23), (h25, zi k25 270 f25), (h1, .inr (9, mX9 h2 h3 (upd v1 3 (u21_ 2)))), (h2, zi k2 600 f2)]) hD hS hA [0, 1, 4, 5, 6, 7, 8, 9, 2, 3] rfl
            refine va_callv (va_runV (As := [.int r12_, .int (u21_ 0), .int x1]) (rest := []) ⟨hx, hb, hml, hown, hG⟩ (sX4_closePhrase_0 l dC dI adK adV h0 h18 h19 h20 h21 h22 h23 h25 h1 h2 h4 h11 h24 h3 k19 k20 k21 k22 k23 k25 k2 H.size (upd (upd v0 4 (u21_ 3)) 7 (u21_ 4)) (upd v18 8 (u21_ 1)) f19 f20 f21 f22 f23 f25 (upd v1 3 (u21_ 2)) f2 r12_ (u21_ 0) x1 (zR_updF (zR_updF hv0 4 rfl) 7 rfl) (zR_up2 hv18 8 (show (0 : Int) ≤ ((u21_ 1) : Int32).toInt ∧ ((u21_ 1) : Int32).toInt ≤ (160 : Int) from (by first | with_reducible assumption | exact ⟨by omega, by omega⟩))) hf25 (zR_up2 hv1 3 (show (0 : Int) ≤ ((u21_ 2) : Int32).toInt ∧ ((u21_ 2) : Int32).toInt ≤ (12 : Int) from (by first | with_reducible assumption | exact ⟨by omega, by omega⟩)))) (cwV 3 hG (zgV zv1126 zv1128 zv27 zv137 zv1129) rfl rfl rfl (by decide +kernel) ⟨Nat.le_of_ble_eq_true rfl, Nat.le_of_ble_eq_true rfl⟩) ⟨zPc_blind, va_recv hKc hPc (ci := 4) (q0 := 0) rfl rfl, zPc_pre hPc hKc hDc hE hS hFc hZ⟩ rfl rfl hl.1 rfl (lv_room (Nat.le_of_ble_eq_true rfl)) dX4_readPhrase_58 ⟨Nat.le_of_ble_eq_true rfl, Nat.le_of_ble_eq_true rfl⟩) hS (fun q _ h => hFc q h) hFc (fun u58_ t H1 locs ht hvm hw hB hz1 hk1 hS => ?_)
            replace hw : (0 ≤ (u58_ 0).toInt ∧ (u58_ 0).toInt ≤ 265) ∧ (0 ≤ (u58_ 4).toInt ∧ (u58_ 4).toInt ≤ 0) ∧ (1 ≤ (u58_ 5).toInt ∧ (u58_ 5).toInt ≤ 40) ∧ (0 ≤ (u58_ 6).toInt ∧ (u58_ 6).toInt ≤ 270) := hw
            obtain ⟨b_, b_, b_, b_⟩ := hw
            obtain ⟨w58_, a58_, b58_, ha58_5, hP1, hK1, hD1⟩ := hB
            rw [ht] at hP1
            obtain ⟨hP, hD⟩ := va_join (wr := [(h3, zi k3 12 (a21_ 1)), (h11, .inr (10, mX10 h12 h13 h14 h15 h16 h17 v11)), (h12, .inl (k12, 10, .inr (.inl f12))), (h4, .inr (10, mX10 h5 h6 h7 h8 h9 h10 v4)), (h5, .inl (k5, 400, .inr (.inl f5))), (h24, zi k24 160 (a21_ 0))]) (w1 := [(h0, .inr (4, mX4 h1 h4 h11 h18 (upd (upd (upd (upd (upd v0 4 (u58_ 0)) 5 (u58_ 1)) 6 (u58_ 2)) 7 (u58_ 3)) 9 (u58_ 4)))), (h18, .inr (7, mX7 h19 h20 h21 h22 h23 h24 h25 (upd (upd (upd (upd (upd v18 7 (u58_ 5)) 8 (u21_ 1)) 9 (u58_ 6)) 10 (u58_ 7)) 11 (u58_ 8)))), (h19, zi k19 40 (a58_ 0)), (h20, zi k20 40 (a58_ 1)), (h21, zi k21 40 (a58_ 2)), (h22, zi k22 40 (a58_ 3)), (h23, zi k23 40 (a58_ 4)), (h25, zi k25 270 (a58_ 5)), (h1, .inr (9, mX9 h2 h3 (upd v1 3 (u21_ 2)))), (h2, zi k2 600 f2)]) hP hD [0, 1, 4, 5, 6, 7, 8, 9, 2, 3] [10, 11, 12, 13, 14, 15] rfl rfl (by decide) (by decide) hk1 hFc hP1 hD1
            have hP : va_P (dC, dI) vwCl [(h0, .inr (4, mX4 h1 h4 h11 h18 (upd (upd (upd (upd (upd v0 4 (u58_ 0)) 5 (u58_ 1)) 6 (u58_ 2)) 7 (u58_ 3)) 9 (u58_ 4)))), (h18, .inr (7, mX7 h19 h20 h21 h22 h23 h24 h25 (upd (upd (upd (upd (upd v18 7 (u58_ 5)) 8 (u21_ 1)) 9 (u58_ 6)) 10 (u58_ 7)) 11 (u58_ 8)))), (h1, .inr (9, mX9 h2 h3 (upd v1 3 (u21_ 2)))), (h2, zi k2 600 f2), (h19, zi k19 40 (a58_ 0)), (h20, zi k20 40 (a58_ 1)), (h21, zi k21 40 (a58_ 2)), (h22, zi k22 40 (a58_ 3)), (h23, zi k23 40 (a58_ 4)), (h25, zi k25 270 (a58_ 5)), (h3, zi k3 12 (a21_ 1)), (h11, .inr (10, mX10 h12 h13 h14 h15 h16 h17 v11)), (h12, .inl (k12, 10, .inr (.inl f12))), (h4, .inr (10, mX10 h5 h6 h7 h8 h9 h10 v4)), (h5, .inl (k5, 400, .inr (.inl f5))), (h24, zi k24 160 (a21_ 0))] H1 := hP.sub [6, 7, 14, 15, 8, 9, 10, 11, 12, 13, 0, 1, 2, 3, 4, 5] rfl
            have hD : va_D A [(h0, .inr (4, mX4 h1 h4 h11 h18 (upd (upd (upd (upd (upd v0 4 (u58_ 0)) 5 (u58_ 1)) 6 (u58_ 2)) 7 (u58_ 3)) 9 (u58_ 4)))), (h18, .inr (7, mX7 h19 h20 h21 h22 h23 h24 h25 (upd (upd (upd (upd (upd v18 7 (u58_ 5)) 8 (u21_ 1)) 9 (u58_ 6)) 10 (u58_ 7)) 11 (u58_ 8)))), (h1, .inr (9, mX9 h2 h3 (upd v1 3 (u21_ 2)))), (h2, zi k2 600 f2), (h19, zi k19 40 (a58_ 0)), (h20, zi k20 40 (a58_ 1)), (h21, zi k21 40 (a58_ 2)), (h22, zi k22 40 (a58_ 3)), (h23, zi k23 40 (a58_ 4)), (h25, zi k25 270 (a58_ 5)), (h3, zi k3 12 (a21_ 1)), (h11, .inr (10, mX10 h12 h13 h14 h15 h16 h17 v11)), (h12, .inl (k12, 10, .inr (.inl f12))), (h4, .inr (10, mX10 h5 h6 h7 h8 h9 h10 v4)), (h5, .inl (k5, 400, .inr (.inl f5))), (h24, zi k24 160 (a21_ 0))] := hD.sub [6, 7, 14, 15, 8, 9, 10, 11, 12, 13, 0, 1, 2, 3, 4, 5] (by decide) rfl
            generalize H1 = H at hP hS ⊢
            clear hz1
            refine W.widen (k := 0) (n := 0) (by decide) (by decide) ?_
            have b_ : -2147483648 ≤ (u58_ 1).toInt ∧ (u58_ 1).toInt ≤ 2147483647 := ⟨zlo _, zhi _⟩
            have b_ : -2147483648 ≤ (u58_ 2).toInt ∧ (u58_ 2).toInt ≤ 2147483647 := ⟨zlo _, zhi _⟩
            have b_ : -2147483648 ≤ (u58_ 3).toInt ∧ (u58_ 3).toInt ≤ 2147483647 := ⟨zlo _, zhi _⟩
            have b_ : -2147483648 ≤ (u58_ 7).toInt ∧ (u58_ 7).toInt ≤ 2147483647 := ⟨zlo _, zhi _⟩
            have b_ : -2147483648 ≤ (u58_ 8).toInt ∧ (u58_ 8).toInt ≤ 2147483647 := ⟨zlo _, zhi _⟩
            have hpost : (0 ≤ (u58_ 0).toInt ∧ (u58_ 0).toInt ≤ 265) ∧ (0 ≤ (u58_ 4).toInt ∧ (u58_ 4).toInt ≤ 1) ∧ (0 ≤ (u58_ 5).toInt ∧ (u58_ 5).toInt ≤ 40) ∧ (0 ≤ (u21_ 1).toInt ∧ (u21_ 1).toInt ≤ 160) ∧ (0 ≤ (u58_ 6).toInt ∧ (u58_ 6).toInt ≤ 270) ∧ (0 ≤ (u21_ 2).toInt ∧ (u21_ 2).toInt ≤ 12) := ⟨(by first | with_reducible assumption | exact ⟨by omega, by omega⟩), (by first | with_reducible assumption | exact ⟨by omega, by omega⟩), (by first | with_reducible assumption | exact ⟨by omega, by omega⟩), (by first | with_reducible assumption | exact ⟨by omega, by omega⟩), (by first | with_reducible assumption | exact ⟨by omega, by omega⟩), (by first | with_reducible assumption | exact ⟨by omega, by omega⟩)⟩
            have hP9 : va_P (dC, dI) vwCl [(h0, .inr (4, mX4 h1 h4 h11 h18 (upd (upd (upd (upd (upd v0 4 (u58_ 0)) 5 (u58_ 1)) 6 (u58_ 2)) 7 (u58_ 3)) 9 (u58_ 4)))), (h18, .inr (7, mX7 h19 h20 h21 h22 h23 h24 h25 (upd (upd (upd (upd (upd v18 7 (u58_ 5)) 8 (u21_ 1)) 9 (u58_ 6)) 10 (u58_ 7)) 11 (u58_ 8)))), (h1, .inr (9, mX9 h2 h3 (upd v1 3 (u21_ 2)))), (h2, zi k2 600 f2), (h19, zi k19 40 (a58_ 0)), (h20, zi k20 40 (a58_ 1)), (h21, zi k21 40 (a58_ 2)), (h22, zi k22 40 (a58_ 3)), (h23, zi k23 40 (a58_ 4)), (h25, zi k25 270 (a58_ 5)), (h3, zi k3 12 (a21_ 1)), (h11, .inr (10, mX10 h12 h13 h14 h15 h16 h17 v11)), (h12, .inl (k12, 10, .inr (.inl f12))), (h4, .inr (10, mX10 h5 h6 h7 h8 h9 h10 v4)), (h5, .inl (k5, 400, .inr (.inl f5))), (h24, zi k24 160 (a21_ 0))] H := hP
            have hD9 : va_D A [(h0, .inr (4, mX4 h1 h4 h11 h18 (upd (upd (upd (upd (upd v0 4 (u58_ 0)) 5 (u58_ 1)) 6 (u58_ 2)) 7 (u58_ 3)) 9 (u58_ 4)))), (h18, .inr (7, mX7 h19 h20 h21 h22 h23 h24 h25 (upd (upd (upd (upd (upd v18 7 (u58_ 5)) 8 (u21_ 1)) 9 (u58_ 6)) 10 (u58_ 7)) 11 (u58_ 8)))), (h1, .inr (9, mX9 h2 h3 (upd v1 3 (u21_ 2)))), (h2, zi k2 600 f2), (h19, zi k19 40 (a58_ 0)), (h20, zi k20 40 (a58_ 1)), (h21, zi k21 40 (a58_ 2)), (h22, zi k22 40 (a58_ 3)), (h23, zi k23 40 (a58_ 4)), (h25, zi k25 270 (a58_ 5)), (h3, zi k3 12 (a21_ 1)), (h11, .inr (10, mX10 h12 h13 h14 h15 h16 h17 v11)), (h12, .inl (k12, 10, .inr (.inl f12))), (h4, .inr (10, mX10 h5 h6 h7 h8 h9 h10 v4)), (h5, .inl (k5, 400, .inr (.inl f5))), (h24, zi k24 160 (a21_ 0))] := hD
            exact W.vret hx hb hr (fun t ht hW => ⟨⟨(fun i => ([(u58_ 0), (u58_ 1), (u58_ 2), (u58_ 3), (u58_ 4), (u58_ 5), (u21_ 1), (u58_ 6), (u58_ 7), (u58_ 8), (u21_ 2)] : List (Int32)).getD i 0), rfl, hpost, (fun _ => 0), (fun i => ([(a58_ 0), (a58_ 1), (a58_ 2), (a58_ 3), (a58_ 4), (a58_ 5), (a21_ 1), (a21_ 0)] : List (Nat → Int32)).getD i (fun _ => 0)), (fun _ => (fun _ => 0)), ha58_5, by rw [ht]; exact hP9, va_K.moved hW.alike hK, hD9⟩, hS.F ht⟩) hS.2.2 dX4_readPhrase_61
  · skip
    have b_ : 0 ≤ (v18 8).toInt ∧ (v18 8).toInt ≤ 160 := hv18 8
    have b_ : 0 ≤ (v1 3).toInt ∧ (v1 3).toInt ≤ 12 := hv1 3
    have b_ : -2147483648 ≤ x1.toInt ∧ x1.toInt ≤ 2147483647 := ⟨zlo _, zhi _⟩
    have b_ : -2147483648 ≤ (v0 6).toInt ∧ (v0 6).toInt ≤ 2147483647 := ⟨zlo _, zhi _⟩
    have hc : va_P (dC, dI) vwCl [(h0, .inr (4, mX4 h1 h4 h11 h18 (upd (upd v0 4 (u5_ 0)) 7 (u5_ 1)))), (h18, .inr (7, mX7 h19 h20 h21 h22 h23 h24 h25 (upd v18 8 (v18 8)))), (h1, .inr (9, mX9 h2 h3 (upd v1 3 (v1 3)))), (h2, zi k2 600 f2), (h19, zi k19 40 f19), (h20, zi k20 40 f20), (h21, zi k21 40 f21), (h22, zi k22 40 f22), (h23, zi k23 40 f23), (h25, zi k25 270 f25), (h3, zi k3 12 f3), (h11, .inr (10, mX10 h12 h13 h14 h15 h16 h17 v11)), (h12, .inl (k12, 10, .inr (.inl f12))), (h4, .inr (10, mX10 h5 h6 h7 h8 h9 h10 v4)), (h5, .inl (k5, 400, .inr (.inl f5))), (h24, zi k24 160 f24)] H ∧ va_D A [(h0, .inr (4, mX4 h1 h4 h11 h18 (upd (upd v0 4 (u5_ 0)) 7 (u5_ 1)))), (h18, .inr (7, mX7 h19 h20 h21 h22 h23 h24 h25 (upd v18 8 (v18 8)))), (h1, .inr (9, mX9 h2 h3 (upd v1 3 (v1 3)))), (h2, zi k2 600 f2), (h19, zi k19 40 f19), (h20, zi k20 40 f20), (h21, zi k21 40 f21), (h22, zi k22 40 f22), (h23, zi k23 40 f23), (h25, zi k25 270 f25), (h3, zi k3 12 f3), (h11, .inr (10, mX10 h12 h13 h14 h15 h16 h17 v11)), (h12, .inl (k12, 10, .inr (.inl f12))), (h4, .inr (10, mX10 h5 h6 h7 h8 h9 h10 v4)), (h5, .inl (k5, 400, .inr (.inl f5))), (h24, zi k24 160 f24)] ∧ va_S A s.heap H locs ∧ lv_has ls 4 [(0, .ref h0), (1, .int x1), (2, .int r12_), (3, .int (v0 6))] ∧ (0 ≤ (v18 8).toInt ∧ (v18 8).toInt ≤ 160) ∧ (0 ≤ (v1 3).toInt ∧ (v1 3).toInt ≤ 12) := ⟨hP, hD, hS, lv_sub hl [2, 3, 1, 0] rfl, (by first | with_reducible assumption | exact ⟨by omega, by omega⟩), (by first | with_reducible assumption | exact ⟨by omega, by omega⟩)⟩
    exact hJ21 H locs ls (fun i => ([(v0 6), (v18 8), (v1 3), (u5_ 0), (u5_ 1)] : List (Int32)).getD i 0) (fun _ => 0) (fun i => ([f24, f3] : List (Nat → Int32)).getD i (fun _ => 0)) (fun _ => (fun _ => 0)) hc
