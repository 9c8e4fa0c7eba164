set_option maxHeartbeats 4000000 in
set_option maxRecDepth 100000 in
theorem kX8_init_0 (l : Launch) (dC : Nat → ClassId) (dI : Nat → Nat → Nat) (adK adV : Nat → Nat) (h0 u0 : Nat) (sz : Nat) : Met l yX8_init (zw yX8_init cX8_init 2 none) { frames := 1, cells := 0, slots := 0, locals := 20 } (zPc dC dI adK adV [.ref h0, .ref u0] sz [(h0, .inr (8, [.null, .int 0, .int 0, .int 0, .int 0, .int 0, .int 0, .int 0, .int 0]))] []) (va_Qv (fun _ : Unit => True) (fun (_ : Unit) (t : State) => va_P (dC, dI) vwCl [(h0, .inr (8, [.ref u0, .int 0, .int (-1), .int 0, .int 0, .int (-1), .int 0, .int 0, .int (-1)]))] t.heap ∧ va_K (dC, dI) vwCl [] t ∧ va_D (va_A [(h0, .inr (8, [.null, .int 0, .int 0, .int 0, .int 0, .int 0, .int 0, .int 0, .int 0]))] sz) [(h0, .inr (8, [.ref u0, .int 0, .int (-1), .int 0, .int 0, .int (-1), .int 0, .int 0, .int (-1)]))]) (va_A [(h0, .inr (8, [.null, .int 0, .int 0, .int 0, .int 0, .int 0, .int 0, .int 0, .int 0]))] sz)) 0 0 (va_A [(h0, .inr (8, [.null, .int 0, .int 0, .int 0, .int 0, .int 0, .int 0, .int 0, .int 0]))] sz) := by
  refine Met.ofW (cc := cX8_init) (maxL := 2) (ret := none) (by decide) rfl ?_
  intro p e s m args below meth c s₁ B hml hv
  obtain ⟨rfl, hsz, hP, hK, hD0, hE, hZ⟩ := hv
  have hx := B.exec
  have hb := B.bytes
  have hr := B.returns
  have hG : ∀ w ∈ zG, w.before _ s = true := fun w h => atoms_spec (ws := (zw yX8_init cX8_init 2 none)) B.pre w (List.mem_cons_of_mem _ h)
  have hown : s.vm.findClass RX8 = some m.cls := findClass_of_methodNamed B.named
  have hlocks := B.notSynchronized
  have hin : meth.name = "<init>" := (name_of_methodNamed B.named B.method).1
  subst hsz
  have hD := hD0.self (sz := s.heap.size)
  generalize hAe : va_A [(h0, .inr (8, [.null, .int 0, .int 0, .int 0, .int 0, .int 0, .int 0, .int 0, .int 0]))] s.heap.size = A at hD hZ ⊢
  have hA : ∀ q : Nat, s.heap.size ≤ q → A q := fun q h => by rw [← hAe]; exact Or.inr h
  have hS : va_S A s.heap s.heap [] := va_S.rf
  have hl := lv_entry ([.ref h0, .ref u0]) (n := 2) (Nat.le_of_ble_eq_true rfl)
  rw [lg_entry_eq]
  generalize (lg_sl ([.ref h0, .ref u0]) ++ List.replicate (2 - (lg_sl ([.ref h0, .ref u0])).length) Slot.unset).toArray = ls at hl ⊢
  have hl : lv_has ls 2 [(0, .ref h0), (1, .ref u0)] := hl
  refine lv_aload_n hx hb dX8_init_0 rfl (lv_at hl 0 rfl) ?_
  refine W.objInit hx hb hown (hG _ zv290) (hG _ zv161) (hG _ zv162) rfl (by rw [hml]; exact hl.1) rfl dX8_init_1 (Nat.le_of_ble_eq_true rfl) (Nat.le_of_ble_eq_true rfl) ?_
  refine W.eq (g2 := F0 m 4 ls []) rfl ?_
  refine lv_aload_n hx hb dX8_init_4 rfl (lv_at hl 0 rfl) ?_
  refine lv_iconst (v := 0) hx hb dX8_init_5 (by decide) ?_
  refine va_put (D := (dC, dI)) (ci := 8) (v := .int 0) (ty := .int) (C := RX8) (T := TX8) (N := 9) hx hb hG zuX8 tyX8 tyX8_ok nmX8 hown hK hP hD hS 0 rfl rfl 1 (by decide) (hG _ zv292) (fun _ h9 => h9) rfl (by decide +kernel) rfl rfl (Nat.le_of_ble_eq_true rfl) dX8_init_6 (fun H locs hP hD hS => ?_)
  have hP : va_P (dC, dI) vwCl [(h0, .inr (8, [.null, .int 0, .int 0, .int 0, .int 0, .int 0, .int 0, .int 0, .int 0]))] H := hP
  have hD : va_D A [(h0, .inr (8, [.null, .int 0, .int 0, .int 0, .int 0, .int 0, .int 0, .int 0, .int 0]))] := hD
  refine lv_aload_n hx hb dX8_init_9 rfl (lv_at hl 0 rfl) ?_
  refine lv_iconst (v := (-1)) hx hb dX8_init_10 (by decide) ?_
  refine va_put (D := (dC, dI)) (ci := 8) (v := .int (-1)) (ty := .int) (C := RX8) (T := TX8) (N := 9) hx hb hG zuX8 tyX8 tyX8_ok nmX8 hown hK hP hD hS 0 rfl rfl 2 (by decide) (hG _ zv293) (fun _ h9 => h9) rfl (by decide +kernel) rfl rfl (Nat.le_of_ble_eq_true rfl) dX8_init_11 (fun H locs hP hD hS => ?_)
  have hP : va_P (dC, dI) vwCl [(h0, .inr (8, [.null, .int 0, .int (-1), .int 0, .int 0, .int 0, .int 0, .int 0, .int 0]))] H := hP
  have hD : va_D A [(h0, .inr (8, [.null, .int 0, .int (-1), .int 0, .int 0, .int 0, .int 0, .int 0, .int 0]))] := hD
  refine lv_aload_n hx hb dX8_init_14 rfl (lv_at hl 0 rfl) ?_
  refine lv_iconst (v := 0) hx hb dX8_init_15 (by decide) ?_
  refine va_put (D := (dC, dI)) (ci := 8) (v := .int 0) (ty := .int) (C := RX8) (T := TX8) (N := 9) hx hb hG zuX8 tyX8 tyX8_ok nmX8 hown hK hP hD hS 0 rfl rfl 3 (by decide) (hG _ zv294) (fun _ h9 => h9) rfl (by decide +kernel) rfl rfl (Nat.le_of_ble_eq_true rfl) dX8_init_16 (fun H locs hP hD hS => ?_)
  have hP : va_P (dC, dI) vwCl [(h0, .inr (8, [.null, .int 0, .int (-1), .int 0, .int 0, .int 0, .int 0, .int 0, .int 0]))] H := hP
  have hD : va_D A [(h0, .inr (8, [.null, .int 0, .int (-1), .int 0, .int 0, .int 0, .int 0, .int 0, .int 0]))] := hD
  refine lv_aload_n hx hb dX8_init_19 rfl (lv_at hl 0 rfl) ?_
  refine lv_iconst (v := 0) hx hb dX8_init_20 (by decide) ?_
  refine va_put (D := (dC, dI)) (ci := 8) (v := .int 0) (ty := .int) (C := RX8) (T := TX8) (N := 9) hx hb hG zuX8 tyX8 tyX8_ok nmX8 hown hK hP hD hS 0 rfl rfl 4 (by decide) (hG _ zv295) (fun _ h9 => h9) rfl (by decide +kernel) rfl rfl (Nat.le_of_ble_eq_true rfl) dX8_init_21 (fun H locs hP hD hS => ?_)
  have hP : va_P (dC, dI) vwCl [(h0, .inr (8, [.null, .int 0, .int (-1), .int 0, .int 0, .int 0, .int 0, .int 0, .int 0]))] H := hP
  have hD : va_D A [(h0, .inr (8, [.null, .int 0, .int (-1), .int 0, .int 0, .int 0, .int 0, .int 0, .int 0]))] := hD
  refine lv_aload_n hx hb dX8_init_24 rfl (lv_at hl 0 rfl) ?_
  refine lv_iconst (v := (-1)) hx hb dX8_init_25 (by decide) ?_
  refine va_put (D := (dC, dI)) (ci := 8) (v := .int (-1)) (ty := .int) (C := RX8) (T := TX8) (N := 9) hx hb hG zuX8 tyX8 tyX8_ok nmX8 hown hK hP hD hS 0 rfl rfl 5 (by decide) (hG _ zv296) (fun _ h9 => h9) rfl (by decide +kernel) rfl rfl (Nat.le_of_ble_eq_true rfl) dX8_init_26 (fun H locs hP hD hS => ?_)
  have hP : va_P (dC, dI) vwCl [(h0, .inr (8, [.null, .int 0, .int (-1), .int 0, .int 0, .int (-1), .int 0, .int 0, .int 0]))] H := hP
  have hD : va_D A [(h0, .inr (8, [.null, .int 0, .int (-1), .int 0, .int 0, .int (-1), .int 0, .int 0, .int 0]))] := hD
  refine lv_aload_n hx hb dX8_init_29 rfl (lv_at hl 0 rfl) ?_
  refine lv_iconst (v := 0) hx hb dX8_init_30 (by decide) ?_
  refine va_put (D := (dC, dI)) (ci := 8) (v := .int 0) (ty := .int) (C := RX8) (T := TX8) (N := 9) hx hb hG zuX8 tyX8 tyX8_ok nmX8 hown hK hP hD hS 0 rfl rfl 6 (by decide) (hG _ zv297) (fun _ h9 => h9) rfl (by decide +kernel) rfl rfl (Nat.le_of_ble_eq_true rfl) dX8_init_31 (fun H locs hP hD hS => ?_)
  have hP : va_P (dC, dI) vwCl [(h0, .inr (8, [.null, .int 0, .int (-1), .int 0, .int 0, .int (-1), .int 0, .int 0, .int 0]))] H := hP
  have hD : va_D A [(h0, .inr (8, [.null, .int 0, .int (-1), .int 0, .int 0, .int (-1), .int 0, .int 0, .int 0]))] := hD
  refine lv_aload_n hx hb dX8_init_34 rfl (lv_at hl 0 rfl) ?_
  refine lv_iconst (v := 0) hx hb dX8_init_35 (by decide) ?_
  refine va_put (D := (dC, dI)) (ci := 8) (v := .int 0) (ty := .int) (C := RX8) (T := TX8) (N := 9) hx hb hG zuX8 tyX8 tyX8_ok nmX8 hown hK hP hD hS 0 rfl rfl 7 (by decide) (hG _ zv298) (fun _ h9 => h9) rfl (by decide +kernel) rfl rfl (Nat.le_of_ble_eq_true rfl) dX8_init_36 (fun H locs hP hD hS => ?_)
  have hP : va_P (dC, dI) vwCl [(h0, .inr (8, [.null, .int 0, .int (-1), .int 0, .int 0, .int (-1), .int 0, .int 0, .int 0]))] H := hP
  have hD : va_D A [(h0, .inr (8, [.null, .int 0, .int (-1), .int 0, .int 0, .int (-1), .int 0, .int 0, .int 0]))] := hD
  refine lv_aload_n hx hb dX8_init_39 rfl (lv_at hl 0 rfl) ?_
  refine lv_iconst (v := (-1)) hx hb dX8_init_40 (by decide) ?_
  refine va_put (D := (dC, dI)) (ci := 8) (v := .int (-1)) (ty := .int) (C := RX8) (T := TX8) (N := 9) hx hb hG zuX8 tyX8 tyX8_ok nmX8 hown hK hP hD hS 0 rfl rfl 8 (by decide) (hG _ zv299) (fun _ h9 => h9) rfl (by decide +kernel) rfl rfl (Nat.le_of_ble_eq_true rfl) dX8_init_41 (fun H locs hP hD hS => ?_)
  have hP : va_P (dC, dI) vwCl [(h0, .inr (8, [.null, .int 0, .int (-1), .int 0, .int 0, .int (-1), .int 0, .int 0, .int (-1)]))] H := hP
  have hD : va_D A [(h0, .inr (8, [.null, .int 0, .int (-1), .int 0, .int 0, .int (-1), .int 0, .int 0, .int (-1)]))] := hD
  refine lv_aload_n hx hb dX8_init_44 rfl (lv_at hl 0 rfl) ?_
  refine lv_aload_n hx hb dX8_init_45 rfl (lv_at hl 1 rfl) ?_
  refine va_putF (D := (dC, dI)) (ci := 8) (v := .ref u0) (ty := .object "GammaShelf$Postings") (C := RX8) (T := TX8) (N := 9) hx hb hG zuX8 tyX8 tyX8_ok nmX8 hown hK hP hD hS 0 rfl rfl 0 (by decide) (hG _ zv291) (fun _ h9 => h9) rfl hin rfl (by decide +kernel) rfl rfl (Nat.le_of_ble_eq_true rfl) dX8_init_46 (fun H locs hP hD hS => ?_)
  have hP : va_P (dC, dI) vwCl [(h0, .inr (8, [.ref u0, .int 0, .int (-1), .int 0, .int 0, .int (-1), .int 0, .int 0, .int (-1)]))] H := hP
  have hD : va_D A [(h0, .inr (8, [.ref u0, .int 0, .int (-1), .int 0, .int 0, .int (-1), .int 0, .int 0, .int (-1)]))] := hD
  have hP9 := hP.sub (ws' := [(h0, .inr (8, [.ref u0, .int 0, .int (-1), .int 0, .int 0, .int (-1), .int 0, .int 0, .int (-1)]))]) [0] rfl
  have hD9 := hD.sub (ws' := [(h0, .inr (8, [.ref u0, .int 0, .int (-1), .int 0, .int 0, .int (-1), .int 0, .int 0, .int (-1)]))]) [0] (by decide) rfl
  have hK9 := hK.sub (tys' := []) [] rfl
  refine W.widen (k := 0) (n := 0) (by decide) (by decide) ?_
  exact W.vret hx hb hr (fun t ht hW => ⟨⟨(), rfl, trivial, by rw [ht]; exact hP9, va_K.moved hW.alike hK9, hD9⟩, hS.F ht⟩) hS.2.2 dX8_init_49
set_option maxHeartbeats 4000000 in
set_option maxRecDepth 100000 in
theorem kX5_init_0 (l : Launch) (dC : Nat → ClassId) (dI : Nat → Nat → Nat) (adK adV : Nat → Nat) (h0 : Nat) (sz : Nat) : Met l yX5_init (zw yX5_init cX5_init 1 none) { frames := 1, cells := 1, slots := 26, locals := 20 } (zPc dC dI adK adV [.ref h0] sz [(h0, .inr (5, [.null]))] []) (va_Qv (fun _ : Unit => True) (fun (_ : Unit) (t : State) => ∃ (q0 : Nat) (j0 : ClassId), va_P (dC, dI) vwCl [(h0, .inr (5, [.ref q0])), (q0, zi j0 26 (fun _ => 0))] t.heap ∧ va_K (dC, dI) vwCl [(j0, .int)] t ∧ va_D (va_A [(h0, .inr (5, [.null]))] sz) [(h0, .inr (5, [.ref q0])), (q0, zi j0 26 (fun _ => 0))]) (va_A [(h0, .inr (5, [.null]))] sz)) 1 26 (va_A [(h0, .inr (5, [.null]))] sz) := by
  refine Met.ofW (cc := cX5_init) (maxL := 1) (ret := none) (by decide) rfl ?_
  intro p e s m args below meth c s₁ B hml hv
  obtain ⟨rfl, hsz, hP, hK, hD0, hE, hZ⟩ := hv
  have hx := B.exec
  have hb := B.bytes
  have hr := B.returns
  have hG : ∀ w ∈ zG, w.before _ s = true := fun w h => atoms_spec (ws := (zw yX5_init cX5_init 1 none)) B.pre w (List.mem_cons_of_mem _ h)
  have hown : s.vm.findClass RX5 = some m.cls := findClass_of_methodNamed B.named
  have hlocks := B.notSynchronized
  have hin : meth.name = "<init>" := (name_of_methodNamed B.named B.method).1
  subst hsz
  have hD := hD0.self (sz := s.heap.size)
  generalize hAe : va_A [(h0, .inr (5, [.null]))] s.heap.size = A at hD hZ ⊢
  have hA : ∀ q : Nat, s.heap.size ≤ q → A q := fun q h => by rw [← hAe]; exact Or.inr h
  have hS : va_S A s.heap s.heap [] := va_S.rf
  have hl := lv_entry ([.ref h0]) (n := 1) (Nat.le_of_ble_eq_true rfl)
  rw [lg_entry_eq]
  generalize (lg_sl ([.ref h0]) ++ List.replicate (1 - (lg_sl ([.ref h0])).length) Slot.unset).toArray = ls at hl ⊢
  have hl : lv_has ls 1 [(0, .ref h0)] := hl
  refine lv_aload_n hx hb dX5_init_0 rfl (lv_at hl 0 rfl) ?_
  refine W.objInit hx hb hown (hG _ zv457) (hG _ zv161) (hG _ zv162) rfl (by rw [hml]; exact hl.1) rfl dX5_init_1 (Nat.le_of_ble_eq_true rfl) (Nat.le_of_ble_eq_true rfl) ?_
  refine W.eq (g2 := F0 m 4 ls []) rfl ?_
  refine lv_aload_n hx hb dX5_init_4 rfl (lv_at hl 0 rfl) ?_
  refine lv_bipush (v := 26) hx hb dX5_init_5 (by decide) ?_
  refine va_newa (atype := .int) (ty := .int) (N' := 26) (a0 := (26, .inl (fun _ => 0))) hx hb (hG _ zv214) rfl hK hP hD hS hA (fun _ => rfl) (by decide) (by decide +kernel) (by decide +kernel) (Nat.le_of_ble_eq_true rfl) (Nat.le_of_ble_eq_true rfl) dX5_init_7 (fun q_521 k_522 H hK hP hD hS => ?_)
  have hK : va_K (dC, dI) vwCl [(k_522, .int)] s := hK
  have hP : va_P (dC, dI) vwCl [(h0, .inr (5, [.null])), (q_521, zi k_522 26 (fun _ => 0))] H := hP
  have hD : va_D A [(h0, .inr (5, [.null])), (q_521, zi k_522 26 (fun _ => 0))] := hD
  refine W.widen (k := 1) (n := 26) (by decide) (by decide) ?_
  refine va_putF (D := (dC, dI)) (ci := 5) (v := .ref q_521) (ty := .array .int) (C := RX5) (T := TX5) (N := 1) hx hb hG zuX5 tyX5 tyX5_ok nmX5 hown hK hP hD hS 0 rfl rfl 0 (by decide) (hG _ zv458) (fun _ h9 => h9) rfl hin rfl (by decide +kernel) rfl rfl (Nat.le_of_ble_eq_true rfl) dX5_init_9 (fun H locs hP hD hS => ?_)
  have hP : va_P (dC, dI) vwCl [(h0, .inr (5, [.ref q_521])), (q_521, zi k_522 26 (fun _ => 0))] H := hP
  have hD : va_D A [(h0, .inr (5, [.ref q_521])), (q_521, zi k_522 26 (fun _ => 0))] := hD
  have hP9 := hP.sub (ws' := [(h0, .inr (5, [.ref q_521])), (q_521, zi k_522 26 (fun _ => 0))]) [0, 1] rfl
  have hD9 := hD.sub (ws' := [(h0, .inr (5, [.ref q_521])), (q_521, zi k_522 26 (fun _ => 0))]) [0, 1] (by decide) rfl
  have hK9 := hK.sub (tys' := [(k_522, .int)]) [0] rfl
  refine W.widen (k := 1) (n := 26) (by decide) (by decide) ?_
  exact W.vret hx hb hr (fun t ht hW => ⟨⟨(), rfl, trivial, q_521, k_522, by rw [ht]; exact hP9, va_K.moved hW.alike hK9, hD9⟩, hS.F ht⟩) hS.2.2 dX5_init_12
set_option maxHeartbeats 8000000 in
set_option maxRecDepth 100000 in
theorem sX7_leaves_0 (l : Launch) (dC : Nat → ClassId) (dI : Nat → Nat → Nat) (adK adV : Nat → Nat) (h0 : Nat) (h1 : Nat) (h2 : Nat) (h3 : Nat) (h4 : Nat) (h5 : Nat) (h6 : Nat) (h7 : Nat) (sz : Nat) (v0 : Nat → Int32) (hv0 : zR rg_Query v0) : Met l yX7_leaves (zw yX7_leaves cX7_leaves 1 (some .int)) { frames := 0, cells := 0, slots := 0, locals := 0 } (zPc dC dI adK adV [.ref h0] sz [(h0, .inr (7, mX7 h1 h2 h3 h4 h5 h6 h7 v0))] []) (va_Qi (fun (r : Int32) (u : Nat → Int32) => (0 ≤ r.toInt ∧ r.toInt ≤ 40) ∧ (r.toInt = (v0 7).toInt)) (fun (u : Nat → Int32) (t : State) => ∃ (ww : Nat → Int64) (aa : Nat → Nat → Int32) (bb : Nat → Nat → Int64), va_P (dC, dI) vwCl [(h0, .inr (7, mX7 h1 h2 h3 h4 h5 h6 h7 v0))] t.heap ∧ va_K (dC, dI) vwCl [] t ∧ va_D (va_A [(h0, .inr (7, mX7 h1 h2 h3 h4 h5 h6 h7 v0))] sz) [(h0, .inr (7, mX7 h1 h2 h3 h4 h5 h6 h7 v0))]) (va_A [(h0, .inr (7, mX7 h1 h2 h3 h4 h5 h6 h7 v0))] sz)) 0 0 (va_A [(h0, .inr (7, mX7 h1 h2 h3 h4 h5 h6 h7 v0))] sz) := by
  refine Met.ofW (cc := cX7_leaves) (maxL := 1) (ret := (some .int)) (by decide) rfl ?_
  intro p e s m args below meth c s₁ B hml hv
  obtain ⟨rfl, hsz, hP, hK, hD0, hE, hZ⟩ := hv
  have hx := B.exec
  have hb := B.bytes
  have hr := B.returns
  have hG : ∀ w ∈ zG, w.before _ s = true := fun w h => atoms_spec (ws := (zw yX7_leaves cX7_leaves 1 (some .int))) B.pre w (List.mem_cons_of_mem _ h)
  have hown : s.vm.findClass RX7 = some m.cls := findClass_of_methodNamed B.named
  have hlocks := B.notSynchronized

  subst hsz
  have hD := hD0.self (sz := s.heap.size)
  generalize hAe : va_A [(h0, .inr (7, mX7 h1 h2 h3 h4 h5 h6 h7 v0))] s.heap.size = A at hD hZ ⊢
  have hA : ∀ q : Nat, s.heap.size ≤ q → A q := fun q h => by rw [← hAe]; exact Or.inr h
  have hS : va_S A s.heap s.heap [] := va_S.rf
  have hl := lv_entry ([.ref h0]) (n := 1) (Nat.le_of_ble_eq_true rfl)
  rw [lg_entry_eq]
  generalize (lg_sl ([.ref h0]) ++ List.replicate (1 - (lg_sl ([.ref h0])).length) Slot.unset).toArray = ls at hl ⊢
  have hl : lv_has ls 1 [(0, .ref h0)] := hl
  have b_ : 0 ≤ (v0 7).toInt ∧ (v0 7).toInt ≤ 40 := hv0 7
  refine lv_aload_n hx hb dX7_leaves_0 rfl (lv_at hl 0 rfl) ?_
  refine va_get (D := (dC, dI)) (ci := 7) (v := .int (v0 7)) (C := RX7) (T := TX7) (N := 12) hx hb hG zuX7 hown hK hP 0 rfl rfl 7 (by decide) (hG _ zv372) (fun _ h9 => h9) rfl dX7_leaves_1 ?_
  refine W.widen (k := 0) (n := 0) (by decide) (by decide) ?_
  have hpost : (0 ≤ (v0 7).toInt ∧ (v0 7).toInt ≤ 40) ∧ ((v0 7).toInt = (v0 7).toInt) := ⟨(by first | with_reducible assumption | exact ⟨by omega, by omega⟩), by omega⟩
  have hP9 : va_P (dC, dI) vwCl [(h0, .inr (7, mX7 h1 h2 h3 h4 h5 h6 h7 v0))] s.heap := hP
  have hD9 : va_D A [(h0, .inr (7, mX7 h1 h2 h3 h4 h5 h6 h7 v0))] := hD
  exact W.iret (v := (v0 7)) hx hb hr (fun t ht hW => ⟨⟨(v0 7), (fun _ => 0), rfl, hpost, (fun _ => 0), (fun _ => (fun _ => 0)), (fun _ => (fun _ => 0)), by rw [ht]; exact hP9, va_K.moved hW.alike hK, hD9⟩, hS.F ht⟩) hS.2.2 dX7_leaves_4
set_option maxHeartbeats 8000000 in
set_option maxRecDepth 100000 in
theorem sX7_isLeaf_0 (l : Launch) (dC : Nat → ClassId) (dI : Nat → Nat → Nat) (adK adV : Nat → Nat) (sz : Nat) (x0 : Int32) : Met l yX7_isLeaf (zw yX7_isLeaf cX7_isLeaf 1 (some .boolean)) { frames := 0, cells := 0, slots := 0, locals := 0 } (zPc dC dI adK adV [.int x0] sz [] []) (va_Qi (fun (r : Int32) (u : Nat → Int32) => (0 ≤ r.toInt ∧ r.toInt ≤ 1) ∧ (r.toInt = 1 → (0 ≤ x0.toInt ∧ x0.toInt ≤ 39)) ∧ (r.toInt = 0 → x0.toInt < 0 ∨ 40 ≤ x0.toInt)) (fun (u : Nat → Int32) (t : State) => ∃ (ww : Nat → Int64) (aa : Nat → Nat → Int32) (bb : Nat → Nat → Int64), va_P (dC, dI) vwCl [] t.heap ∧ va_K (dC, dI) vwCl [] t ∧ va_D (va_A [] sz) []) (va_A [] sz)) 0 0 (va_A [] sz) := by
  refine Met.ofW (cc := cX7_isLeaf) (maxL := 1) (ret := (some .boolean)) (by decide) rfl ?_
  intro p e s m args below meth c s₁ B hml hv
  obtain ⟨rfl, hsz, hP, hK, hD0, hE, hZ⟩ := hv
  have hx := B.exec
  have hb := B.bytes
  have hr := B.returns
  have hG : ∀ w ∈ zG, w.before _ s = true := fun w h => atoms_spec (ws := (zw yX7_isLeaf cX7_isLeaf 1 (some .boolean))) B.pre w (List.mem_cons_of_mem _ h)
  have hown : s.vm.findClass RX7 = some m.cls := findClass_of_methodNamed B.named
  have hlocks := B.notSynchronized

  subst hsz
  have hD := hD0.self (sz := s.heap.size)
  generalize hAe : va_A [] s.heap.size = A at hD hZ ⊢
  have hA : ∀ q : Nat, s.heap.size ≤ q → A q := fun q h => by rw [← hAe]; exact Or.inr h
  have hS : va_S A s.heap s.heap [] := va_S.rf
  have hl := lv_entry ([.int x0]) (n := 1) (Nat.le_of_ble_eq_true rfl)
  rw [lg_entry_eq]
  generalize (lg_sl ([.int x0]) ++ List.replicate (1 - (lg_sl ([.int x0])).length) Slot.unset).toArray = ls at hl ⊢
  have hl : lv_has ls 1 [(0, .int x0)] := hl
  have b_ := zk_0
  have b_ := zk_1
  refine lv_iload_n hx hb dX7_isLeaf_0 rfl (lv_at hl 0 rfl) ?_
  have b_ : -2147483648 ≤ x0.toInt ∧ x0.toInt ≤ 2147483647 := ⟨zlo _, zhi _⟩
  refine lv_if_lt (tgt := 14) hx hb dX7_isLeaf_1 (by decide) (fun c_ => ?_) (fun c_ => ?_)
  · skip
    have b_ := zT_lt rfl zk_0 c_
    refine lv_iconst (v := 0) hx hb dX7_isLeaf_14 (by decide) ?_
    refine W.widen (k := 0) (n := 0) (by decide) (by decide) ?_
    have hpost : (0 ≤ (0 : Int32).toInt ∧ (0 : Int32).toInt ≤ 1) ∧ ((0 : Int32).toInt = 1 → (0 ≤ x0.toInt ∧ x0.toInt ≤ 39)) ∧ ((0 : Int32).toInt = 0 → x0.toInt < 0 ∨ 40 ≤ x0.toInt) := ⟨(by first | with_reducible assumption | exact ⟨by omega, by omega⟩), by omega, by omega⟩
    have hP9 : va_P (dC, dI) vwCl [] s.heap := hP
    have hD9 : va_D A [] := hD
    exact W.zret (v := 0) hx hb hr rfl (fun t ht hW => ⟨⟨0, (fun _ => 0), rfl, hpost, (fun _ => 0), (fun _ => (fun _ => 0)), (fun _ => (fun _ => 0)), by rw [ht]; exact hP9, va_K.moved hW.alike hK, hD9⟩, hS.F ht⟩) hS.2.2 dX7_isLeaf_15
  · skip
    have b_ := zF_lt rfl zk_0 c_
    refine lv_iload_n hx hb dX7_isLeaf_4 rfl (lv_at hl 0 rfl) ?_
    refine lv_bipush (v := 40) hx hb dX7_isLeaf_5 (by decide) ?_
    refine lv_icmp_ge (tgt := 14) hx hb dX7_isLeaf_7 (by decide) (fun c_ => ?_) (fun c_ => ?_)
    · skip
      have b_ := zT_ge rfl zk_40 c_
      refine lv_iconst (v := 0) hx hb dX7_isLeaf_14 (by decide) ?_
      refine W.widen (k := 0) (n := 0) (by decide) (by decide) ?_
      have hpost : (0 ≤ (0 : Int32).toInt ∧ (0 : Int32).toInt ≤ 1) ∧ ((0 : Int32).toInt = 1 → (0 ≤ x0.toInt ∧ x0.toInt ≤ 39)) ∧ ((0 : Int32).toInt = 0 → x0.toInt < 0 ∨ 40 ≤ x0.toInt) := ⟨(by first | with_reducible assumption | exact ⟨by omega, by omega⟩), by omega, by omega⟩
      have hP9 : va_P (dC, dI) vwCl [] s.heap := hP
      have hD9 : va_D A [] := hD
      exact W.zret (v := 0) hx hb hr rfl (fun t ht hW => ⟨⟨0, (fun _ => 0), rfl, hpost, (fun _ => 0), (fun _ => (fun _ => 0)), (fun _ => (fun _ => 0)), by rw [ht]; exact hP9, va_K.moved hW.alike hK, hD9⟩, hS.F ht⟩) hS.2.2 dX7_isLeaf_15
    · skip
      have b_ := zF_ge rfl zk_40 c_
      refine lv_iconst (v := 1) hx hb dX7_isLeaf_10 (by decide) ?_
      refine lv_goto (tgt := 15) hx hb dX7_isLeaf_11 (by decide) ?_
      refine W.widen (k := 0) (n := 0) (by decide) (by decide) ?_
      have hpost : (0 ≤ (1 : Int32).toInt ∧ (1 : Int32).toInt ≤ 1) ∧ ((1 : Int32).toInt = 1 → (0 ≤ x0.toInt ∧ x0.toInt ≤ 39)) ∧ ((1 : Int32).toInt = 0 → x0.toInt < 0 ∨ 40 ≤ x0.toInt) := ⟨(by first | with_reducible assumption | exact ⟨by omega, by omega⟩), by omega, by omega⟩
      have hP9 : va_P (dC, dI) vwCl [] s.heap := hP
      have hD9 : va_D A [] := hD
      exact W.zret (v := 1) hx hb hr rfl (fun t ht hW => ⟨⟨1, (fun _ => 0), rfl, hpost, (fun _ => 0), (fun _ => (fun _ => 0)), (fun _ => (fun _ => 0)), by rw [ht]; exact hP9, va_K.moved hW.alike hK, hD9⟩, hS.F ht⟩) hS.2.2 dX7_isLeaf_15
set_option maxHeartbeats 8000000 in
set_option maxRecDepth 100000 in
theorem sX7_kindOf_0 (l : Launch) (dC : Nat → ClassId) (dI : Nat → Nat → Nat) (adK adV : Nat → Nat) (h0 : Nat) (h1 : Nat) (h2 : Nat) (h3 : Nat) (h4 : Nat) (h5 : Nat) (h6 : Nat) (h7 : Nat) (k1 : ClassId) (sz : Nat) (v0 : Nat → Int32) (f1 : Nat → Int32) (x1 : Int32) (hv0 : zR rg_Query v0) : Met l yX7_kindOf (zw yX7_kindOf cX7_kindOf 2 (some .int)) { frames := 1, cells := 0, slots := 0, locals := 20 } (zPc dC dI adK adV [.ref h0, .int x1] sz [(h0, .inr (7, mX7 h1 h2 h3 h4 h5 h6 h7 v0)), (h1, zi k1 40 f1)] [(k1, .int)]) (va_Qi (fun (r : Int32) (u : Nat → Int32) => (0 ≤ x1.toInt ∧ x1.toInt ≤ 39 → r.toInt = (f1 ((x1 : Int32)).toNatClampNeg).toInt)) (fun (u : Nat → Int32) (t : State) => ∃ (ww : Nat → Int64) (aa : Nat → Nat → Int32) (bb : Nat → Nat → Int64), va_P (dC, dI) vwCl [(h0, .inr (7, mX7 h1 h2 h3 h4 h5 h6 h7 v0)), (h1, zi k1 40 f1)] t.heap ∧ va_K (dC, dI) vwCl [(k1, .int)] t ∧ va_D (va_A [(h0, .inr (7, mX7 h1 h2 h3 h4 h5 h6 h7 v0)), (h1, zi k1 40 f1)] sz) [(h0, .inr (7, mX7 h1 h2 h3 h4 h5 h6 h7 v0)), (h1, zi k1 40 f1)]) (va_A [(h0, .inr (7, mX7 h1 h2 h3 h4 h5 h6 h7 v0)), (h1, zi k1 40 f1)] sz)) 0 0 (va_A [(h0, .inr (7, mX7 h1 h2 h3 h4 h5 h6 h7 v0)), (h1, zi k1 40 f1)] sz) := by
  refine Met.ofW (cc := cX7_kindOf) (maxL := 2) (ret := (some .int)) (by decide) rfl ?_
  intro p e s m args below meth c s₁ B hml hv
  obtain ⟨rfl, hsz, hP, hK, hD0, hE, hZ⟩ := hv
  have hx := B.exec
  have hb := B.bytes
  have hr := B.returns
  have hG : ∀ w ∈ zG, w.before _ s = true := fun w h => atoms_spec (ws := (zw yX7_kindOf cX7_kindOf 2 (some .int))) B.pre w (List.mem_cons_of_mem _ h)
  have hown : s.vm.findClass RX7 = some m.cls := findClass_of_methodNamed B.named
  have hlocks := B.notSynchronized

  subst hsz
  have hD := hD0.self (sz := s.heap.size)
  generalize hAe : va_A [(h0, .inr (7, mX7 h1 h2 h3 h4 h5 h6 h7 v0)), (h1, zi k1 40 f1)] s.heap.size = A at hD hZ ⊢
  have hA : ∀ q : Nat, s.heap.size ≤ q → A q := fun q h => by rw [← hAe]; exact Or.inr h
  have hS : va_S A s.heap s.heap [] := va_S.rf
  have hl := lv_entry ([.ref h0, .int x1]) (n := 2) (Nat.le_of_ble_eq_true rfl)
  rw [lg_entry_eq]
  generalize (lg_sl ([.ref h0, .int x1]) ++ List.replicate (2 - (lg_sl ([.ref h0, .int x1])).length) Slot.unset).toArray = ls at hl ⊢
  have hl : lv_has ls 2 [(0, .ref h0), (1, .int x1)] := hl
  have b_ := zk_m1
  refine lv_iload_n hx hb dX7_kindOf_0 rfl (lv_at hl 1 rfl) ?_
  have hPc := hP.sub (ws' := []) [] rfl
  have hDc := hD.sub (ws' := []) [] (by decide) rfl
  have hKc := hK.sub (tys' := []) [] rfl
  have hFc := va_free (wc := []) hD hS hA [] rfl
  refine va_calli (va_runS (As := [.int x1]) (rest := []) ⟨hx, hb, hml, hown, hG⟩ (sX7_isLeaf_0 l dC dI adK adV s.heap.size x1) (va_cwS 1 hG (zgS zv1188 zv1189 zv136 zv1190) rfl rfl rfl (by decide +kernel) ⟨Nat.le_of_ble_eq_true rfl, Nat.le_of_ble_eq_true rfl⟩) ⟨zPc_blind, zPc_pre hPc hKc hDc hE hS hFc hZ⟩ rfl rfl hl.1 rfl (lv_room (Nat.le_of_ble_eq_true rfl)) dX7_kindOf_1 ⟨Nat.le_of_ble_eq_true rfl, Nat.le_of_ble_eq_true rfl⟩) hS (fun q _ h => hFc q h) hFc (fun r1_ u1_ t H1 locs ht hvm hw hB hz1 hk1 hS => ?_)
  replace hw : (0 ≤ r1_.toInt ∧ r1_.toInt ≤ 1) ∧ (r1_.toInt = 1 → (0 ≤ x1.toInt ∧ x1.toInt ≤ 39)) ∧ (r1_.toInt = 0 → x1.toInt < 0 ∨ 40 ≤ x1.toInt) := hw
  obtain ⟨b_, hX1_0, hX1_1⟩ := hw
  obtain ⟨w1_, a1_, b1_, hP1, hK1, hD1⟩ := hB
  rw [ht] at hP1
  obtain ⟨hP, hD⟩ := va_join (wr := [(h0, .inr (7, mX7 h1 h2 h3 h4 h5 h6 h7 v0)), (h1, zi k1 40 f1)]) (w1 := []) hP hD [] [0, 1] rfl rfl (by decide) (by decide) hk1 hFc hP1 hD1
  have hP : va_P (dC, dI) vwCl [(h0, .inr (7, mX7 h1 h2 h3 h4 h5 h6 h7 v0)), (h1, zi k1 40 f1)] H1 := hP.sub [0, 1] rfl
  have hD : va_D A [(h0, .inr (7, mX7 h1 h2 h3 h4 h5 h6 h7 v0)), (h1, zi k1 40 f1)] := hD.sub [0, 1] (by decide) rfl
  generalize H1 = H at hP hS ⊢
  clear hz1
  refine lv_if_eq (tgt := 16) hx hb dX7_kindOf_4 (by decide) (fun c_ => ?_) (fun c_ => ?_)
  · skip
    have b_ := zT_eq rfl zk_0 c_
    refine lv_iconst (v := (-1)) hx hb dX7_kindOf_16 (by decide) ?_
    refine W.widen (k := 0) (n := 0) (by decide) (by decide) ?_
    have hpost : (0 ≤ x1.toInt ∧ x1.toInt ≤ 39 → ((-1) : Int32).toInt = (f1 ((x1 : Int32)).toNatClampNeg).toInt) := by first | exact fun _ => congrArg Int32.toInt e_z12 | omega
    have hP9 : va_P (dC, dI) vwCl [(h0, .inr (7, mX7 h1 h2 h3 h4 h5 h6 h7 v0)), (h1, zi k1 40 f1)] H := hP
    have hD9 : va_D A [(h0, .inr (7, mX7 h1 h2 h3 h4 h5 h6 h7 v0)), (h1, zi k1 40 f1)] := hD
    exact W.iret (v := (-1)) hx hb hr (fun t ht hW => ⟨⟨(-1), (fun _ => 0), rfl, hpost, (fun _ => 0), (fun _ => (fun _ => 0)), (fun _ => (fun _ => 0)), by rw [ht]; exact hP9, va_K.moved hW.alike hK, hD9⟩, hS.F ht⟩) hS.2.2 dX7_kindOf_17
  · skip
    have b_ := zF_eq rfl zk_0 c_
    refine lv_aload_n hx hb dX7_kindOf_7 rfl (lv_at hl 0 rfl) ?_
    refine va_get (D := (dC, dI)) (ci := 7) (v := .ref h1) (C := RX7) (T := TX7) (N := 12) hx hb hG zuX7 hown hK hP 0 rfl rfl 0 (by decide) (hG _ zv365) (fun _ h9 => h9) rfl dX7_kindOf_8 ?_
    refine lv_iload_n hx hb dX7_kindOf_11 rfl (lv_at hl 1 rfl) ?_
    refine va_iald hx hb hK hP 1 0 rfl rfl (zin_lit ⟨by omega, by omega⟩) dX7_kindOf_12 ?_
    refine lv_topi (fun z12 e_z12 => ?_)
    refine lv_goto (tgt := 17) hx hb dX7_kindOf_13 (by decide) ?_
    refine W.widen (k := 0) (n := 0) (by decide) (by decide) ?_
    have b_ : -2147483648 ≤ z12.toInt ∧ z12.toInt ≤ 2147483647 := ⟨zlo _, zhi _⟩
    have hpost : (0 ≤ x1.toInt ∧ x1.toInt ≤ 39 → z12.toInt = (f1 ((x1 : Int32)).toNatClampNeg).toInt) := by first | exact fun _ => congrArg Int32.toInt e_z12 | omega
    have hP9 : va_P (dC, dI) vwCl [(h0, .inr (7, mX7 h1 h2 h3 h4 h5 h6 h7 v0)), (h1, zi k1 40 f1)] H := hP
    have hD9 : va_D A [(h0, .inr (7, mX7 h1 h2 h3 h4 h5 h6 h7 v0)), (h1, zi k1 40 f1)] := hD
    exact W.iret (v := z12) hx hb hr (fun t ht hW => ⟨⟨z12, (fun _ => 0), rfl, hpost, (fun _ => 0), (fun _ => (fun _ => 0)), (fun _ => (fun _ => 0)), by rw [ht]; exact hP9, va_K.moved hW.alike hK, hD9⟩, hS.F ht⟩) hS.2.2 dX7_kindOf_17
set_option maxHeartbeats 8000000 in
set_option maxRecDepth 100000 in
theorem sX7_lowOf_0 (l : Launch) (dC : Nat → ClassId) (dI : Nat → Nat → Nat) (adK adV : Nat → Nat) (h0 : Nat) (h2 : Nat) (h1 : Nat) (h3 : Nat) (h4 : Nat) (h5 : Nat) (h6 : Nat) (h7 : Nat) (k2 : ClassId) (sz : Nat) (v0 : Nat → Int32) (f2 : Nat → Int32) (x1 : Int32) (hv0 : zR rg_Query v0) : Met l yX7_lowOf (zw yX7_lowOf cX7_lowOf 2 (some .int)) { frames := 1, cells := 0, slots := 0, locals := 20 } (zPc dC dI adK adV [.ref h0, .int x1] sz [(h0, .inr (7, mX7 h1 h2 h3 h4 h5 h6 h7 v0)), (h2, zi k2 40 f2)] [(k2, .int)]) (va_Qi (fun (r : Int32) (u : Nat → Int32) => (0 ≤ x1.toInt ∧ x1.toInt ≤ 39 → r.toInt = (f2 ((x1 : Int32)).toNatClampNeg).toInt)) (fun (u : Nat → Int32) (t : State) => ∃ (ww : Nat → Int64) (aa : Nat → Nat → Int32) (bb : Nat → Nat → Int64), va_P (dC, dI) vwCl [(h0, .inr (7, mX7 h1 h2 h3 h4 h5 h6 h7 v0)), (h2, zi k2 40 f2)] t.heap ∧ va_K (dC, dI) vwCl [(k2, .int)] t ∧ va_D (va_A [(h0, .inr (7, mX7 h1 h2 h3 h4 h5 h6 h7 v0)), (h2, zi k2 40 f2)] sz) [(h0, .inr (7, mX7 h1 h2 h3 h4 h5 h6 h7 v0)), (h2, zi k2 40 f2)]) (va_A [(h0, .inr (7, mX7 h1 h2 h3 h4 h5 h6 h7 v0)), (h2, zi k2 40 f2)] sz)) 0 0 (va_A [(h0, .inr (7, mX7 h1 h2 h3 h4 h5 h6 h7 v0)), (h2, zi k2 40 f2)] sz) := by
  refine Met.ofW (cc := cX7_lowOf) (maxL := 2) (ret := (some .int)) (by decide) rfl ?_
  intro p e s m args below meth c s₁ B hml hv
  obtain ⟨rfl, hsz, hP, hK, hD0, hE, hZ⟩ := hv
  have hx := B.exec
  have hb := B.bytes
  have hr := B.returns
  have hG : ∀ w ∈ zG, w.before _ s = true := fun w h => atoms_spec (ws := (zw yX7_lowOf cX7_lowOf 2 (some .int))) B.pre w (List.mem_cons_of_mem _ h)
  have hown : s.vm.findClass RX7 = some m.cls := findClass_of_methodNamed B.named
  have hlocks := B.notSynchronized

  subst hsz
  have hD := hD0.self (sz := s.heap.size)
  generalize hAe : va_A [(h0, .inr (7, mX7 h1 h2 h3 h4 h5 h6 h7 v0)), (h2, zi k2 40 f2)] s.heap.size = A at hD hZ ⊢
  have hA : ∀ q : Nat, s.heap.size ≤ q → A q := fun q h => by rw [← hAe]; exact Or.inr h
  have hS : va_S A s.heap s.heap [] := va_S.rf
  have hl := lv_entry ([.ref h0, .int x1]) (n := 2) (Nat.le_of_ble_eq_true rfl)
  rw [lg_entry_eq]
  generalize (lg_sl ([.ref h0, .int x1]) ++ List.replicate (2 - (lg_sl ([.ref h0, .int x1])).length) Slot.unset).toArray = ls at hl ⊢
  have hl : lv_has ls 2 [(0, .ref h0), (1, .int x1)] := hl
  have b_ := zk_0
  refine lv_iload_n hx hb dX7_lowOf_0 rfl (lv_at hl 1 rfl) ?_
  have hPc := hP.sub (ws' := []) [] rfl
  have hDc := hD.sub (ws' := []) [] (by decide) rfl
  have hKc := hK.sub (tys' := []) [] rfl
  have hFc := va_free (wc := []) hD hS hA [] rfl
  refine va_calli (va_runS (As := [.int x1]) (rest := []) ⟨hx, hb, hml, hown, hG⟩ (sX7_isLeaf_0 l dC dI adK adV s.heap.size x1) (va_cwS 1 hG (zgS zv1188 zv1189 zv136 zv1190) rfl rfl rfl (by decide +kernel) ⟨Nat.le_of_ble_eq_true rfl, Nat.le_of_ble_eq_true rfl⟩) ⟨zPc_blind, zPc_pre hPc hKc hDc hE hS hFc hZ⟩ rfl rfl hl.1 rfl (lv_room (Nat.le_of_ble_eq_true rfl)) dX7_lowOf_1 ⟨Nat.le_of_ble_eq_true rfl, Nat.le_of_ble_eq_true rfl⟩) hS (fun q _ h => hFc q h) hFc (fun r1_ u1_ t H1 locs ht hvm hw hB hz1 hk1 hS => ?_)
  replace hw : (0 ≤ r1_.toInt ∧ r1_.toInt ≤ 1) ∧ (r1_.toInt = 1 → (0 ≤ x1.toInt ∧ x1.toInt ≤ 39)) ∧ (r1_.toInt = 0 → x1.toInt < 0 ∨ 40 ≤ x1.toInt) := hw
  obtain ⟨b_, hX1_0, hX1_1⟩ := hw
  obtain ⟨w1_, a1_, b1_, hP1, hK1, hD1⟩ := hB
  rw [ht] at hP1
  obtain ⟨hP, hD⟩ := va_join (wr := [(h0, .inr (7, mX7 h1 h2 h3 h4 h5 h6 h7 v0)), (h2, zi k2 40 f2)]) (w1 := []) hP hD [] [0, 1] rfl rfl (by decide) (by decide) hk1 hFc hP1 hD1
  have hP : va_P (dC, dI) vwCl [(h0, .inr (7, mX7 h1 h2 h3 h4 h5 h6 h7 v0)), (h2, zi k2 40 f2)] H1 := hP.sub [0, 1] rfl
  have hD : va_D A [(h0, .inr (7, mX7 h1 h2 h3 h4 h5 h6 h7 v0)), (h2, zi k2 40 f2)] := hD.sub [0, 1] (by decide) rfl
  generalize H1 = H at hP hS ⊢
  clear hz1
  refine lv_if_eq (tgt := 16) hx hb dX7_lowOf_4 (by decide) (fun c_ => ?_) (fun c_ => ?_)
  · skip
    have b_ := zT_eq rfl zk_0 c_
    refine lv_iconst (v := 0) hx hb dX7_lowOf_16 (by decide) ?_
    refine W.widen (k := 0) (n := 0) (by decide) (by decide) ?_
    have hpost : (0 ≤ x1.toInt ∧ x1.toInt ≤ 39 → (0 : Int32).toInt = (f2 ((x1 : Int32)).toNatClampNeg).toInt) := by first | exact fun _ => congrArg Int32.toInt e_z12 | omega
    have hP9 : va_P (dC, dI) vwCl [(h0, .inr (7, mX7 h1 h2 h3 h4 h5 h6 h7 v0)), (h2, zi k2 40 f2)] H := hP
    have hD9 : va_D A [(h0, .inr (7, mX7 h1 h2 h3 h4 h5 h6 h7 v0)), (h2, zi k2 40 f2)] := hD
    exact W.iret (v := 0) hx hb hr (fun t ht hW => ⟨⟨0, (fun _ => 0), rfl, hpost, (fun _ => 0), (fun _ => (fun _ => 0)), (fun _ => (fun _ => 0)), by rw [ht]; exact hP9, va_K.moved hW.alike hK, hD9⟩, hS.F ht⟩) hS.2.2 dX7_lowOf_17
  · skip
    have b_ := zF_eq rfl zk_0 c_
    refine lv_aload_n hx hb dX7_lowOf_7 rfl (lv_at hl 0 rfl) ?_
    refine va_get (D := (dC, dI)) (ci := 7) (v := .ref h2) (C := RX7) (T := TX7) (N := 12) hx hb hG zuX7 hown hK hP 0 rfl rfl 1 (by decide) (hG _ zv366) (fun _ h9 => h9) rfl dX7_lowOf_8 ?_
    refine lv_iload_n hx hb dX7_lowOf_11 rfl (lv_at hl 1 rfl) ?_
    refine va_iald hx hb hK hP 1 0 rfl rfl (zin_lit ⟨by omega, by omega⟩) dX7_lowOf_12 ?_
    refine lv_topi (fun z12 e_z12 => ?_)
    refine lv_goto (tgt := 17) hx hb dX7_lowOf_13 (by decide) ?_
    refine W.widen (k := 0) (n := 0) (by decide) (by decide) ?_
    have b_ : -2147483648 ≤ z12.toInt ∧ z12.toInt ≤ 2147483647 := ⟨zlo _, zhi _⟩
    have hpost : (0 ≤ x1.toInt ∧ x1.toInt ≤ 39 → z12.toInt = (f2 ((x1 : Int32)).toNatClampNeg).toInt) := by first | exact fun _ => congrArg Int32.toInt e_z12 | omega
    have hP9 : va_P (dC, dI) vwCl [(h0, .inr (7, mX7 h1 h2 h3 h4 h5 h6 h7 v0)), (h2, zi k2 40 f2)] H := hP
    have hD9 : va_D A [(h0, .inr (7, mX7 h1 h2 h3 h4 h5 h6 h7 v0)), (h2, zi k2 40 f2)] := hD
    exact W.iret (v := z12) hx hb hr (fun t ht hW => ⟨⟨z12, (fun _ => 0), rfl, hpost, (fun _ => 0), (fun _ => (fun _ => 0)), (fun _ => (fun _ => 0)), by rw [ht]; exact hP9, va_K.moved hW.alike hK, hD9⟩, hS.F ht⟩) hS.2.2 dX7_lowOf_17
set_option maxHeartbeats 8000000 in
set_option maxRecDepth 100000 in
theorem sX7_highOf_0 (l : Launch) (dC : Nat → ClassId) (dI : Nat → Nat → Nat) (adK adV : Nat → Nat) (h0 : Nat) (h3 : Nat) (h1 : Nat) (h2 : Nat) (h4 : Nat) (h5 : Nat) (h6 : Nat) (h7 : Nat) (k3 : ClassId) (sz : Nat) (v0 : Nat → Int32) (f3 : Nat → Int32) (x1 : Int32) (hv0 : zR rg_Query v0) : Met l yX7_highOf (zw yX7_highOf cX7_highOf 2 (some .int)) { frames := 1, cells := 0, slots := 0, locals := 20 } (zPc dC dI adK adV [.ref h0, .int x1] sz [(h0, .inr (7, mX7 h1 h2 h3 h4 h5 h6 h7 v0)), (h3, zi k3 40 f3)] [(k3, .int)]) (va_Qi (fun (r : Int32) (u : Nat → Int32) => (0 ≤ x1.toInt ∧ x1.toInt ≤ 39 → r.toInt = (f3 ((x1 : Int32)).toNatClampNeg).toInt)) (fun (u : Nat → Int32) (t : State) => ∃ (ww : Nat → Int64) (aa : Nat → Nat → Int32) (bb : Nat → Nat → Int64), va_P (dC, dI) vwCl [(h0, .inr (7, mX7 h1 h2 h3 h4 h5 h6 h7 v0)), (h3, zi k3 40 f3)] t.heap ∧ va_K (dC, dI) vwCl [(k3, .int)] t ∧ va_D (va_A [(h0, .inr (7, mX7 h1 h2 h3 h4 h5 h6 h7 v0)), (h3, zi k3 40 f3)] sz) [(h0, .inr (7, mX7 h1 h2 h3 h4 h5 h6 h7 v0)), (h3, zi k3 40 f3)]) (va_A [(h0, .inr (7, mX7 h1 h2 h3 h4 h5 h6 h7 v0)), (h3, zi k3 40 f3)] sz)) 0 0 (va_A [(h0, .inr (7, mX7 h1 h2 h3 h4 h5 h6 h7 v0)), (h3, zi k3 40 f3)] sz) := by
  refine Met.ofW (cc := cX7_highOf) (maxL := 2) (ret := (some .int)) (by decide) rfl ?_
  intro p e s m args below meth c s₁ B hml hv
  obtain ⟨rfl, hsz, hP, hK, hD0, hE, hZ⟩ := hv
  have hx := B.exec
  have hb := B.bytes
  have hr := B.returns
  have hG : ∀ w ∈ zG, w.before _ s = true := fun w h => atoms_spec (ws := (zw yX7_highOf cX7_highOf 2 (some .int))) B.pre w (List.mem_cons_of_mem _ h)
  have hown : s.vm.findClass RX7 = some m.cls := findClass_of_methodNamed B.named
  have hlocks := B.notSynchronized

  subst hsz
  have hD := hD0.self (sz := s.heap.size)
  generalize hAe : va_A [(h0, .inr (7, mX7 h1 h2 h3 h4 h5 h6 h7 v0)), (h3, zi k3 40 f3)] s.heap.size = A at hD hZ ⊢
  have hA : ∀ q : Nat, s.heap.size ≤ q → A q := fun q h => by rw [← hAe]; exact Or.inr h
  have hS : va_S A s.heap s.heap [] := va_S.rf
  have hl := lv_entry ([.ref h0, .int x1]) (n := 2) (Nat.le_of_ble_eq_true rfl)
  rw [lg_entry_eq]
  generalize (lg_sl ([.ref h0, .int x1]) ++ List.replicate (2 - (lg_sl ([.ref h0, .int x1])).length) Slot.unset).toArray = ls at hl ⊢
  have hl : lv_has ls 2 [(0, .ref h0), (1, .int x1)] := hl
  have b_ := zk_0
  refine lv_iload_n hx hb dX7_highOf_0 rfl (lv_at hl 1 rfl) ?_
  have hPc := hP.sub (ws' := []) [] rfl
  have hDc := hD.sub (ws' := []) [] (by decide) rfl
  have hKc := hK.sub (tys' := []) [] rfl
  have hFc := va_free (wc := []) hD hS hA [] rfl
  refine va_calli (va_runS (As := [.int x1]) (rest := []) ⟨hx, hb, hml, hown, hG⟩ (sX7_isLeaf_0 l dC dI adK adV s.heap.size x1) (va_cwS 1 hG (zgS zv1188 zv1189 zv136 zv1190) rfl rfl rfl (by decide +kernel) ⟨Nat.le_of_ble_eq_true rfl, Nat.le_of_ble_eq_true rfl⟩) ⟨zPc_blind, zPc_pre hPc hKc hDc hE hS hFc hZ⟩ rfl rfl hl.1 rfl (lv_room (Nat.le_of_ble_eq_true rfl)) dX7_highOf_1 ⟨Nat.le_of_ble_eq_true rfl, Nat.le_of_ble_eq_true rfl⟩) hS (fun q _ h => hFc q h) hFc (fun r1_ u1_ t H1 locs ht hvm hw hB hz1 hk1 hS => ?_)
  replace hw : (0 ≤ r1_.toInt ∧ r1_.toInt ≤ 1) ∧ (r1_.toInt = 1 → (0 ≤ x1.toInt ∧ x1.toInt ≤ 39)) ∧ (r1_.toInt = 0 → x1.toInt < 0 ∨ 40 ≤ x1.toInt) := hw
  obtain ⟨b_, hX1_0, hX1_1⟩ := hw
  obtain ⟨w1_, a1_, b1_, hP1, hK1, hD1⟩ := hB
  rw [ht] at hP1
  obtain ⟨hP, hD⟩ := va_join (wr := [(h0, .inr (7, mX7 h1 h2 h3 h4 h5 h6 h7 v0)), (h3, zi k3 40 f3)]) (w1 := []) hP hD [] [0, 1] rfl rfl (by decide) (by decide) hk1 hFc hP1 hD1
  have hP : va_P (dC, dI) vwCl [(h0, .inr (7, mX7 h1 h2 h3 h4 h5 h6 h7 v0)), (h3, zi k3 40 f3)] H1 := hP.sub [0, 1] rfl
  have hD : va_D A [(h0, .inr (7, mX7 h1 h2 h3 h4 h5 h6 h7 v0)), (h3, zi k3 40 f3)] := hD.sub [0, 1] (by decide) rfl
  generalize H1 = H at hP hS ⊢
  clear hz1
  refine lv_if_eq (tgt := 16) hx hb dX7_highOf_4 (by decide) (fun c_ => ?_) (fun c_ => ?_)
  · skip
    have b_ := zT_eq rfl zk_0 c_
    refine lv_iconst (v := 0) hx hb dX7_highOf_16 (by decide) ?_
    refine W.widen (k := 0) (n := 0) (by decide) (by decide) ?_
    have hpost : (0 ≤ x1.toInt ∧ x1.toInt ≤ 39 → (0 : Int32).toInt = (f3 ((x1 : Int32)).toNatClampNeg).toInt) := by first | exact fun _ => congrArg Int32.toInt e_z12 | omega
    have hP9 : va_P (dC, dI) vwCl [(h0, .inr (7, mX7 h1 h2 h3 h4 h5 h6 h7 v0)), (h3, zi k3 40 f3)] H := hP
    have hD9 : va_D A [(h0, .inr (7, mX7 h1 h2 h3 h4 h5 h6 h7 v0)), (h3, zi k3 40 f3)] := hD
    exact W.iret (v := 0) hx hb hr (fun t ht hW => ⟨⟨0, (fun _ => 0), rfl, hpost, (fun _ => 0), (fun _ => (fun _ => 0)), (fun _ => (fun _ => 0)), by rw [ht]; exact hP9, va_K.moved hW.alike hK, hD9⟩, hS.F ht⟩) hS.2.2 dX7_highOf_17
  · skip
    have b_ := zF_eq rfl zk_0 c_
    refine lv_aload_n hx hb dX7_highOf_7 rfl (lv_at hl 0 rfl) ?_
    refine va_get (D := (dC, dI)) (ci := 7) (v := .ref h3) (C := RX7) (T := TX7) (N := 12) hx hb hG zuX7 hown hK hP 0 rfl rfl 2 (by decide) (hG _ zv367) (fun _ h9 => h9) rfl dX7_highOf_8 ?_
    refine lv_iload_n hx hb dX7_highOf_11 rfl (lv_at hl 1 rfl) ?_
    refine va_iald hx hb hK hP 1 0 rfl rfl (zin_lit ⟨by omega, by omega⟩) dX7_highOf_12 ?_
    refine lv_topi (fun z12 e_z12 => ?_)
    refine lv_goto (tgt := 17) hx hb dX7_highOf_13 (by decide) ?_
    refine W.widen (k := 0) (n := 0) (by decide) (by decide) ?_
    have b_ : -2147483648 ≤ z12.toInt ∧ z12.toInt ≤ 2147483647 := ⟨zlo _, zhi _⟩
    have hpost : (0 ≤ x1.toInt ∧ x1.toInt ≤ 39 → z12.toInt = (f3 ((x1 : Int32)).toNatClampNeg).toInt) := by first | exact fun _ => congrArg Int32.toInt e_z12 | omega
    have hP9 : va_P (dC, dI) vwCl [(h0, .inr (7, mX7 h1 h2 h3 h4 h5 h6 h7 v0)), (h3, zi k3 40 f3)] H := hP
    have hD9 : va_D A [(h0, .inr (7, mX7 h1 h2 h3 h4 h5 h6 h7 v0)), (h3, zi k3 40 f3)] := hD
    exact W.iret (v := z12) hx hb hr (fun t ht hW => ⟨⟨z12, (fun _ => 0), rfl, hpost, (fun _ => 0), (fun _ => (fun _ => 0)), (fun _ => (fun _ => 0)), by rw [ht]; exact hP9, va_K.moved hW.alike hK, hD9⟩, hS.F ht⟩) hS.2.2 dX7_highOf_17
set_option maxHeartbeats 8000000 in
set_option maxRecDepth 100000 in
theorem sX10_size_0 (l : Launch) (dC : Nat → ClassId) (dI : Nat → Nat → Nat) (adK adV : Nat → Nat) (h0 : Nat) (h1 : Nat) (h2 : Nat) (h3 : Nat) (h4 : Nat) (h5 : Nat) (h6 : Nat) (sz : Nat) (v0 : Nat → Int32) (hv0 : zR rg_Words400 v0) : Met l yX10_size (zw yX10_size cX10_size 1 (some .int)) { frames := 0, cells := 0, slots := 0, locals := 0 } (zPc dC dI adK adV [.ref h0] sz [(h0, .inr (10, mX10 h1 h2 h3 h4 h5 h6 v0))] []) (va_Qi (fun (r : Int32) (u : Nat → Int32) => (0 ≤ r.toInt ∧ r.toInt ≤ 400) ∧ (r.toInt = (v0 7).toInt) ∧ (r.toInt = (v0 7).toInt)) (fun (u : Nat → Int32) (t : State) => ∃ (ww : Nat → Int64) (aa : Nat → Nat → Int32) (bb : Nat → Nat → Int64), va_P (dC, dI) vwCl [(h0, .inr (10, mX10 h1 h2 h3 h4 h5 h6 v0))] t.heap ∧ va_K (dC, dI) vwCl [] t ∧ va_D (va_A [(h0, .inr (10, mX10 h1 h2 h3 h4 h5 h6 v0))] sz) [(h0, .inr (10, mX10 h1 h2 h3 h4 h5 h6 v0))]) (va_A [(h0, .inr (10, mX10 h1 h2 h3 h4 h5 h6 v0))] sz)) 0 0 (va_A [(h0, .inr (10, mX10 h1 h2 h3 h4 h5 h6 v0))] sz) := by
  refine Met.ofW (cc := cX10_size) (maxL := 1) (ret := (some .int)) (by decide) rfl ?_
  intro p e s m args below meth c s₁ B hml hv
  obtain ⟨rfl, hsz, hP, hK, hD0, hE, hZ⟩ := hv
  have hx := B.exec
  have hb := B.bytes
  have hr := B.returns
  have hG : ∀ w ∈ zG, w.before _ s = true := fun w h => atoms_spec (ws := (zw yX10_size cX10_size 1 (some .int))) B.pre w (List.mem_cons_of_mem _ h)
  have hown : s.vm.findClass RX10 = some m.cls := findClass_of_methodNamed B.named
  have hlocks := B.notSynchronized

  subst hsz
  have hD := hD0.self (sz := s.heap.size)
  generalize hAe : va_A [(h0, .inr (10, mX10 h1 h2 h3 h4 h5 h6 v0))] s.heap.size = A at hD hZ ⊢
  have hA : ∀ q : Nat, s.heap.size ≤ q → A q := fun q h => by rw [← hAe]; exact Or.inr h
  have hS : va_S A s.heap s.heap [] := va_S.rf
  have hl := lv_entry ([.ref h0]) (n := 1) (Nat.le_of_ble_eq_true rfl)
  rw [lg_entry_eq]
  generalize (lg_sl ([.ref h0]) ++ List.replicate (1 - (lg_sl ([.ref h0])).length) Slot.unset).toArray = ls at hl ⊢
  have hl : lv_has ls 1 [(0, .ref h0)] := hl
  have b_ : 0 ≤ (v0 7).toInt ∧ (v0 7).toInt ≤ 400 := hv0 7
  refine lv_aload_n hx hb dX10_size_0 rfl (lv_at hl 0 rfl) ?_
  refine va_get (D := (dC, dI)) (ci := 10) (v := .int (v0 7)) (C := RX10) (T := TX10) (N := 8) hx hb hG zuX10 hown hK hP 0 rfl rfl 7 (by decide) (hG _ zv196) (fun _ h9 => h9) rfl dX10_size_1 ?_
  refine W.widen (k := 0) (n := 0) (by decide) (by decide) ?_
  have hpost : (0 ≤ (v0 7).toInt ∧ (v0 7).toInt ≤ 400) ∧ ((v0 7).toInt = (v0 7).toInt) ∧ ((v0 7).toInt = (v0 7).toInt) := ⟨(by first | with_reducible assumption | exact ⟨by omega, by omega⟩), by omega, by omega⟩
  have hP9 : va_P (dC, dI) vwCl [(h0, .inr (10, mX10 h1 h2 h3 h4 h5 h6 v0))] s.heap := hP
  have hD9 : va_D A [(h0, .inr (10, mX10 h1 h2 h3 h4 h5 h6 v0))] := hD
  exact W.iret (v := (v0 7)) hx hb hr (fun t ht hW => ⟨⟨(v0 7), (fun _ => 0), rfl, hpost, (fun _ => 0), (fun _ => (fun _ => 0)), (fun _ => (fun _ => 0)), by rw [ht]; exact hP9, va_K.moved hW.alike hK, hD9⟩, hS.F ht⟩) hS.2.2 dX10_size_4
set_option maxHeartbeats 8000000 in
set_option maxRecDepth 100000 in
theorem sX10_idAt_0 (l : Launch) (dC : Nat → ClassId) (dI : Nat → Nat → Nat) (adK adV : Nat → Nat) (h0 : Nat) (h2 : Nat) (h1 : Nat) (h3 : Nat) (h4 : Nat) (h5 : Nat) (h6 : Nat) (k2 : ClassId) (sz : Nat) (v0 : Nat → Int32) (f2 : Nat → Int32) (x1 : Int32) (hv0 : zR rg_Words400 v0) (hf2 : zA 0 399 f2) : Met l yX10_idAt (zw yX10_idAt cX10_idAt 2 (some .int)) { frames := 0, cells := 0, slots := 0, locals := 0 } (zPc dC dI adK adV [.ref h0, .int x1] sz [(h0, .inr (10, mX10 h1 h2 h3 h4 h5 h6 v0)), (h2, zi k2 400 f2)] [(k2, .int)]) (va_Qi (fun (r : Int32) (u : Nat → Int32) => ((-1) ≤ r.toInt ∧ r.toInt ≤ 399) ∧ (0 ≤ x1.toInt ∧ x1.toInt < (v0 7).toInt → r.toInt = (f2 ((x1 : Int32)).toNatClampNeg).toInt) ∧ (x1.toInt < 0 → r.toInt = -1)) (fun (u : Nat → Int32) (t : State) => ∃ (ww : Nat → Int64) (aa : Nat → Nat → Int32) (bb : Nat → Nat → Int64), va_P (dC, dI) vwCl [(h0, .inr (10, mX10 h1 h2 h3 h4 h5 h6 v0)), (h2, zi k2 400 f2)] t.heap ∧ va_K (dC, dI) vwCl [(k2, .int)] t ∧ va_D (va_A [(h0, .inr (10, mX10 h1 h2 h3 h4 h5 h6 v0)), (h2, zi k2 400 f2)] sz) [(h0, .inr (10, mX10 h1 h2 h3 h4 h5 h6 v0)), (h2, zi k2 400 f2)]) (va_A [(h0, .inr (10, mX10 h1 h2 h3 h4 h5 h6 v0)), (h2, zi k2 400 f2)] sz)) 0 0 (va_A [(h0, .inr (10, mX10 h1 h2 h3 h4 h5 h6 v0)), (h2, zi k2 400 f2)] sz) := by
  refine Met.ofW (cc := cX10_idAt) (maxL := 2) (ret := (some .int)) (by decide) rfl ?_
  intro p e s m args below meth c s₁ B hml hv
  obtain ⟨rfl, hsz, hP, hK, hD0, hE, hZ⟩ := hv
  have hx := B.exec
  have hb := B.bytes
  have hr := B.returns
  have hG : ∀ w ∈ zG, w.before _ s = true := fun w h => atoms_spec (ws := (zw yX10_idAt cX10_idAt 2 (some .int))) B.pre w (List.mem_cons_of_mem _ h)
  have hown : s.vm.findClass RX10 = some m.cls := findClass_of_methodNamed B.named
  have hlocks := B.notSynchronized

  subst hsz
  have hD := hD0.self (sz := s.heap.size)
  generalize hAe : va_A [(h0, .inr (10, mX10 h1 h2 h3 h4 h5 h6 v0)), (h2, zi k2 400 f2)] s.heap.size = A at hD hZ ⊢
  have hA : ∀ q : Nat, s.heap.size ≤ q → A q := fun q h => by rw [← hAe]; exact Or.inr h
  have hS : va_S A s.heap s.heap [] := va_S.rf
  have hl := lv_entry ([.ref h0, .int x1]) (n := 2) (Nat.le_of_ble_eq_true rfl)
  rw [lg_entry_eq]
  generalize (lg_sl ([.ref h0, .int x1]) ++ List.replicate (2 - (lg_sl ([.ref h0, .int x1])).length) Slot.unset).toArray = ls at hl ⊢
  have hl : lv_has ls 2 [(0, .ref h0), (1, .int x1)] := hl
  have b_ := zk_m1
  have b_ : 0 ≤ (v0 7).toInt ∧ (v0 7).toInt ≤ 400 := hv0 7
  refine lv_iload_n hx hb dX10_idAt_0 rfl (lv_at hl 1 rfl) ?_
  have b_ : -2147483648 ≤ x1.toInt ∧ x1.toInt ≤ 2147483647 := ⟨zlo _, zhi _⟩
  refine lv_if_lt (tgt := 21) hx hb dX10_idAt_1 (by decide) (fun c_ => ?_) (fun c_ => ?_)
  · skip
    have b_ := zT_lt rfl zk_0 c_
    refine lv_iconst (v := (-1)) hx hb dX10_idAt_21 (by decide) ?_
    refine W.widen (k := 0) (n := 0) (by decide) (by decide) ?_
    have hpost : ((-1) ≤ ((-1) : Int32).toInt ∧ ((-1) : Int32).toInt ≤ 399) ∧ (0 ≤ x1.toInt ∧ x1.toInt < (v0 7).toInt → ((-1) : Int32).toInt = (f2 ((x1 : Int32)).toNatClampNeg).toInt) ∧ (x1.toInt < 0 → ((-1) : Int32).toInt = -1) := ⟨(by first | with_reducible assumption | exact ⟨by omega, by omega⟩), by first | (intro q; rw [e_z17]) | (intro q; omega), by omega⟩
    have hP9 : va_P (dC, dI) vwCl [(h0, .inr (10, mX10 h1 h2 h3 h4 h5 h6 v0)), (h2, zi k2 400 f2)] s.heap := hP
    have hD9 : va_D A [(h0, .inr (10, mX10 h1 h2 h3 h4 h5 h6 v0)), (h2, zi k2 400 f2)] := hD
    exact W.iret (v := (-1)) hx hb hr (fun t ht hW => ⟨⟨(-1), (fun _ => 0), rfl, hpost, (fun _ => 0), (fun _ => (fun _ => 0)), (fun _ => (fun _ => 0)), by rw [ht]; exact hP9, va_K.moved hW.alike hK, hD9⟩, hS.F ht⟩) hS.2.2 dX10_idAt_22
  · skip
    have b_ := zF_lt rfl zk_0 c_
    refine lv_iload_n hx hb dX10_idAt_4 rfl (lv_at hl 1 rfl) ?_
    refine lv_aload_n hx hb dX10_idAt_5 rfl (lv_at hl 0 rfl) ?_
    refine va_get (D := (dC, dI)) (ci := 10) (v := .int (v0 7)) (C := RX10) (T := TX10) (N := 8) hx hb hG zuX10 hown hK hP 0 rfl rfl 7 (by decide) (hG _ zv196) (fun _ h9 => h9) rfl dX10_idAt_6 ?_
    refine lv_icmp_ge (tgt := 21) hx hb dX10_idAt_9 (by decide) (fun c_ => ?_) (fun c_ => ?_)
    · skip
      have b_ := zT_ge rfl rfl c_
      refine lv_iconst (v := (-1)) hx hb dX10_idAt_21 (by decide) ?_
      refine W.widen (k := 0) (n := 0) (by decide) (by decide) ?_
      have hpost : ((-1) ≤ ((-1) : Int32).toInt ∧ ((-1) : Int32).toInt ≤ 399) ∧ (0 ≤ x1.toInt ∧ x1.toInt < (v0 7).toInt → ((-1) : Int32).toInt = (f2 ((x1 : Int32)).toNatClampNeg).toInt) ∧ (x1.toInt < 0 → ((-1) : Int32).toInt = -1) := ⟨(by first | with_reducible assumption | exact ⟨by omega, by omega⟩), by first | (intro q; rw [e_z17]) | (intro q; omega), by omega⟩
      have hP9 : va_P (dC, dI) vwCl [(h0, .inr (10, mX10 h1 h2 h3 h4 h5 h6 v0)), (h2, zi k2 400 f2)] s.heap := hP
      have hD9 : va_D A [(h0, .inr (10, mX10 h1 h2 h3 h4 h5 h6 v0)), (h2, zi k2 400 f2)] := hD
      exact W.iret (v := (-1)) hx hb hr (fun t ht hW => ⟨⟨(-1), (fun _ => 0), rfl, hpost, (fun _ => 0), (fun _ => (fun _ => 0)), (fun _ => (fun _ => 0)), by rw [ht]; exact hP9, va_K.moved hW.alike hK, hD9⟩, hS.F ht⟩) hS.2.2 dX10_idAt_22
    · skip
      have b_ := zF_ge rfl rfl c_
      refine lv_aload_n hx hb dX10_idAt_12 rfl (lv_at hl 0 rfl) ?_
      refine va_get (D := (dC, dI)) (ci := 10) (v := .ref h2) (C := RX10) (T := TX10) (N := 8) hx hb hG zuX10 hown hK hP 0 rfl rfl 2 (by decide) (hG _ zv191) (fun _ h9 => h9) rfl dX10_idAt_13 ?_
      refine lv_iload_n hx hb dX10_idAt_16 rfl (lv_at hl 1 rfl) ?_
      refine va_iald hx hb hK hP 1 0 rfl rfl (zin_lit ⟨by omega, by omega⟩) dX10_idAt_17 ?_
      refine lv_topi (fun z17 e_z17 => ?_)
      have b_ : 0 ≤ z17.toInt ∧ z17.toInt ≤ 399 := by rw [e_z17]; exact hf2 _
      refine lv_goto (tgt := 22) hx hb dX10_idAt_18 (by decide) ?_
      refine W.widen (k := 0) (n := 0) (by decide) (by decide) ?_
      have hpost : ((-1) ≤ z17.toInt ∧ z17.toInt ≤ 399) ∧ (0 ≤ x1.toInt ∧ x1.toInt < (v0 7).toInt → z17.toInt = (f2 ((x1 : Int32)).toNatClampNeg).toInt) ∧ (x1.toInt < 0 → z17.toInt = -1) := ⟨(by first | with_reducible assumption | exact ⟨by omega, by omega⟩), by first | (intro q; rw [e_z17]) | (intro q; omega), by omega⟩
      have hP9 : va_P (dC, dI) vwCl [(h0, .inr (10, mX10 h1 h2 h3 h4 h5 h6 v0)), (h2, zi k2 400 f2)] s.heap := hP
      have hD9 : va_D A [(h0, .inr (10, mX10 h1 h2 h3 h4 h5 h6 v0)), (h2, zi k2 400 f2)] := hD
      exact W.iret (v := z17) hx hb hr (fun t ht hW => ⟨⟨z17, (fun _ => 0), rfl, hpost, (fun _ => 0), (fun _ => (fun _ => 0)), (fun _ => (fun _ => 0)), by rw [ht]; exact hP9, va_K.moved hW.alike hK, hD9⟩, hS.F ht⟩) hS.2.2 dX10_idAt_22
set_option maxHeartbeats 8000000 in
set_option maxRecDepth 100000 in
theorem sX6_isId_0 (l : Launch) (dC : Nat → ClassId) (dI : Nat → Nat → Nat) (adK adV : Nat → Nat) (sz : Nat) (x0 : Int32) : Met l yX6_isId (zw yX6_isId cX6_isId 1 (some .boolean)) { frames := 0, cells := 0, slots := 0, locals := 0 } (zPc dC dI adK adV [.int x0] sz [] []) (va_Qi (fun (r : Int32) (u : Nat → Int32) => (0 ≤ r.toInt ∧ r.toInt ≤ 1) ∧ (r.toInt = 1 → (0 ≤ x0.toInt ∧ x0.toInt ≤ 399)) ∧ (r.toInt = 0 → x0.toInt < 0 ∨ 399 < x0.toInt)) (fun (u : Nat → Int32) (t : State) => ∃ (ww : Nat → Int64) (aa : Nat → Nat → Int32) (bb : Nat → Nat → Int64), va_P (dC, dI) vwCl [] t.heap ∧ va_K (dC, dI) vwCl [] t ∧ va_D (va_A [] sz) []) (va_A [] sz)) 0 0 (va_A [] sz) := by
  refine Met.ofW (cc := cX6_isId) (maxL := 1) (ret := (some .boolean)) (by decide) rfl ?_
  intro p e s m args below meth c s₁ B hml hv
  obtain ⟨rfl, hsz, hP, hK, hD0, hE, hZ⟩ := hv
  have hx := B.exec
  have hb := B.bytes
  have hr := B.returns
  have hG : ∀ w ∈ zG, w.before _ s = true := fun w h => atoms_spec (ws := (zw yX6_isId cX6_isId 1 (some .boolean))) B.pre w (List.mem_cons_of_mem _ h)
  have hown : s.vm.findClass RX6 = some m.cls := findClass_of_methodNamed B.named
  have hlocks := B.notSynchronized

  subst hsz
  have hD := hD0.self (sz := s.heap.size)
  generalize hAe : va_A [] s.heap.size = A at hD hZ ⊢
  have hA : ∀ q : Nat, s.heap.size ≤ q → A q := fun q h => by rw [← hAe]; exact Or.inr h
  have hS : va_S A s.heap s.heap [] := va_S.rf
  have hl := lv_entry ([.int x0]) (n := 1) (Nat.le_of_ble_eq_true rfl)
  rw [lg_entry_eq]
  generalize (lg_sl ([.int x0]) ++ List.replicate (1 - (lg_sl ([.int x0])).length) Slot.unset).toArray = ls at hl ⊢
  have hl : lv_has ls 1 [(0, .int x0)] := hl
  have b_ := zk_0
  have b_ := zk_1
  refine lv_iload_n hx hb dX6_isId_0 rfl (lv_at hl 0 rfl) ?_
  have b_ : -2147483648 ≤ x0.toInt ∧ x0.toInt ≤ 2147483647 := ⟨zlo _, zhi _⟩
  refine lv_if_lt (tgt := 15) hx hb dX6_isId_1 (by decide) (fun c_ => ?_) (fun c_ => ?_)
  · skip
    have b_ := zT_lt rfl zk_0 c_
    refine lv_iconst (v := 0) hx hb dX6_isId_15 (by decide) ?_
    refine W.widen (k := 0) (n := 0) (by decide) (by decide) ?_
    have hpost : (0 ≤ (0 : Int32).toInt ∧ (0 : Int32).toInt ≤ 1) ∧ ((0 : Int32).toInt = 1 → (0 ≤ x0.toInt ∧ x0.toInt ≤ 399)) ∧ ((0 : Int32).toInt = 0 → x0.toInt < 0 ∨ 399 < x0.toInt) := ⟨(by first | with_reducible assumption | exact ⟨by omega, by omega⟩), by omega, by omega⟩
    have hP9 : va_P (dC, dI) vwCl [] s.heap := hP
    have hD9 : va_D A [] := hD
    exact W.zret (v := 0) hx hb hr rfl (fun t ht hW => ⟨⟨0, (fun _ => 0), rfl, hpost, (fun _ => 0), (fun _ => (fun _ => 0)), (fun _ => (fun _ => 0)), by rw [ht]; exact hP9, va_K.moved hW.alike hK, hD9⟩, hS.F ht⟩) hS.2.2 dX6_isId_16
  · skip
    have b_ := zF_lt rfl zk_0 c_
    refine lv_iload_n hx hb dX6_isId_4 rfl (lv_at hl 0 rfl) ?_
    refine lv_sipush (v := 400) hx hb dX6_isId_5 (by decide) ?_
    refine lv_icmp_ge (tgt := 15) hx hb dX6_isId_8 (by decide) (fun c_ => ?_) (fun c_ => ?_)
    · skip
      have b_ := zT_ge rfl zk_400 c_
      refine lv_iconst (v := 0) hx hb dX6_isId_15 (by decide) ?_
      refine W.widen (k := 0) (n := 0) (by decide) (by decide) ?_
      have hpost : (0 ≤ (0 : Int32).toInt ∧ (0 : Int32).toInt ≤ 1) ∧ ((0 : Int32).toInt = 1 → (0 ≤ x0.toInt ∧ x0.toInt ≤ 399)) ∧ ((0 : Int32).toInt = 0 → x0.toInt < 0 ∨ 399 < x0.toInt) := ⟨(by first | with_reducible assumption | exact ⟨by omega, by omega⟩), by omega, by omega⟩
      have hP9 : va_P (dC, dI) vwCl [] s.heap := hP
      have hD9 : va_D A [] := hD
      exact W.zret (v := 0) hx hb hr rfl (fun t ht hW => ⟨⟨0, (fun _ => 0), rfl, hpost, (fun _ => 0), (fun _ => (fun _ => 0)), (fun _ => (fun _ => 0)), by rw [ht]; exact hP9, va_K.moved hW.alike hK, hD9⟩, hS.F ht⟩) hS.2.2 dX6_isId_16
    · skip
      have b_ := zF_ge rfl zk_400 c_
      refine lv_iconst (v := 1) hx hb dX6_isId_11 (by decide) ?_
      refine lv_goto (tgt := 16) hx hb dX6_isId_12 (by decide) ?_
      refine W.widen (k := 0) (n := 0) (by decide) (by decide) ?_
      have hpost : (0 ≤ (1 : Int32).toInt ∧ (1 : Int32).toInt ≤ 1) ∧ ((1 : Int32).toInt = 1 → (0 ≤ x0.toInt ∧ x0.toInt ≤ 399)) ∧ ((1 : Int32).toInt = 0 → x0.toInt < 0 ∨ 399 < x0.toInt) := ⟨(by first | with_reducible assumption | exact ⟨by omega, by omega⟩), by omega, by omega⟩
      have hP9 : va_P (dC, dI) vwCl [] s.heap := hP
      have hD9 : va_D A [] := hD
      exact W.zret (v := 1) hx hb hr rfl (fun t ht hW => ⟨⟨1, (fun _ => 0), rfl, hpost, (fun _ => 0), (fun _ => (fun _ => 0)), (fun _ => (fun _ => 0)), by rw [ht]; exact hP9, va_K.moved hW.alike hK, hD9⟩, hS.F ht⟩) hS.2.2 dX6_isId_16
set_option maxHeartbeats 8000000 in
set_option maxRecDepth 100000 in
theorem sX6_bitsOf_0 (l : Launch) (dC : Nat → ClassId) (dI : Nat → Nat → Nat) (adK adV : Nat → Nat) (h0 : Nat) (h6 : Nat) (h1 : Nat) (h2 : Nat) (h3 : Nat) (h4 : Nat) (h5 : Nat) (h7 : Nat) (h8 : Nat) (k6 : ClassId) (sz : Nat) (v0 : Nat → Int32) (f6 : Nat → Int32) (x1 : Int32) (hv0 : zR rg_Postings v0) : Met l yX6_bitsOf (zw yX6_bitsOf cX6_bitsOf 2 (some .int)) { frames := 1, cells := 0, slots := 0, locals := 20 } (zPc dC dI adK adV [.ref h0, .int x1] sz [(h0, .inr (6, mX6 h1 h2 h3 h4 h5 h6 h7 h8 v0)), (h6, zi k6 400 f6)] [(k6, .int)]) (va_Qi (fun (r : Int32) (u : Nat → Int32) => (zW (0 ≤ x1.toInt → x1.toInt ≤ 399 → r.toInt = (f6 ((x1 : Int32)).toNatClampNeg).toInt)) ∧ ((x1.toInt < 0 ∨ 399 < x1.toInt) → r.toInt = 0)) (fun (u : Nat → Int32) (t : State) => ∃ (ww : Nat → Int64) (aa : Nat → Nat → Int32) (bb : Nat → Nat → Int64), va_P (dC, dI) vwCl [(h0, .inr (6, mX6 h1 h2 h3 h4 h5 h6 h7 h8 v0)), (h6, zi k6 400 f6)] t.heap ∧ va_K (dC, dI) vwCl [(k6, .int)] t ∧ va_D (va_A [(h0, .inr (6, mX6 h1 h2 h3 h4 h5 h6 h7 h8 v0)), (h6, zi k6 400 f6)] sz) [(h0, .inr (6, mX6 h1 h2 h3 h4 h5 h6 h7 h8 v0)), (h6, zi k6 400 f6)]) (va_A [(h0, .inr (6, mX6 h1 h2 h3 h4 h5 h6 h7 h8 v0)), (h6, zi k6 400 f6)] sz)) 0 0 (va_A [(h0, .inr (6, mX6 h1 h2 h3 h4 h5 h6 h7 h8 v0)), (h6, zi k6 400 f6)] sz) := by
  refine Met.ofW (cc := cX6_bitsOf) (maxL := 2) (ret := (some .int)) (by decide) rfl ?_
  intro p e s m args below meth c s₁ B hml hv
  obtain ⟨rfl, hsz, hP, hK, hD0, hE, hZ⟩ := hv
  have hx := B.exec
  have hb := B.bytes
  have hr := B.returns
  have hG : ∀ w ∈ zG, w.before _ s = true := fun w h => atoms_spec (ws := (zw yX6_bitsOf cX6_bitsOf 2 (some .int))) B.pre w (List.mem_cons_of_mem _ h)
  have hown : s.vm.findClass RX6 = some m.cls := findClass_of_methodNamed B.named
  have hlocks := B.notSynchronized

  subst hsz
  have hD := hD0.self (sz := s.heap.size)
  generalize hAe : va_A [(h0, .inr (6, mX6 h1 h2 h3 h4 h5 h6 h7 h8 v0)), (h6, zi k6 400 f6)] s.heap.size = A at hD hZ ⊢
  have hA : ∀ q : Nat, s.heap.size ≤ q → A q := fun q h => by rw [← hAe]; exact Or.inr h
  have hS : va_S A s.heap s.heap [] := va_S.rf
  have hl := lv_entry ([.ref h0, .int x1]) (n := 2) (Nat.le_of_ble_eq_true rfl)
  rw [lg_entry_eq]
  generalize (lg_sl ([.ref h0, .int x1]) ++ List.replicate (2 - (lg_sl ([.ref h0, .int x1])).length) Slot.unset).toArray = ls at hl ⊢
  have hl : lv_has ls 2 [(0, .ref h0), (1, .int x1)] := hl
  have b_ := zk_0
  refine lv_iload_n hx hb dX6_bitsOf_0 rfl (lv_at hl 1 rfl) ?_
  have hPc := hP.sub (ws' := []) [] rfl
  have hDc := hD.sub (ws' := []) [] (by decide) rfl
  have hKc := hK.sub (tys' := []) [] rfl
  have hFc := va_free (wc := []) hD hS hA [] rfl
  refine va_calli (va_runS (As := [.int x1]) (rest := []) ⟨hx, hb, hml, hown, hG⟩ (sX6_isId_0 l dC dI adK adV s.heap.size x1) (va_cwS 1 hG (zgS zv775 zv776 zv133 zv777) rfl rfl rfl (by decide +kernel) ⟨Nat.le_of_ble_eq_true rfl, Nat.le_of_ble_eq_true rfl⟩) ⟨zPc_blind, zPc_pre hPc hKc hDc hE hS hFc hZ⟩ rfl rfl hl.1 rfl (lv_room (Nat.le_of_ble_eq_true rfl)) dX6_bitsOf_1 ⟨Nat.le_of_ble_eq_true rfl, Nat.le_of_ble_eq_true rfl⟩) hS (fun q _ h => hFc q h) hFc (fun r1_ u1_ t H1 locs ht hvm hw hB hz1 hk1 hS => ?_)
  replace hw : (0 ≤ r1_.toInt ∧ r1_.toInt ≤ 1) ∧ (r1_.toInt = 1 → (0 ≤ x1.toInt ∧ x1.toInt ≤ 399)) ∧ (r1_.toInt = 0 → x1.toInt < 0 ∨ 399 < x1.toInt) := hw
  obtain ⟨b_, hX1_0, hX1_1⟩ := hw
  obtain ⟨w1_, a1_, b1_, hP1, hK1, hD1⟩ := hB
  rw [ht] at hP1
  obtain ⟨hP, hD⟩ := va_join (wr := [(h0, .inr (6, mX6 h1 h2 h3 h4 h5 h6 h7 h8 v0)), (h6, zi k6 400 f6)]) (w1 := []) hP hD [] [0, 1] rfl rfl (by decide) (by decide) hk1 hFc hP1 hD1
  have hP : va_P (dC, dI) vwCl [(h0, .inr (6, mX6 h1 h2 h3 h4 h5 h6 h7 h8 v0)), (h6, zi k6 400 f6)] H1 := hP.sub [0, 1] rfl
  have hD : va_D A [(h0, .inr (6, mX6 h1 h2 h3 h4 h5 h6 h7 h8 v0)), (h6, zi k6 400 f6)] := hD.sub [0, 1] (by decide) rfl
  generalize H1 = H at hP hS ⊢
  clear hz1
  refine lv_if_eq (tgt := 16) hx hb dX6_bitsOf_4 (by decide) (fun c_ => ?_) (fun c_ => ?_)
  · skip
    have b_ := zT_eq rfl zk_0 c_
    refine lv_iconst (v := 0) hx hb dX6_bitsOf_16 (by decide) ?_
    refine W.widen (k := 0) (n := 0) (by decide) (by decide) ?_
    have hpost : (zW (0 ≤ x1.toInt → x1.toInt ≤ 399 → (0 : Int32).toInt = (f6 ((x1 : Int32)).toNatClampNeg).toInt)) ∧ ((x1.toInt < 0 ∨ 399 < x1.toInt) → (0 : Int32).toInt = 0) := ⟨by first | (intro _ _; rw [e_z12]) | (intro q1 q2; omega), by omega⟩
    have hP9 : va_P (dC, dI) vwCl [(h0, .inr (6, mX6 h1 h2 h3 h4 h5 h6 h7 h8 v0)), (h6, zi k6 400 f6)] H := hP
    have hD9 : va_D A [(h0, .inr (6, mX6 h1 h2 h3 h4 h5 h6 h7 h8 v0)), (h6, zi k6 400 f6)] := hD
    exact W.iret (v := 0) hx hb hr (fun t ht hW => ⟨⟨0, (fun _ => 0), rfl, hpost, (fun _ => 0), (fun _ => (fun _ => 0)), (fun _ => (fun _ => 0)), by rw [ht]; exact hP9, va_K.moved hW.alike hK, hD9⟩, hS.F ht⟩) hS.2.2 dX6_bitsOf_17
  · skip
    have b_ := zF_eq rfl zk_0 c_
    refine lv_aload_n hx hb dX6_bitsOf_7 rfl (lv_at hl 0 rfl) ?_
    refine va_get (D := (dC, dI)) (ci := 6) (v := .ref h6) (C := RX6) (T := TX6) (N := 12) hx hb hG zuX6 hown hK hP 0 rfl rfl 5 (by decide) (hG _ zv253) (fun _ h9 => h9) rfl dX6_bitsOf_8 ?_
    refine lv_iload_n hx hb dX6_bitsOf_11 rfl (lv_at hl 1 rfl) ?_
    refine va_iald hx hb hK hP 1 0 rfl rfl (zin_lit ⟨by omega, by omega⟩) dX6_bitsOf_12 ?_
    refine lv_topi (fun z12 e_z12 => ?_)
    refine lv_goto (tgt := 17) hx hb dX6_bitsOf_13 (by decide) ?_
    refine W.widen (k := 0) (n := 0) (by decide) (by decide) ?_
    have b_ : -2147483648 ≤ z12.toInt ∧ z12.toInt ≤ 2147483647 := ⟨zlo _, zhi _⟩
    have hpost : (zW (0 ≤ x1.toInt → x1.toInt ≤ 399 → z12.toInt = (f6 ((x1 : Int32)).toNatClampNeg).toInt)) ∧ ((x1.toInt < 0 ∨ 399 < x1.toInt) → z12.toInt = 0) := ⟨by first | (intro _ _; rw [e_z12]) | (intro q1 q2; omega), by omega⟩
    have hP9 : va_P (dC, dI) vwCl [(h0, .inr (6, mX6 h1 h2 h3 h4 h5 h6 h7 h8 v0)), (h6, zi k6 400 f6)] H := hP
    have hD9 : va_D A [(h0, .inr (6, mX6 h1 h2 h3 h4 h5 h6 h7 h8 v0)), (h6, zi k6 400 f6)] := hD
    exact W.iret (v := z12) hx hb hr (fun t ht hW => ⟨⟨z12, (fun _ => 0), rfl, hpost, (fun _ => 0), (fun _ => (fun _ => 0)), (fun _ => (fun _ => 0)), by rw [ht]; exact hP9, va_K.moved hW.alike hK, hD9⟩, hS.F ht⟩) hS.2.2 dX6_bitsOf_17
set_option maxHeartbeats 8000000 in
set_option maxRecDepth 100000 in
theorem sX6_firstChunkOf_0 (l : Launch) (dC : Nat → ClassId) (dI : Nat → Nat → Nat) (adK adV : Nat → Nat) (h0 : Nat) (h6 : Nat) (h4 : Nat) (h1 : Nat) (h2 : Nat) (h3 : Nat) (h5 : Nat) (h7 : Nat) (h8 : Nat) (k6 : ClassId) (k4 : ClassId) (sz : Nat) (v0 : Nat → Int32) (f6 : Nat → Int32) (f4 : Nat → Int32) (x1 : Int32) (hv0 : zR rg_Postings v0) : Met l yX6_firstChunkOf (zw yX6_firstChunkOf cX6_firstChunkOf 2 (some .int)) { frames := 1, cells := 0, slots := 0, locals := 20 } (zPc dC dI adK adV [.ref h0, .int x1] sz [(h0, .inr (6, mX6 h1 h2 h3 h4 h5 h6 h7 h8 v0)), (h6, zi k6 400 f6), (h4, zi k4 400 f4)] [(k6, .int), (k4, .int)]) (va_Qi (fun (r : Int32) (u : Nat → Int32) => (zW (0 ≤ x1.toInt → x1.toInt ≤ 399 → 0 < (f6 ((x1 : Int32)).toNatClampNeg).toInt → r.toInt = (f4 ((x1 : Int32)).toNatClampNeg).toInt))) (fun (u : Nat → Int32) (t : State) => ∃ (ww : Nat → Int64) (aa : Nat → Nat → Int32) (bb : Nat → Nat → Int64), va_P (dC, dI) vwCl [(h0, .inr (6, mX6 h1 h2 h3 h4 h5 h6 h7 h8 v0)), (h6, zi k6 400 f6), (h4, zi k4 400 f4)] t.heap ∧ va_K (dC, dI) vwCl [(k6, .int), (k4, .int)] t ∧ va_D (va_A [(h0, .inr (6, mX6 h1 h2 h3 h4 h5 h6 h7 h8 v0)), (h6, zi k6 400 f6), (h4, zi k4 400 f4)] sz) [(h0, .inr (6, mX6 h1 h2 h3 h4 h5 h6 h7 h8 v0)), (h6, zi k6 400 f6), (h4, zi k4 400 f4)]) (va_A [(h0, .inr (6, mX6 h1 h2 h3 h4 h5 h6 h7 h8 v0)), (h6, zi k6 400 f6), (h4, zi k4 400 f4)] sz)) 0 0 (va_A [(h0, .inr (6, mX6 h1 h2 h3 h4 h5 h6 h7 h8 v0)), (h6, zi k6 400 f6), (h4, zi k4 400 f4)] sz) := by
  refine Met.ofW (cc := cX6_firstChunkOf) (maxL := 2) (ret := (some .int)) (by decide) rfl ?_
  intro p e s m args below meth c s₁ B hml hv
  obtain ⟨rfl, hsz, hP, hK, hD0, hE, hZ⟩ := hv
  have hx := B.exec
  have hb := B.bytes
  have hr := B.returns
  have hG : ∀ w ∈ zG, w.before _ s = true := fun w h => atoms_spec (ws := (zw yX6_firstChunkOf cX6_firstChunkOf 2 (some .int))) B.pre w (List.mem_cons_of_mem _ h)
  have hown : s.vm.findClass RX6 = some m.cls := findClass_of_methodNamed B.named
  have hlocks := B.notSynchronized

  subst hsz
  have hD := hD0.self (sz := s.heap.size)
  generalize hAe : va_A [(h0, .inr (6, mX6 h1 h2 h3 h4 h5 h6 h7 h8 v0)), (h6, zi k6 400 f6), (h4, zi k4 400 f4)] s.heap.size = A at hD hZ ⊢
  have hA : ∀ q : Nat, s.heap.size ≤ q → A q := fun q h => by rw [← hAe]; exact Or.inr h
  have hS : va_S A s.heap s.heap [] := va_S.rf
  have hl := lv_entry ([.ref h0, .int x1]) (n := 2) (Nat.le_of_ble_eq_true rfl)
  rw [lg_entry_eq]
  generalize (lg_sl ([.ref h0, .int x1]) ++ List.replicate (2 - (lg_sl ([.ref h0, .int x1])).length) Slot.unset).toArray = ls at hl ⊢
  have hl : lv_has ls 2 [(0, .ref h0), (1, .int x1)] := hl
  have b_ := zk_m1
  refine lv_iload_n hx hb dX6_firstChunkOf_0 rfl (lv_at hl 1 rfl) ?_
  have hPc := hP.sub (ws' := []) [] rfl
  have hDc := hD.sub (ws' := []) [] (by decide) rfl
  have hKc := hK.sub (tys' := []) [] rfl
  have hFc := va_free (wc := []) hD hS hA [] rfl
  refine va_calli (va_runS (As := [.int x1]) (rest := []) ⟨hx, hb, hml, hown, hG⟩ (sX6_isId_0 l dC dI adK adV s.heap.size x1) (va_cwS 1 hG (zgS zv775 zv776 zv133 zv777) rfl rfl rfl (by decide +kernel) ⟨Nat.le_of_ble_eq_true rfl, Nat.le_of_ble_eq_true rfl⟩) ⟨zPc_blind, zPc_pre hPc hKc hDc hE hS hFc hZ⟩ rfl rfl hl.1 rfl (lv_room (Nat.le_of_ble_eq_true rfl)) dX6_firstChunkOf_1 ⟨Nat.le_of_ble_eq_true rfl, Nat.le_of_ble_eq_true rfl⟩) hS (fun q _ h => hFc q h) hFc (fun r1_ u1_ t H1 locs ht hvm hw hB hz1 hk1 hS => ?_)
  replace hw : (0 ≤ r1_.toInt ∧ r1_.toInt ≤ 1) ∧ (r1_.toInt = 1 → (0 ≤ x1.toInt ∧ x1.toInt ≤ 399)) ∧ (r1_.toInt = 0 → x1.toInt < 0 ∨ 399 < x1.toInt) := hw
  obtain ⟨b_, hX1_0, hX1_1⟩ := hw
  obtain ⟨w1_, a1_, b1_, hP1, hK1, hD1⟩ := hB
  rw [ht] at hP1
  obtain ⟨hP, hD⟩ := va_join (wr := [(h0, .inr (6, mX6 h1 h2 h3 h4 h5 h6 h7 h8 v0)), (h6, zi k6 400 f6), (h4, zi k4 400 f4)]) (w1 := []) hP hD [] [0, 1, 2] rfl rfl (by decide) (by decide) hk1 hFc hP1 hD1
  have hP : va_P (dC, dI) vwCl [(h0, .inr (6, mX6 h1 h2 h3 h4 h5 h6 h7 h8 v0)), (h6, zi k6 400 f6), (h4, zi k4 400 f4)] H1 := hP.sub [0, 1, 2] rfl
  have hD : va_D A [(h0, .inr (6, mX6 h1 h2 h3 h4 h5 h6 h7 h8 v0)), (h6, zi k6 400 f6), (h4, zi k4 400 f4)] := hD.sub [0, 1, 2] (by decide) rfl
  generalize H1 = H at hP hS ⊢
  clear hz1
  refine lv_if_eq (tgt := 25) hx hb dX6_firstChunkOf_4 (by decide) (fun c_ => ?_) (fun c_ => ?_)
  · skip
    have b_ := zT_eq rfl zk_0 c_
    refine lv_iconst (v := (-1)) hx hb dX6_firstChunkOf_25 (by decide) ?_
    refine W.widen (k := 0) (n := 0) (by decide) (by decide) ?_
    have hpost : (zW (0 ≤ x1.toInt → x1.toInt ≤ 399 → 0 < (f6 ((x1 : Int32)).toNatClampNeg).toInt → ((-1) : Int32).toInt = (f4 ((x1 : Int32)).toNatClampNeg).toInt)) := by first | (intro _ _ _; rw [e_z21]) | (intro q1 q2; omega) | (intro q1 q2 q3; rw [← e_z12] at q3; omega)
    have hP9 : va_P (dC, dI) vwCl [(h0, .inr (6, mX6 h1 h2 h3 h4 h5 h6 h7 h8 v0)), (h6, zi k6 400 f6), (h4, zi k4 400 f4)] H := hP
    have hD9 : va_D A [(h0, .inr (6, mX6 h1 h2 h3 h4 h5 h6 h7 h8 v0)), (h6, zi k6 400 f6), (h4, zi k4 400 f4)] := hD
    exact W.iret (v := (-1)) hx hb hr (fun t ht hW => ⟨⟨(-1), (fun _ => 0), rfl, hpost, (fun _ => 0), (fun _ => (fun _ => 0)), (fun _ => (fun _ => 0)), by rw [ht]; exact hP9, va_K.moved hW.alike hK, hD9⟩, hS.F ht⟩) hS.2.2 dX6_firstChunkOf_26
  · skip
    have b_ := zF_eq rfl zk_0 c_
    refine lv_aload_n hx hb dX6_firstChunkOf_7 rfl (lv_at hl 0 rfl) ?_
    refine va_get (D := (dC, dI)) (ci := 6) (v := .ref h6) (C := RX6) (T := TX6) (N := 12) hx hb hG zuX6 hown hK hP 0 rfl rfl 5 (by decide) (hG _ zv253) (fun _ h9 => h9) rfl dX6_firstChunkOf_8 ?_
    refine lv_iload_n hx hb dX6_firstChunkOf_11 rfl (lv_at hl 1 rfl) ?_
    refine va_iald hx hb hK hP 1 0 rfl rfl (zin_lit ⟨by omega, by omega⟩) dX6_firstChunkOf_12 ?_
    refine lv_topi (fun z12 e_z12 => ?_)
    have b_ : -2147483648 ≤ z12.toInt ∧ z12.toInt ≤ 2147483647 := ⟨zlo _, zhi _⟩
    refine lv_if_le (tgt := 25) hx hb dX6_firstChunkOf_13 (by decide) (fun c_ => ?_) (fun c_ => ?_)
    · skip
      have b_ := zT_le rfl zk_0 c_
      refine lv_iconst (v := (-1)) hx hb dX6_firstChunkOf_25 (by decide) ?_
      refine W.widen (k := 0) (n := 0) (by decide) (by decide) ?_
      have hpost : (zW (0 ≤ x1.toInt → x1.toInt ≤ 399 → 0 < (f6 ((x1 : Int32)).toNatClampNeg).toInt → ((-1) : Int32).toInt = (f4 ((x1 : Int32)).toNatClampNeg).toInt)) := by first | (intro _ _ _; rw [e_z21]) | (intro q1 q2; omega) | (intro q1 q2 q3; rw [← e_z12] at q3; omega)
      have hP9 : va_P (dC, dI) vwCl [(h0, .inr (6, mX6 h1 h2 h3 h4 h5 h6 h7 h8 v0)), (h6, zi k6 400 f6), (h4, zi k4 400 f4)] H := hP
      have hD9 : va_D A [(h0, .inr (6, mX6 h1 h2 h3 h4 h5 h6 h7 h8 v0)), (h6, zi k6 400 f6), (h4, zi k4 400 f4)] := hD
      exact W.iret (v := (-1)) hx hb hr (fun t ht hW => ⟨⟨(-1), (fun _ => 0), rfl, hpost, (fun _ => 0), (fun _ => (fun _ => 0)), (fun _ => (fun _ => 0)), by rw [ht]; exact hP9, va_K.moved hW.alike hK, hD9⟩, hS.F ht⟩) hS.2.2 dX6_firstChunkOf_26
    · skip
      have b_ := zF_le rfl zk_0 c_
      refine lv_aload_n hx hb dX6_firstChunkOf_16 rfl (lv_at hl 0 rfl) ?_
      refine va_get (D := (dC, dI)) (ci := 6) (v := .ref h4) (C := RX6) (T := TX6) (N := 12) hx hb hG zuX6 hown hK hP 0 rfl rfl 3 (by decide) (hG _ zv251) (fun _ h9 => h9) rfl dX6_firstChunkOf_17 ?_
      refine lv_iload_n hx hb dX6_firstChunkOf_20 rfl (lv_at hl 1 rfl) ?_
      refine va_iald hx hb hK hP 2 1 rfl rfl (zin_lit ⟨by omega, by omega⟩) dX6_firstChunkOf_21 ?_
      refine lv_topi (fun z21 e_z21 => ?_)
      refine lv_goto (tgt := 26) hx hb dX6_firstChunkOf_22 (by decide) ?_
      refine W.widen (k := 0) (n := 0) (by decide) (by decide) ?_
      have b_ : -2147483648 ≤ z21.toInt ∧ z21.toInt ≤ 2147483647 := ⟨zlo _, zhi _⟩
      have hpost : (zW (0 ≤ x1.toInt → x1.toInt ≤ 399 → 0 < (f6 ((x1 : Int32)).toNatClampNeg).toInt → z21.toInt = (f4 ((x1 : Int32)).toNatClampNeg).toInt)) := by first | (intro _ _ _; rw [e_z21]) | (intro q1 q2; omega) | (intro q1 q2 q3; rw [← e_z12] at q3; omega)
      have hP9 : va_P (dC, dI) vwCl [(h0, .inr (6, mX6 h1 h2 h3 h4 h5 h6 h7 h8 v0)), (h6, zi k6 400 f6), (h4, zi k4 400 f4)] H := hP
      have hD9 : va_D A [(h0, .inr (6, mX6 h1 h2 h3 h4 h5 h6 h7 h8 v0)), (h6, zi k6 400 f6), (h4, zi k4 400 f4)] := hD
      exact W.iret (v := z21) hx hb hr (fun t ht hW => ⟨⟨z21, (fun _ => 0), rfl, hpost, (fun _ => 0), (fun _ => (fun _ => 0)), (fun _ => (fun _ => 0)), by rw [ht]; exact hP9, va_K.moved hW.alike hK, hD9⟩, hS.F ht⟩) hS.2.2 dX6_firstChunkOf_26
set_option maxHeartbeats 8000000 in
set_option maxRecDepth 100000 in
theorem sX8_open_0 (l : Launch) (dC : Nat → ClassId) (dI : Nat → Nat → Nat) (adK adV : Nat → Nat) (h0 : Nat) (h1 : Nat) (h7 : Nat) (h5 : Nat) (h2 : Nat) (h3 : Nat) (h4 : Nat) (h6 : Nat) (h8 : Nat) (h9 : Nat) (k7 : ClassId) (k5 : ClassId) (k2 : ClassId) (k3 : ClassId) (k4 : ClassId) (k6 : ClassId) (sz : Nat) (v0 : Nat → Int32) (v1 : Nat → Int32) (f7 : Nat → Int32) (f5 : Nat → Int32) (f2 : Nat → Int32) (f3 : Nat → Int32) (f4 : Nat → Int32) (f6 : Nat → Int32) (x1 : Int32) (hv1 : zR rg_Postings v1) (hf3 : zA 0 1250 f3) (hf6 : zA 0 832 f6) : Met l yX8_open (zw yX8_open cX8_open 2 none) { frames := 2, cells := 0, slots := 0, locals := 41 } (zPc dC dI adK adV [.ref h0, .int x1] sz [(h0, .inr (8, mX8 h1 v0)), (h1, .inr (6, mX6 h2 h3 h4 h5 h6 h7 h8 h9 v1)), (h7, zi k7 400 f7), (h5, zi k5 400 f5), (h2, zi k2 1250 f2), (h3, zi k3 833 f3), (h4, zi k4 833 f4), (h6, zi k6 400 f6)] [(k7, .int), (k5, .int), (k2, .int), (k3, .int), (k4, .int), (k6, .int)]) (va_Qv (fun (u : Nat → Int32) => (0 ≤ (u 2).toInt ∧ (u 2).toInt ≤ 0) ∧ (0 ≤ (u 3).toInt ∧ (u 3).toInt ≤ 0) ∧ ((-1) ≤ (u 4).toInt ∧ (u 4).toInt ≤ (-1)) ∧ (0 ≤ (u 5).toInt ∧ (u 5).toInt ≤ 0) ∧ (0 ≤ (u 6).toInt ∧ (u 6).toInt ≤ 0) ∧ ((u 4).toInt = -1) ∧ ((u 5).toInt = 0) ∧ ((u 6).toInt = 0) ∧ (zW (0 ≤ x1.toInt → x1.toInt ≤ 399 → ∀ B : Nat → List Bool, zPB f2 f3 f4 f5 f6 f7 (v1 8).toInt (v1 9).toInt (v1 10).toInt (v1 11).toInt B → zRr f5 f4 B (u 0).toInt (u 1).toInt (u 2).toInt (u 3).toInt (B ((x1 : Int32)).toNatClampNeg)))) (fun (u : Nat → Int32) (t : State) => ∃ (ww : Nat → Int64) (aa : Nat → Nat → Int32) (bb : Nat → Nat → Int64), va_P (dC, dI) vwCl [(h0, .inr (8, mX8 h1 (upd (upd (upd (upd (upd (upd (upd v0 1 (u 0)) 2 (u 1)) 3 (u 2)) 4 (u 3)) 5 (u 4)) 6 (u 5)) 7 (u 6)))), (h1, .inr (6, mX6 h2 h3 h4 h5 h6 h7 h8 h9 v1)), (h7, zi k7 400 f7), (h5, zi k5 400 f5), (h2, zi k2 1250 f2), (h3, zi k3 833 f3), (h4, zi k4 833 f4), (h6, zi k6 400 f6)] t.heap ∧ va_K (dC, dI) vwCl [(k7, .int), (k5, .int), (k2, .int), (k3, .int), (k4, .int), (k6, .int)] t ∧ va_D (va_A [(h0, .inr (8, mX8 h1 v0)), (h1, .inr (6, mX6 h2 h3 h4 h5 h6 h7 h8 h9 v1)), (h7, zi k7 400 f7), (h5, zi k5 400 f5), (h2, zi k2 1250 f2), (h3, zi k3 833 f3), (h4, zi k4 833 f4), (h6, zi k6 400 f6)] sz) [(h0, .inr (8, mX8 h1 (upd (upd (upd (upd (upd (upd (upd v0 1 (u 0)) 2 (u 1)) 3 (u 2)) 4 (u 3)) 5 (u 4)) 6 (u 5)) 7 (u 6)))), (h1, .inr (6, mX6 h2 h3 h4 h5 h6 h7 h8 h9 v1)), (h7, zi k7 400 f7), (h5, zi k5 400 f5), (h2, zi k2 1250 f2), (h3, zi k3 833 f3), (h4, zi k4 833 f4), (h6, zi k6 400 f6)]) (va_A [(h0, .inr (8, mX8 h1 v0)), (h1, .inr (6, mX6 h2 h3 h4 h5 h6 h7 h8 h9 v1)), (h7, zi k7 400 f7), (h5, zi k5 400 f5), (h2, zi k2 1250 f2), (h3, zi k3 833 f3), (h4, zi k4 833 f4), (h6, zi k6 400 f6)] sz)) 0 0 (va_A [(h0, .inr (8, mX8 h1 v0)), (h1, .inr (6, mX6 h2 h3 h4 h5 h6 h7 h8 h9 v1)), (h7, zi k7 400 f7), (h5, zi k5 400 f5), (h2, zi k2 1250 f2), (h3, zi k3 833 f3), (h4, zi k4 833 f4), (h6, zi k6 400 f6)] sz) := by
  refine Met.ofW (cc := cX8_open) (maxL := 2) (ret := none) (by decide) rfl ?_
  intro p e s m args below meth c s₁ B hml hv
  obtain ⟨rfl, hsz, hP, hK, hD0, hE, hZ⟩ := hv
  have hx := B.exec
  have hb := B.bytes
  have hr := B.returns
  have hG : ∀ w ∈ zG, w.before _ s = true := fun w h => atoms_spec (ws := (zw yX8_open cX8_open 2 none)) B.pre w (List.mem_cons_of_mem _ h)
  have hown : s.vm.findClass RX8 = some m.cls := findClass_of_methodNamed B.named
  have hlocks := B.notSynchronized

  subst hsz
  have hD := hD0.self (sz := s.heap.size)
  generalize hAe : va_A [(h0, .inr (8, mX8 h1 v0)), (h1, .inr (6, mX6 h2 h3 h4 h5 h6 h7 h8 h9 v1)), (h7, zi k7 400 f7), (h5, zi k5 400 f5), (h2, zi k2 1250 f2), (h3, zi k3 833 f3), (h4, zi k4 833 f4), (h6, zi k6 400 f6)] s.heap.size = A at hD hZ ⊢
  have hA : ∀ q : Nat, s.heap.size ≤ q → A q := fun q h => by rw [← hAe]; exact Or.inr h
  have hS : va_S A s.heap s.heap [] := va_S.rf
  have hl := lv_entry ([.ref h0, .int x1]) (n := 2) (Nat.le_of_ble_eq_true rfl)
  rw [lg_entry_eq]
  generalize (lg_sl ([.ref h0, .int x1]) ++ List.replicate (2 - (lg_sl ([.ref h0, .int x1])).length) Slot.unset).toArray = ls at hl ⊢
  have hl : lv_has ls 2 [(0, .ref h0), (1, .int x1)] := hl
  have b_ := zk_m1
  have b_ := zk_0
  have b_ : -2147483648 ≤ (v0 5).toInt ∧ (v0 5).toInt ≤ 2147483647 := ⟨zlo _, zhi _⟩
  have b_ : -2147483648 ≤ (v0 6).toInt ∧ (v0 6).toInt ≤ 2147483647 := ⟨zlo _, zhi _⟩
  have b_ : -2147483648 ≤ (v0 7).toInt ∧ (v0 7).toInt ≤ 2147483647 := ⟨zlo _, zhi _⟩
  have b_ : 0 ≤ (v1 8).toInt ∧ (v1 8).toInt ≤ 833 := hv1 8
  have b_ : 0 ≤ (v1 9).toInt ∧ (v1 9).toInt ≤ 1250 := hv1 9
  have b_ : -2147483648 ≤ (v1 10).toInt ∧ (v1 10).toInt ≤ 2147483647 := ⟨zlo _, zhi _⟩
  have b_ : -2147483648 ≤ (v1 11).toInt ∧ (v1 11).toInt ≤ 2147483647 := ⟨zlo _, zhi _⟩
  have b_ : -2147483648 ≤ (v0 1).toInt ∧ (v0 1).toInt ≤ 2147483647 := ⟨zlo _, zhi _⟩
  have b_ : -2147483648 ≤ (v0 2).toInt ∧ (v0 2).toInt ≤ 2147483647 := ⟨zlo _, zhi _⟩
  have b_ : -2147483648 ≤ (v0 3).toInt ∧ (v0 3).toInt ≤ 2147483647 := ⟨zlo _, zhi _⟩
  have b_ : -2147483648 ≤ (v0 4).toInt ∧ (v0 4).toInt ≤ 2147483647 := ⟨zlo _, zhi _⟩
  refine lv_aload_n hx hb dX8_open_0 rfl (lv_at hl 0 rfl) ?_
  refine lv_aload_n hx hb dX8_open_1 rfl (lv_at hl 0 rfl) ?_
  refine va_get (D := (dC, dI)) (ci := 8) (v := .ref h1) (C := RX8) (T := TX8) (N := 9) hx hb hG zuX8 hown hK hP 0 rfl rfl 0 (by decide) (hG _ zv291) (fun _ h9 => h9) rfl dX8_open_2 ?_
  refine lv_iload_n hx hb dX8_open_5 rfl (lv_at hl 1 rfl) ?_
  have hPc := hP.sub (ws' := [(h1, .inr (6, mX6 h2 h3 h4 h5 h6 h7 h8 h9 v1)), (h7, zi k7 400 f7)]) [1, 2] rfl
  have hDc := hD.sub (ws' := [(h1, .inr (6, mX6 h2 h3 h4 h5 h6 h7 h8 h9 v1)), (h7, zi k7 400 f7)]) [1, 2] (by decide) rfl
  have hKc := hK.sub (tys' := [(k7, .int)]) [0] rfl
  have hFc := va_free (wc := [(h1, .inr (6, mX6 h2 h3 h4 h5 h6 h7 h8 h9 v1)), (h7, zi k7 400 f7)]) hD hS hA [1, 2] rfl
  refine va_calli (va_runV (As := [.int x1]) (rest := [.ref h0]) ⟨hx, hb, hml, hown, hG⟩ (sX6_bitsOf_0 l dC dI adK adV h1 h7 h2 h3 h4 h5 h6 h8 h9 k7 s.heap.size v1 f7 x1 hv1) (cwV 1 hG (zgV zv901 zv772 zv773 zv133 zv774) rfl rfl rfl (by decide +kernel) ⟨Nat.le_of_ble_eq_true rfl, Nat.le_of_ble_eq_true rfl⟩) ⟨zPc_blind, va_recv hKc hPc (ci := 6) (q0 := 0) rfl rfl, zPc_pre hPc hKc hDc hE hS hFc hZ⟩ rfl rfl hl.1 rfl (lv_room (Nat.le_of_ble_eq_true rfl)) dX8_open_6 ⟨Nat.le_of_ble_eq_true rfl, Nat.le_of_ble_eq_true rfl⟩) hS (fun q _ h => hFc q h) hFc (fun r6_ u6_ t H1 locs ht hvm hw hB hz1 hk1 hS => ?_)
  replace hw : (zW (0 ≤ x1.toInt → x1.toInt ≤ 399 → r6_.toInt = (f7 ((x1 : Int32)).toNatClampNeg).toInt)) ∧ ((x1.toInt < 0 ∨ 399 < x1.toInt) → r6_.toInt = 0) := hw
  obtain ⟨hX6_0, hX6_1⟩ := hw
  obtain ⟨w6_, a6_, b6_, hP1, hK1, hD1⟩ := hB
  rw [ht] at hP1
  obtain ⟨hP, hD⟩ := va_join (wr := [(h0, .inr (8, mX8 h1 v0)), (h5, zi k5 400 f5), (h2, zi k2 1250 f2), (h3, zi k3 833 f3), (h4, zi k4 833 f4), (h6, zi k6 400 f6)]) (w1 := [(h1, .inr (6, mX6 h2 h3 h4 h5 h6 h7 h8 h9 v1)), (h7, zi k7 400 f7)]) hP hD [1, 2] [0, 3, 4, 5, 6, 7] rfl rfl (by decide) (by decide) hk1 hFc hP1 hD1
  have hP : va_P (dC, dI) vwCl [(h0, .inr (8, mX8 h1 v0)), (h1, .inr (6, mX6 h2 h3 h4 h5 h6 h7 h8 h9 v1)), (h7, zi k7 400 f7), (h5, zi k5 400 f5), (h2, zi k2 1250 f2), (h3, zi k3 833 f3), (h4, zi k4 833 f4), (h6, zi k6 400 f6)] H1 := hP.sub [0, 6, 7, 1, 2, 3, 4, 5] rfl
  have hD : va_D A [(h0, .inr (8, mX8 h1 v0)), (h1, .inr (6, mX6 h2 h3 h4 h5 h6 h7 h8 h9 v1)), (h7, zi k7 400 f7), (h5, zi k5 400 f5), (h2, zi k2 1250 f2), (h3, zi k3 833 f3), (h4, zi k4 833 f4), (h6, zi k6 400 f6)] := hD.sub [0, 6, 7, 1, 2, 3, 4, 5] (by decide) rfl
  generalize H1 = H at hP hS ⊢
  clear hz1
  refine va_put (D := (dC, dI)) (ci := 8) (v := .int r6_) (ty := .int) (C := RX8) (T := TX8) (N := 9) hx hb hG zuX8 tyX8 tyX8_ok nmX8 hown hK hP hD hS 0 rfl rfl 1 (by decide) (hG _ zv292) (fun _ h9 => h9) rfl (by decide +kernel) rfl rfl (Nat.le_of_ble_eq_true rfl) dX8_open_9 (fun H locs hP hD hS => ?_)
  have hP : va_P (dC, dI) vwCl [(h0, .inr (8, mX8 h1 (upd v0 1 r6_))), (h1, .inr (6, mX6 h2 h3 h4 h5 h6 h7 h8 h9 v1)), (h7, zi k7 400 f7), (h5, zi k5 400 f5), (h2, zi k2 1250 f2), (h3, zi k3 833 f3), (h4, zi k4 833 f4), (h6, zi k6 400 f6)] H := hP
  have hD : va_D A [(h0, .inr (8, mX8 h1 (upd v0 1 r6_))), (h1, .inr (6, mX6 h2 h3 h4 h5 h6 h7 h8 h9 v1)), (h7, zi k7 400 f7), (h5, zi k5 400 f5), (h2, zi k2 1250 f2), (h3, zi k3 833 f3), (h4, zi k4 833 f4), (h6, zi k6 400 f6)] := hD
  refine lv_aload_n hx hb dX8_open_12 rfl (lv_at hl 0 rfl) ?_
  refine lv_aload_n hx hb dX8_open_13 rfl (lv_at hl 0 rfl) ?_
  refine va_get (D := (dC, dI)) (ci := 8) (v := .ref h1) (C := RX8) (T := TX8) (N := 9) hx hb hG zuX8 hown hK hP 0 rfl rfl 0 (by decide) (hG _ zv291) (fun _ h9 => h9) rfl dX8_open_14 ?_
  refine lv_iload_n hx hb dX8_open_17 rfl (lv_at hl 1 rfl) ?_
  have hPc := hP.sub (ws' := [(h1, .inr (6, mX6 h2 h3 h4 h5 h6 h7 h8 h9 v1)), (h7, zi k7 400 f7), (h5, zi k5 400 f5)]) [1, 2, 3] rfl
  have hDc := hD.sub (ws' := [(h1, .inr (6, mX6 h2 h3 h4 h5 h6 h7 h8 h9 v1)), (h7, zi k7 400 f7), (h5, zi k5 400 f5)]) [1, 2, 3] (by decide) rfl
  have hKc := hK.sub (tys' := [(k7, .int), (k5, .int)]) [0, 1] rfl
  have hFc := va_free (wc := [(h1, .inr (6, mX6 h2 h3 h4 h5 h6 h7 h8 h9 v1)), (h7, zi k7 400 f7), (h5, zi k5 400 f5)]) hD hS hA [1, 2, 3] rfl
  refine va_calli (va_runV (As := [.int x1]) (rest := [.ref h0]) ⟨hx, hb, hml, hown, hG⟩ (sX6_firstChunkOf_0 l dC dI adK adV h1 h7 h5 h2 h3 h4 h6 h8 h9 k7 k5 H.size v1 f7 f5 x1 hv1) (cwV 1 hG (zgV zv902 zv903 zv904 zv133 zv905) rfl rfl rfl (by decide +kernel) ⟨Nat.le_of_ble_eq_true rfl, Nat.le_of_ble_eq_true rfl⟩) ⟨zPc_blind, va_recv hKc hPc (ci := 6) (q0 := 0) rfl rfl, zPc_pre hPc hKc hDc hE hS hFc hZ⟩ rfl rfl hl.1 rfl (lv_room (Nat.le_of_ble_eq_true rfl)) dX8_open_18 ⟨Nat.le_of_ble_eq_true rfl, Nat.le_of_ble_eq_true rfl⟩) hS (fun q _ h => hFc q h) hFc (fun r18_ u18_ t H1 locs ht hvm hw hB hz1 hk1 hS => ?_)
  replace hw : (zW (0 ≤ x1.toInt → x1.toInt ≤ 399 → 0 < (f7 ((x1 : Int32)).toNatClampNeg).toInt → r18_.toInt = (f5 ((x1 : Int32)).toNatClampNeg).toInt)) := hw
  have hX18_0 := hw
  obtain ⟨w18_, a18_, b18_, hP1, hK1, hD1⟩ := hB
  rw [ht] at hP1
  obtain ⟨hP, hD⟩ := va_join (wr := [(h0, .inr (8, mX8 h1 (upd v0 1 r6_))), (h2, zi k2 1250 f2), (h3, zi k3 833 f3), (h4, zi k4 833 f4), (h6, zi k6 400 f6)]) (w1 := [(h1, .inr (6, mX6 h2 h3 h4 h5 h6 h7 h8 h9 v1)), (h7, zi k7 400 f7), (h5, zi k5 400 f5)]) hP hD [1, 2, 3] [0, 4, 5, 6, 7] rfl rfl (by decide) (by decide) hk1 hFc hP1 hD1
  have hP : va_P (dC, dI) vwCl [(h0, .inr (8, mX8 h1 (upd v0 1 r6_))), (h1, .inr (6, mX6 h2 h3 h4 h5 h6 h7 h8 h9 v1)), (h7, zi k7 400 f7), (h5, zi k5 400 f5), (h2, zi k2 1250 f2), (h3, zi k3 833 f3), (h4, zi k4 833 f4), (h6, zi k6 400 f6)] H1 := hP.sub [0, 5, 6, 7, 1, 2, 3, 4] rfl
  have hD : va_D A [(h0, .inr (8, mX8 h1 (upd v0 1 r6_))), (h1, .inr (6, mX6 h2 h3 h4 h5 h6 h7 h8 h9 v1)), (h7, zi k7 400 f7), (h5, zi k5 400 f5), (h2, zi k2 1250 f2), (h3, zi k3 833 f3), (h4, zi k4 833 f4), (h6, zi k6 400 f6)] := hD.sub [0, 5, 6, 7, 1, 2, 3, 4] (by decide) rfl
  generalize H1 = H at hP hS ⊢
  clear hz1
  refine va_put (D := (dC, dI)) (ci := 8) (v := .int r18_) (ty := .int) (C := RX8) (T := TX8) (N := 9) hx hb hG zuX8 tyX8 tyX8_ok nmX8 hown hK hP hD hS 0 rfl rfl 2 (by decide) (hG _ zv293) (fun _ h9 => h9) rfl (by decide +kernel) rfl rfl (Nat.le_of_ble_eq_true rfl) dX8_open_21 (fun H locs hP hD hS => ?_)
  have hP : va_P (dC, dI) vwCl [(h0, .inr (8, mX8 h1 (upd (upd v0 1 r6_) 2 r18_))), (h1, .inr (6, mX6 h2 h3 h4 h5 h6 h7 h8 h9 v1)), (h7, zi k7 400 f7), (h5, zi k5 400 f5), (h2, zi k2 1250 f2), (h3, zi k3 833 f3), (h4, zi k4 833 f4), (h6, zi k6 400 f6)] H := hP
  have hD : va_D A [(h0, .inr (8, mX8 h1 (upd (upd v0 1 r6_) 2 r18_))), (h1, .inr (6, mX6 h2 h3 h4 h5 h6 h7 h8 h9 v1)), (h7, zi k7 400 f7), (h5, zi k5 400 f5), (h2, zi k2 1250 f2), (h3, zi k3 833 f3), (h4, zi k4 833 f4), (h6, zi k6 400 f6)] := hD
  refine lv_aload_n hx hb dX8_open_24 rfl (lv_at hl 0 rfl) ?_
  refine lv_iconst (v := 0) hx hb dX8_open_25 (by decide) ?_
  refine va_put (D := (dC, dI)) (ci := 8) (v := .int 0) (ty := .int) (C := RX8) (T := TX8) (N := 9) hx hb hG zuX8 tyX8 tyX8_ok nmX8 hown hK hP hD hS 0 rfl rfl 3 (by decide) (hG _ zv294) (fun _ h9 => h9) rfl (by decide +kernel) rfl rfl (Nat.le_of_ble_eq_true rfl) dX8_open_26 (fun H locs hP hD hS => ?_)
  have hP : va_P (dC, dI) vwCl [(h0, .inr (8, mX8 h1 (upd (upd (upd v0 1 r6_) 2 r18_) 3 0))), (h1, .inr (6, mX6 h2 h3 h4 h5 h6 h7 h8 h9 v1)), (h7, zi k7 400 f7), (h5, zi k5 400 f5), (h2, zi k2 1250 f2), (h3, zi k3 833 f3), (h4, zi k4 833 f4), (h6, zi k6 400 f6)] H := hP
  have hD : va_D A [(h0, .inr (8, mX8 h1 (upd (upd (upd v0 1 r6_) 2 r18_) 3 0))), (h1, .inr (6, mX6 h2 h3 h4 h5 h6 h7 h8 h9 v1)), (h7, zi k7 400 f7), (h5, zi k5 400 f5), (h2, zi k2 1250 f2), (h3, zi k3 833 f3), (h4, zi k4 833 f4), (h6, zi k6 400 f6)] := hD
  refine lv_aload_n hx hb dX8_open_29 rfl (lv_at hl 0 rfl) ?_
  refine lv_iconst (v := 0) hx hb dX8_open_30 (by decide) ?_
  refine va_put (D := (dC, dI)) (ci := 8) (v := .int 0) (ty := .int) (C := RX8) (T := TX8) (N := 9) hx hb hG zuX8 tyX8 tyX8_ok nmX8 hown hK hP hD hS 0 rfl rfl 4 (by decide) (hG _ zv295) (fun _ h9 => h9) rfl (by decide +kernel) rfl rfl (Nat.le_of_ble_eq_true rfl) dX8_open_31 (fun H locs hP hD hS => ?_)
  have hP : va_P (dC, dI) vwCl [(h0, .inr (8, mX8 h1 (upd (upd (upd (upd v0 1 r6_) 2 r18_) 3 0) 4 0))), (h1, .inr (6, mX6 h2 h3 h4 h5 h6 h7 h8 h9 v1)), (h7, zi k7 400 f7), (h5, zi k5 400 f5), (h2, zi k2 1250 f2), (h3, zi k3 833 f3), (h4, zi k4 833 f4), (h6, zi k6 400 f6)] H := hP
  have hD : va_D A [(h0, .inr (8, mX8 h1 (upd (upd (upd (upd v0 1 r6_) 2 r18_) 3 0) 4 0))), (h1, .inr (6, mX6 h2 h3 h4 h5 h6 h7 h8 h9 v1)), (h7, zi k7 400 f7), (h5, zi k5 400 f5), (h2, zi k2 1250 f2), (h3, zi k3 833 f3), (h4, zi k4 833 f4), (h6, zi k6 400 f6)] := hD
  refine lv_aload_n hx hb dX8_open_34 rfl (lv_at hl 0 rfl) ?_
  refine lv_iconst (v := (-1)) hx hb dX8_open_35 (by decide) ?_
  refine va_put (D := (dC, dI)) (ci := 8) (v := .int (-1)) (ty := .int) (C := RX8) (T := TX8) (N := 9) hx hb hG zuX8 tyX8 tyX8_ok nmX8 hown hK hP hD hS 0 rfl rfl 5 (by decide) (hG _ zv296) (fun _ h9 => h9) rfl (by decide +kernel) rfl rfl (Nat.le_of_ble_eq_true rfl) dX8_open_36 (fun H locs hP hD hS => ?_)
  have hP : va_P (dC, dI) vwCl [(h0, .inr (8, mX8 h1 (upd (upd (upd (upd (upd v0 1 r6_) 2 r18_) 3 0) 4 0) 5 (-1)))), (h1, .inr (6, mX6 h2 h3 h4 h5 h6 h7 h8 h9 v1)), (h7, zi k7 400 f7), (h5, zi k5 400 f5), (h2, zi k2 1250 f2), (h3, zi k3 833 f3), (h4, zi k4 833 f4), (h6, zi k6 400 f6)] H := hP
  have hD : va_D A [(h0, .inr (8, mX8 h1 (upd (upd (upd (upd (upd v0 1 r6_) 2 r18_) 3 0) 4 0) 5 (-1)))), (h1, .inr (6, mX6 h2 h3 h4 h5 h6 h7 h8 h9 v1)), (h7, zi k7 400 f7), (h5, zi k5 400 f5), (h2, zi k2 1250 f2), (h3, zi k3 833 f3), (h4, zi k4 833 f4), (h6, zi k6 400 f6)] := hD
  refine lv_aload_n hx hb dX8_open_39 rfl (lv_at hl 0 rfl) ?_
  refine lv_iconst (v := 0) hx hb dX8_open_40 (by decide) ?_
  refine va_put (D := (dC, dI)) (ci := 8) (v := .int 0) (ty := .int) (C := RX8) (T := TX8) (N := 9) hx hb hG zuX8 tyX8 tyX8_ok nmX8 hown hK hP hD hS 0 rfl rfl 6 (by decide) (hG _ zv297) (fun _ h9 => h9) rfl (by decide +kernel) rfl rfl (Nat.le_of_ble_eq_true rfl) dX8_open_41 (fun H locs hP hD hS => ?_)
  have hP : va_P (dC, dI) vwCl [(h0, .inr (8, mX8 h1 (upd (upd (upd (upd (upd (upd v0 1 r6_) 2 r18_) 3 0) 4 0) 5 (-1)) 6 0))), (h1, .inr (6, mX6 h2 h3 h4 h5 h6 h7 h8 h9 v1)), (h7, zi k7 400 f7), (h5, zi k5 400 f5), (h2, zi k2 1250 f2), (h3, zi k3 833 f3), (h4, zi k4 833 f4), (h6, zi k6 400 f6)] H := hP
  have hD : va_D A [(h0, .inr (8, mX8 h1 (upd (upd (upd (upd (upd (upd v0 1 r6_) 2 r18_) 3 0) 4 0) 5 (-1)) 6 0))), (h1, .inr (6, mX6 h2 h3 h4 h5 h6 h7 h8 h9 v1)), (h7, zi k7 400 f7), (h5, zi k5 400 f5), (h2, zi k2 1250 f2), (h3, zi k3 833 f3), (h4, zi k4 833 f4), (h6, zi k6 400 f6)] := hD
  refine lv_aload_n hx hb dX8_open_44 rfl (lv_at hl 0 rfl) ?_
  refine lv_iconst (v := 0) hx hb dX8_open_45 (by decide) ?_
  refine va_put (D := (dC, dI)) (ci := 8) (v := .int 0) (ty := .int) (C := RX8) (T := TX8) (N := 9) hx hb hG zuX8 tyX8 tyX8_ok nmX8 hown hK hP hD hS 0 rfl rfl 7 (by decide) (hG _ zv298) (fun _ h9 => h9) rfl (by decide +kernel) rfl rfl (Nat.le_of_ble_eq_true rfl) dX8_open_46 (fun H locs hP hD hS => ?_)
  have hP : va_P (dC, dI) vwCl [(h0, .inr (8, mX8 h1 (upd (upd (upd (upd (upd (upd (upd v0 1 r6_) 2 r18_) 3 0) 4 0) 5 (-1)) 6 0) 7 0))), (h1, .inr (6, mX6 h2 h3 h4 h5 h6 h7 h8 h9 v1)), (h7, zi k7 400 f7), (h5, zi k5 400 f5), (h2, zi k2 1250 f2), (h3, zi k3 833 f3), (h4, zi k4 833 f4), (h6, zi k6 400 f6)] H := hP
  have hD : va_D A [(h0, .inr (8, mX8 h1 (upd (upd (upd (upd (upd (upd (upd v0 1 r6_) 2 r18_) 3 0) 4 0) 5 (-1)) 6 0) 7 0))), (h1, .inr (6, mX6 h2 h3 h4 h5 h6 h7 h8 h9 v1)), (h7, zi k7 400 f7), (h5, zi k5 400 f5), (h2, zi k2 1250 f2), (h3, zi k3 833 f3), (h4, zi k4 833 f4), (h6, zi k6 400 f6)] := hD
  refine W.widen (k := 0) (n := 0) (by decide) (by decide) ?_
  have b_ : -2147483648 ≤ r6_.toInt ∧ r6_.toInt ≤ 2147483647 := ⟨zlo _, zhi _⟩
  have b_ : -2147483648 ≤ r18_.toInt ∧ r18_.toInt ≤ 2147483647 := ⟨zlo _, zhi _⟩
  have hpost : (0 ≤ (0 : Int32).toInt ∧ (0 : Int32).toInt ≤ 0) ∧ (0 ≤ (0 : Int32).toInt ∧ (0 : Int32).toInt ≤ 0) ∧ ((-1) ≤ ((-1) : Int32).toInt ∧ ((-1) : Int32).toInt ≤ (-1)) ∧ (0 ≤ (0 : Int32).toInt ∧ (0 : Int32).toInt ≤ 0) ∧ (0 ≤ (0 : Int32).toInt ∧ (0 : Int32).toInt ≤ 0) ∧ (((-1) : Int32).toInt = -1) ∧ ((0 : Int32).toInt = 0) ∧ ((0 : Int32).toInt = 0) ∧ (zW (0 ≤ x1.toInt → x1.toInt ≤ 399 → ∀ B : Nat → List Bool, zPB f2 f3 f4 f5 f6 f7 (v1 8).toInt (v1 9).toInt (v1 10).toInt (v1 11).toInt B → zRr f5 f4 B r6_.toInt r18_.toInt (0 : Int32).toInt (0 : Int32).toInt (B ((x1 : Int32)).toNatClampNeg))) := ⟨(by first | with_reducible assumption | exact ⟨by omega, by omega⟩), (by first | with_reducible assumption | exact ⟨by omega, by omega⟩), (by first | with_reducible assumption | exact ⟨by omega, by omega⟩), (by first | with_reducible assumption | exact ⟨by omega, by omega⟩), (by first | with_reducible assumption | exact ⟨by omega, by omega⟩), by omega, by omega, by omega, by exact fun q1 q2 B hP => zRd_o (by have q : (x1 : Int32).toNatClampNeg = x1.toInt.toNat := rfl; omega) (hX6_0 q1 q2) (hX18_0 q1 q2) (by decide) (by decide) hP⟩
  have hP9 : va_P (dC, dI) vwCl [(h0, .inr (8, mX8 h1 (upd (upd (upd (upd (upd (upd (upd v0 1 r6_) 2 r18_) 3 0) 4 0) 5 (-1)) 6 0) 7 0))), (h1, .inr (6, mX6 h2 h3 h4 h5 h6 h7 h8 h9 v1)), (h7, zi k7 400 f7), (h5, zi k5 400 f5), (h2, zi k2 1250 f2), (h3, zi k3 833 f3), (h4, zi k4 833 f4), (h6, zi k6 400 f6)] H := hP
  have hD9 : va_D A [(h0, .inr (8, mX8 h1 (upd (upd (upd (upd (upd (upd (upd v0 1 r6_) 2 r18_) 3 0) 4 0) 5 (-1)) 6 0) 7 0))), (h1, .inr (6, mX6 h2 h3 h4 h5 h6 h7 h8 h9 v1)), (h7, zi k7 400 f7), (h5, zi k5 400 f5), (h2, zi k2 1250 f2), (h3, zi k3 833 f3), (h4, zi k4 833 f4), (h6, zi k6 400 f6)] := hD
  exact W.vret hx hb hr (fun t ht hW => ⟨⟨(fun i => ([r6_, r18_, 0, 0, (-1), 0, 0] : List (Int32)).getD i 0), rfl, hpost, (fun _ => 0), (fun _ => (fun _ => 0)), (fun _ => (fun _ => 0)), by rw [ht]; exact hP9, va_K.moved hW.alike hK, hD9⟩, hS.F ht⟩) hS.2.2 dX8_open_49
set_option maxHeartbeats 8000000 in
set_option maxRecDepth 100000 in
theorem sX3_want_0 (l : Launch) (dC : Nat → ClassId) (dI : Nat → Nat → Nat) (adK adV : Nat → Nat) (h0 : Nat) (h1 : Nat) (h27 : Nat) (h25 : Nat) (h3 : Nat) (h8 : Nat) (h14 : Nat) (h12 : Nat) (h9 : Nat) (h10 : Nat) (h11 : Nat) (h13 : Nat) (h26 : Nat) (h2 : Nat) (h4 : Nat) (h15 : Nat) (h16 : Nat) (h17 : Nat) (h28 : Nat) (h29 : Nat) (h5 : Nat) (h6 : Nat) (h7 : Nat) (k27 : ClassId) (k25 : ClassId) (k3 : ClassId) (k14 : ClassId) (k12 : ClassId) (k9 : ClassId) (k10 : ClassId) (k11 : ClassId) (k13 : ClassId) (k26 : ClassId) (k2 : ClassId) (k4 : ClassId) (k15 : ClassId) (k16 : ClassId) (pl0 : va_W) (sz : Nat) (v0 : Nat → Int32) (v1 : Nat → Int32) (f27 : Nat → Int32) (f25 : Nat → Option Nat) (f3 : Nat → Int32) (v8 : Nat → Int32) (f14 : Nat → Int32) (f12 : Nat → Int32) (f9 : Nat → Int32) (f10 : Nat → Int32) (f11 : Nat → Int32) (f13 : Nat → Int32) (f26 : Nat → Int32) (f2 : Nat → Int64) (f4 : Nat → Int32) (f15 : Nat → Int32) (f16 : Nat → Int32) (x1 : Int32) (hv0 : zR rg_Page v0) (hv1 : zR rg_Words400 v1) (hf3 : zA 0 399 f3) (hv8 : zR rg_Postings v8) (hf10 : zA 0 1250 f10) (hf13 : zA 0 832 f13) (hf26 : zA 0 399 f26) (hf4 : zA (-1) 399 f4) (hp0_ : zRd h8 f25 pl0) (hp1_ : x1.toInt < 0 ∨ (v1 7).toInt ≤ x1.toInt ∨ (f27 ((x1 : Int32)).toNatClampNeg).toInt ≠ 0 ∨ 400 ≤ (v0 8).toInt ∨ f25 (((v0 8) : Int32)).toNatClampNeg ≠ none) : Met l yX3_want (zw yX3_want cX3_want 2 none) { frames := 3, cells := 0, slots := 0, locals := 62 } (zPc dC dI adK adV [.ref h0, .int x1] sz ([(h0, .inr (3, mX3 h1 h8 h17 h25 h26 h27 h28 h29 v0)), (h1, .inr (10, mX10 h2 h3 h4 h5 h6 h7 v1)), (h27, zi k27 400 f27), (h25, .inl (k25, 400, .inr (.inr (.inr (.inr f25))))), (h3, zi k3 400 f3), (h8, .inr (6, mX6 h9 h10 h11 h12 h13 h14 h15 h16 v8)), (h14, zi k14 400 f14), (h12, zi k12 400 f12), (h9, zi k9 1250 f9), (h10, zi k10 833 f10), (h11, zi k11 833 f11), (h13, zi k13 400 f13), (h26, zi k26 400 f26), (h2, .inl (k2, 400, .inr (.inl f2))), (h4, zi k4 400 f4), (h15, zi k15 400 f15), (h16, zi k16 400 f16)] ++ pl0) [(k27, .boolean), (k25, .object RX8), (k3, .int), (k14, .int), (k12, .int), (k9, .int), (k10, .int), (k11, .int), (k13, .int), (k26, .int), (k2, .long), (k4, .int), (k15, .int), (k16, .int)]) (va_Qv (fun (u : Nat → Int32) => (0 ≤ (u 0).toInt ∧ (u 0).toInt ≤ 400) ∧ ((v0 8).toInt ≤ (u 0).toInt) ∧ ((u 0).toInt ≤ (v0 8).toInt + 1)) (fun (u : Nat → Int32) (t : State) => ∃ (ww : Nat → Int64) (aa : Nat → Nat → Int32) (bb : Nat → Nat → Int64) (qq : Nat → Nat → Option Nat) (pl1 : va_W), zA 0 399 (aa 1) ∧ (zRd h8 f25 pl1) ∧ (zKp h8 pl0 pl1) ∧ (zWtc h8 f25 pl0 f2 f3 f4 (v1 7).toInt f9 f10 f11 f12 f13 f14 (v8 8).toInt (v8 9).toInt (v8 10).toInt (v8 11).toInt f15 f16 f26 f27 (v0 8).toInt f25 pl1 (aa 1) (aa 0) (u 0).toInt x1.toInt) ∧ va_P (dC, dI) vwCl ([(h0, .inr (3, mX3 h1 h8 h17 h25 h26 h27 h28 h29 (upd v0 8 (u 0)))), (h1, .inr (10, mX10 h2 h3 h4 h5 h6 h7 v1)), (h27, zi k27 400 (aa 0)), (h25, .inl (k25, 400, .inr (.inr (.inr (.inr f25))))), (h3, zi k3 400 f3), (h8, .inr (6, mX6 h9 h10 h11 h12 h13 h14 h15 h16 v8)), (h14, zi k14 400 f14), (h12, zi k12 400 f12), (h9, zi k9 1250 f9), (h10, zi k10 833 f10), (h11, zi k11 833 f11), (h13, zi k13 400 f13), (h26, zi k26 400 (aa 1)), (h2, .inl (k2, 400, .inr (.inl f2))), (h4, zi k4 400 f4), (h15, zi k15 400 f15), (h16, zi k16 400 f16)] ++ pl1) t.heap ∧ va_K (dC, dI) vwCl [(k27, .boolean), (k25, .object RX8), (k3, .int), (k14, .int), (k12, .int), (k9, .int), (k10, .int), (k11, .int), (k13, .int), (k26, .int), (k2, .long), (k4, .int), (k15, .int), (k16, .int)] t ∧ va_D (va_A ([(h0, .inr (3, mX3 h1 h8 h17 h25 h26 h27 h28 h29 v0)), (h1, .inr (10, mX10 h2 h3 h4 h5 h6 h7 v1)), (h27, zi k27 400 f27), (h25, .inl (k25, 400, .inr (.inr (.inr (.inr f25))))), (h3, zi k3 400 f3), (h8, .inr (6, mX6 h9 h10 h11 h12 h13 h14 h15 h16 v8)), (h14, zi k14 400 f14), (h12, zi k12 400 f12), (h9, zi k9 1250 f9), (h10, zi k10 833 f10), (h11, zi k11 833 f11), (h13, zi k13 400 f13), (h26, zi k26 400 f26), (h2, .inl (k2, 400, .inr (.inl f2))), (h4, zi k4 400 f4), (h15, zi k15 400 f15), (h16, zi k16 400 f16)] ++ pl0) sz) ([(h0, .inr (3, mX3 h1 h8 h17 h25 h26 h27 h28 h29 (upd v0 8 (u 0)))), (h1, .inr (10, mX10 h2 h3 h4 h5 h6 h7 v1)), (h27, zi k27 400 (aa 0)), (h25, .inl (k25, 400, .inr (.inr (.inr (.inr f25))))), (h3, zi k3 400 f3), (h8, .inr (6, mX6 h9 h10 h11 h12 h13 h14 h15 h16 v8)), (h14, zi k14 400 f14), (h12, zi k12 400 f12), (h9, zi k9 1250 f9), (h10, zi k10 833 f10), (h11, zi k11 833 f11), (h13, zi k13 400 f13), (h26, zi k26 400 (aa 1)), (h2, .inl (k2, 400, .inr (.inl f2))), (h4, zi k4 400 f4), (h15, zi k15 400 f15), (h16, zi k16 400 f16)] ++ pl1)) (va_A ([(h0, .inr (3, mX3 h1 h8 h17 h25 h26 h27 h28 h29 v0)), (h1, .inr (10, mX10 h2 h3 h4 h5 h6 h7 v1)), (h27, zi k27 400 f27), (h25, .inl (k25, 400, .inr (.inr (.inr (.inr f25))))), (h3, zi k3 400 f3), (h8, .inr (6, mX6 h9 h10 h11 h12 h13 h14 h15 h16 v8)), (h14, zi k14 400 f14), (h12, zi k12 400 f12), (h9, zi k9 1250 f9), (h10, zi k10 833 f10), (h11, zi k11 833 f11), (h13, zi k13 400 f13), (h26, zi k26 400 f26), (h2, .inl (k2, 400, .inr (.inl f2))), (h4, zi k4 400 f4), (h15, zi k15 400 f15), (h16, zi k16 400 f16)] ++ pl0) sz)) 0 0 (va_A ([(h0, .inr (3, mX3 h1 h8 h17 h25 h26 h27 h28 h29 v0)), (h1, .inr (10, mX10 h2 h3 h4 h5 h6 h7 v1)), (h27, zi k27 400 f27), (h25, .inl (k25, 400, .inr (.inr (.inr (.inr f25))))), (h3, zi k3 400 f3), (h8, .inr (6, mX6 h9 h10 h11 h12 h13 h14 h15 h16 v8)), (h14, zi k14 400 f14), (h12, zi k12 400 f12), (h9, zi k9 1250 f9), (h10, zi k10 833 f10), (h11, zi k11 833 f11), (h13, zi k13 400 f13), (h26, zi k26 400 f26), (h2, .inl (k2, 400, .inr (.inl f2))), (h4, zi k4 400 f4), (h15, zi k15 400 f15), (h16, zi k16 400 f16)] ++ pl0) sz) := by
  refine Met.ofW (cc := cX3_want) (maxL := 2) (ret := none) (by decide) rfl ?_
  intro p e s m args below meth c s₁ B hml hv
  obtain ⟨rfl, hsz, hP, hK, hD0, hE, hZ⟩ := hv
  have hx := B.exec
  have hb := B.bytes
  have hr := B.returns
  have hG : ∀ w ∈ zG, w.before _ s = true := fun w h => atoms_spec (ws := (zw yX3_want cX3_want 2 none)) B.pre w (List.mem_cons_of_mem _ h)
  have hown : s.vm.findClass RX3 = some m.cls := findClass_of_methodNamed B.named
  have hlocks := B.notSynchronized

  subst hsz
  have hD := hD0.self (sz := s.heap.size)
  generalize hAe : va_A ([(h0, .inr (3, mX3 h1 h8 h17 h25 h26 h27 h28 h29 v0)), (h1, .inr (10, mX10 h2 h3 h4 h5 h6 h7 v1)), (h27, zi k27 400 f27), (h25, .inl (k25, 400, .inr (.inr (.inr (.inr f25))))), (h3, zi k3 400 f3), (h8, .inr (6, mX6 h9 h10 h11 h12 h13 h14 h15 h16 v8)), (h14, zi k14 400 f14), (h12, zi k12 400 f12), (h9, zi k9 1250 f9), (h10, zi k10 833 f10), (h11, zi k11 833 f11), (h13, zi k13 400 f13), (h26, zi k26 400 f26), (h2, .inl (k2, 400, .inr (.inl f2))), (h4, zi k4 400 f4), (h15, zi k15 400 f15), (h16, zi k16 400 f16)] ++ pl0) s.heap.size = A at hD hZ ⊢
  have hA : ∀ q : Nat, s.heap.size ≤ q → A q := fun q h => by rw [← hAe]; exact Or.inr h
  have hS : va_S A s.heap s.heap [] := va_S.rf
  have hl := lv_entry ([.ref h0, .int x1]) (n := 2) (Nat.le_of_ble_eq_true rfl)
  rw [lg_entry_eq]
  generalize (lg_sl ([.ref h0, .int x1]) ++ List.replicate (2 - (lg_sl ([.ref h0, .int x1])).length) Slot.unset).toArray = ls at hl ⊢
  have hl : lv_has ls 2 [(0, .ref h0), (1, .int x1)] := hl
  have b_ : 0 ≤ (v1 7).toInt ∧ (v1 7).toInt ≤ 400 := hv1 7
  have b_ : 0 ≤ (v0 8).toInt ∧ (v0 8).toInt ≤ 400 := hv0 8
  refine lv_iload_n hx hb dX3_want_0 rfl (lv_at hl 1 rfl) ?_
  have b_ : -2147483648 ≤ x1.toInt ∧ x1.toInt ≤ 2147483647 := ⟨zlo _, zhi _⟩
  refine lv_if_lt (tgt := 34) hx hb dX3_want_1 (by decide) (fun c_ => ?_) (fun c_ => ?_)
  · skip
    have b_ := zT_lt rfl zk_0 c_
    refine W.widen (k := 0) (n := 0) (by decide) (by decide) ?_
    have hpost : (0 ≤ (v0 8).toInt ∧ (v0 8).toInt ≤ 400) ∧ ((v0 8).toInt ≤ (v0 8).toInt) ∧ ((v0 8).toInt ≤ (v0 8).toInt + 1) := ⟨(by first | with_reducible assumption | exact ⟨by omega, by omega⟩), by omega, by omega⟩
    have hP9 : va_P (dC, dI) vwCl ([(h0, .inr (3, mX3 h1 h8 h17 h25 h26 h27 h28 h29 (upd v0 8 (v0 8)))), (h1, .inr (10, mX10 h2 h3 h4 h5 h6 h7 v1)), (h27, zi k27 400 f27), (h25, .inl (k25, 400, .inr (.inr (.inr (.inr f25))))), (h3, zi k3 400 f3), (h8, .inr (6, mX6 h9 h10 h11 h12 h13 h14 h15 h16 v8)), (h14, zi k14 400 f14), (h12, zi k12 400 f12), (h9, zi k9 1250 f9), (h10, zi k10 833 f10), (h11, zi k11 833 f11), (h13, zi k13 400 f13), (h26, zi k26 400 f26), (h2, .inl (k2, 400, .inr (.inl f2))), (h4, zi k4 400 f4), (h15, zi k15 400 f15), (h16, zi k16 400 f16)] ++ pl0) s.heap := hP
    have hD9 : va_D A ([(h0, .inr (3, mX3 h1 h8 h17 h25 h26 h27 h28 h29 (upd v0 8 (v0 8)))), (h1, .inr (10, mX10 h2 h3 h4 h5 h6 h7 v1)), (h27, zi k27 400 f27), (h25, .inl (k25, 400, .inr (.inr (.inr (.inr f25))))), (h3, zi k3 400 f3), (h8, .inr (6, mX6 h9 h10 h11 h12 h13 h14 h15 h16 v8)), (h14, zi k14 400 f14), (h12, zi k12 400 f12), (h9, zi k9 1250 f9), (h10, zi k10 833 f10), (h11, zi k11 833 f11), (h13, zi k13 400 f13), (h26, zi k26 400 f26), (h2, .inl (k2, 400, .inr (.inl f2))), (h4, zi k4 400 f4), (h15, zi k15 400 f15), (h16, zi k16 400 f16)] ++ pl0) := hD
    have hB0 : zRd h8 f25 pl0 := by assumption
    have hB1 : zKp h8 pl0 pl0 := by first | assumption | exact zKp_rf
    have hB2 : zWtc h8 f25 pl0 f2 f3 f4 (v1 7).toInt f9 f10 f11 f12 f13 f14 (v8 8).toInt (v8 9).toInt (v8 10).toInt (v8 11).toInt f15 f16 f26 f27 (v0 8).toInt f25 pl0 f26 f27 (v0 8).toInt x1.toInt := by first | exact zWt_n (by omega) | exact zWt_y hI74_1 e_o82.symm e_pl82 e_plx_ e_f_41 (by decide) e_f_103 (by omega) (by omega) (by omega) (by omega) (by omega) (by omega) hX88_0 hX91_3 hX91_0 hX91_2 rfl rfl rfl rfl rfl rfl
    exact W.vret hx hb hr (fun t ht hW => ⟨⟨(fun i => ([(v0 8)] : List (Int32)).getD i 0), rfl, hpost, (fun _ => 0), (fun i => ([f27, f26] : List (Nat → Int32)).getD i (fun _ => 0)), (fun _ => (fun _ => 0)), (fun _ => (fun _ => none)), pl0, hf26, hB0, hB1, hB2, by rw [ht]; exact hP9, va_K.moved hW.alike hK, hD9⟩, hS.F ht⟩) hS.2.2 dX3_want_34
  · skip
    have b_ := zF_lt rfl zk_0 c_
    refine lv_iload_n hx hb dX3_want_4 rfl (lv_at hl 1 rfl) ?_
    refine lv_aload_n hx hb dX3_want_5 rfl (lv_at hl 0 rfl) ?_
    refine va_get (D := (dC, dI)) (ci := 3) (v := .ref h1) (C := RX3) (T := TX3) (N := 10) hx hb hG zuX3 hown hK hP 0 rfl rfl 0 (by decide) (hG _ zv473) (fun _ h9 => h9) rfl dX3_want_6 ?_
    have hPc := hP.sub (ws' := [(h1, .inr (10, mX10 h2 h3 h4 h5 h6 h7 v1))]) [1] rfl
    have hDc := hD.sub (ws' := [(h1, .inr (10, mX10 h2 h3 h4 h5 h6 h7 v1))]) [1] (by decide) rfl
    have hKc := hK.sub (tys' := []) [] rfl
    have hFc := va_free (wc := [(h1, .inr (10, mX10 h2 h3 h4 h5 h6 h7 v1))]) hD hS hA [1] rfl
    refine va_calli (va_runV (As := []) (rest := [.int x1]) ⟨hx, hb, hml, hown, hG⟩ (sX10_size_0 l dC dI adK adV h1 h2 h3 h4 h5 h6 h7 s.heap.size v1 hv1) (cwV 0 hG (zgV zv1207 zv627 zv628 zv131 zv629) rfl rfl rfl (by decide +kernel) ⟨Nat.le_of_ble_eq_true rfl, Nat.le_of_ble_eq_true rfl⟩) ⟨zPc_blind, va_recv hKc hPc (ci := 10) (q0 := 0) rfl rfl, zPc_pre hPc hKc hDc hE hS hFc hZ⟩ rfl rfl hl.1 rfl (lv_room (Nat.le_of_ble_eq_true rfl)) dX3_want_9 ⟨Nat.le_of_ble_eq_true rfl, Nat.le_of_ble_eq_true rfl⟩) hS (fun q _ h => hFc q h) hFc (fun r9_ u9_ t H1 locs ht hvm hw hB hz1 hk1 hS => ?_)
    replace hw : (0 ≤ r9_.toInt ∧ r9_.toInt ≤ 400) ∧ (r9_.toInt = (v1 7).toInt) ∧ (r9_.toInt = (v1 7).toInt) := hw
    obtain ⟨b_, hX9_0, hX9_1⟩ := hw
    obtain ⟨w9_, a9_, b9_, hP1, hK1, hD1⟩ := hB
    rw [ht] at hP1
    obtain ⟨hP, hD⟩ := va_joinQ (wr := [(h0, .inr (3, mX3 h1 h8 h17 h25 h26 h27 h28 h29 v0)), (h27, zi k27 400 f27), (h25, .inl (k25, 400, .inr (.inr (.inr (.inr f25))))), (h3, zi k3 400 f3), (h8, .inr (6, mX6 h9 h10 h11 h12 h13 h14 h15 h16 v8)), (h14, zi k14 400 f14), (h12, zi k12 400 f12), (h9, zi k9 1250 f9), (h10, zi k10 833 f10), (h11, zi k11 833 f11), (h13, zi k13 400 f13), (h26, zi k26 400 f26), (h2, .inl (k2, 400, .inr (.inl f2))), (h4, zi k4 400 f4), (h15, zi k15 400 f15), (h16, zi k16 400 f16)]) (w1 := [(h1, .inr (10, mX10 h2 h3 h4 h5 h6 h7 v1))]) hP hD [1] [0, 2, 3, 4, 5, 6, 7, 8, 9, 10, 11, 12, 13, 14, 15, 16] rfl rfl (by decide) (by decide) hk1 hFc hP1 hD1
    have hP : va_P (dC, dI) vwCl ([(h0, .inr (3, mX3 h1 h8 h17 h25 h26 h27 h28 h29 v0)), (h1, .inr (10, mX10 h2 h3 h4 h5 h6 h7 v1)), (h27, zi k27 400 f27), (h25, .inl (k25, 400, .inr (.inr (.inr (.inr f25))))), (h3, zi k3 400 f3), (h8, .inr (6, mX6 h9 h10 h11 h12 h13 h14 h15 h16 v8)), (h14, zi k14 400 f14), (h12, zi k12 400 f12), (h9, zi k9 1250 f9), (h10, zi k10 833 f10), (h11, zi k11 833 f11), (h13, zi k13 400 f13), (h26, zi k26 400 f26), (h2, .inl (k2, 400, .inr (.inl f2))), (h4, zi k4 400 f4), (h15, zi k15 400 f15), (h16, zi k16 400 f16)] ++ pl0) H1 := hP.part [0, 16, 1, 2, 3, 4, 5, 6, 7, 8, 9, 10, 11, 12, 13, 14, 15] rfl
    have hD : va_D A ([(h0, .inr (3, mX3 h1 h8 h17 h25 h26 h27 h28 h29 v0)), (h1, .inr (10, mX10 h2 h3 h4 h5 h6 h7 v1)), (h27, zi k27 400 f27), (h25, .inl (k25, 400, .inr (.inr (.inr (.inr f25))))), (h3, zi k3 400 f3), (h8, .inr (6, mX6 h9 h10 h11 h12 h13 h14 h15 h16 v8)), (h14, zi k14 400 f14), (h12, zi k12 400 f12), (h9, zi k9 1250 f9), (h10, zi k10 833 f10), (h11, zi k11 833 f11), (h13, zi k13 400 f13), (h26, zi k26 400 f26), (h2, .inl (k2, 400, .inr (.inl f2))), (h4, zi k4 400 f4), (h15, zi k15 400 f15), (h16, zi k16 400 f16)] ++ pl0) := hD.part [0, 16, 1, 2, 3, 4, 5, 6, 7, 8, 9, 10, 11, 12, 13, 14, 15] (by decide) rfl
    generalize H1 = H at hP hS ⊢
    clear hz1
    refine lv_icmp_ge (tgt := 34) hx hb dX3_want_12 (by decide) (fun c_ => ?_) (fun c_ => ?_)
    · skip
      have b_ := zT_ge rfl rfl c_
      refine W.widen (k := 0) (n := 0) (by decide) (by decide) ?_
      have hpost : (0 ≤ (v0 8).toInt ∧ (v0 8).toInt ≤ 400) ∧ ((v0 8).toInt ≤ (v0 8).toInt) ∧ ((v0 8).toInt ≤ (v0 8).toInt + 1) := ⟨(by first | with_reducible assumption | exact ⟨by omega, by omega⟩), by omega, by omega⟩
      have hP9 : va_P (dC, dI) vwCl ([(h0, .inr (3, mX3 h1 h8 h17 h25 h26 h27 h28 h29 (upd v0 8 (v0 8)))), (h1, .inr (10, mX10 h2 h3 h4 h5 h6 h7 v1)), (h27, zi k27 400 f27), (h25, .inl (k25, 400, .inr (.inr (.inr (.inr f25))))), (h3, zi k3 400 f3), (h8, .inr (6, mX6 h9 h10 h11 h12 h13 h14 h15 h16 v8)), (h14, zi k14 400 f14), (h12, zi k12 400 f12), (h9, zi k9 1250 f9), (h10, zi k10 833 f10), (h11, zi k11 833 f11), (h13, zi k13 400 f13), (h26, zi k26 400 f26), (h2, .inl (k2, 400, .inr (.inl f2))), (h4, zi k4 400 f4), (h15, zi k15 400 f15), (h16, zi k16 400 f16)] ++ pl0) H := hP
      have hD9 : va_D A ([(h0, .inr (3, mX3 h1 h8 h17 h25 h26 h27 h28 h29 (upd v0 8 (v0 8)))), (h1, .inr (10, mX10 h2 h3 h4 h5 h6 h7 v1)), (h27, zi k27 400 f27), (h25, .inl (k25, 400, .inr (.inr (.inr (.inr f25))))), (h3, zi k3 400 f3), (h8, .inr (6, mX6 h9 h10 h11 h12 h13 h14 h15 h16 v8)), (h14, zi k14 400 f14), (h12, zi k12 400 f12), (h9, zi k9 1250 f9), (h10, zi k10 833 f10), (h11, zi k11 833 f11), (h13, zi k13 400 f13), (h26, zi k26 400 f26), (h2, .inl (k2, 400, .inr (.inl f2))), (h4, zi k4 400 f4), (h15, zi k15 400 f15), (h16, zi k16 400 f16)] ++ pl0) := hD
      have hB0 : zRd h8 f25 pl0 := by assumption
      have hB1 : zKp h8 pl0 pl0 := by first | assumption | exact zKp_rf
      have hB2 : zWtc h8 f25 pl0 f2 f3 f4 (v1 7).toInt f9 f10 f11 f12 f13 f14 (v8 8).toInt (v8 9).toInt (v8 10).toInt (v8 11).toInt f15 f16 f26 f27 (v0 8).toInt f25 pl0 f26 f27 (v0 8).toInt x1.toInt := by first | exact zWt_n (by omega) | exact zWt_y hI74_1 e_o82.symm e_pl82 e_plx_ e_f_41 (by decide) e_f_103 (by omega) (by omega) (by omega) (by omega) (by omega) (by omega) hX88_0 hX91_3 hX91_0 hX91_2 rfl rfl rfl rfl rfl rfl
      exact W.vret hx hb hr (fun t ht hW => ⟨⟨(fun i => ([(v0 8)] : List (Int32)).getD i 0), rfl, hpost, (fun _ => 0), (fun i => ([f27, f26] : List (Nat → Int32)).getD i (fun _ => 0)), (fun _ => (fun _ => 0)), (fun _ => (fun _ => none)), pl0, hf26, hB0, hB1, hB2, by rw [ht]; exact hP9, va_K.moved hW.alike hK, hD9⟩, hS.F ht⟩) hS.2.2 dX3_want_34
    · skip
      have b_ := zF_ge rfl rfl c_
      refine lv_aload_n hx hb dX3_want_15 rfl (lv_at hl 0 rfl) ?_
      refine va_get (D := (dC, dI)) (ci := 3) (v := .ref h27) (C := RX3) (T := TX3) (N := 10) hx hb hG zuX3 hown hK hP 0 rfl rfl 5 (by decide) (hG _ zv478) (fun _ h9 => h9) rfl dX3_want_16 ?_
      refine lv_iload_n hx hb dX3_want_19 rfl (lv_at hl 1 rfl) ?_
      refine va_zald hx hb hK hP 2 0 rfl rfl (zin_lit ⟨by omega, by omega⟩) dX3_want_20 ?_
      refine lv_topi (fun z20 e_z20 => ?_)
      have b_ : (f27 (x1 : Int32).toNatClampNeg).toInt = z20.toInt := congrArg Int32.toInt e_z20.symm
      have b_ : -2147483648 ≤ z20.toInt ∧ z20.toInt ≤ 2147483647 := ⟨zlo _, zhi _⟩
      refine lv_if_ne (tgt := 34) hx hb dX3_want_21 (by decide) (fun c_ => ?_) (fun c_ => ?_)
      · skip
        have b_ := zT_ne rfl zk_0 c_
        refine W.widen (k := 0) (n := 0) (by decide) (by decide) ?_
        have hpost : (0 ≤ (v0 8).toInt ∧ (v0 8).toInt ≤ 400) ∧ ((v0 8).toInt ≤ (v0 8).toInt) ∧ ((v0 8).toInt ≤ (v0 8).toInt + 1) := ⟨(by first | with_reducible assumption | exact ⟨by omega, by omega⟩), by omega, by omega⟩
        have hP9 : va_P (dC, dI) vwCl ([(h0, .inr (3, mX3 h1 h8 h17 h25 h26 h27 h28 h29 (upd v0 8 (v0 8)))), (h1, .inr (10, mX10 h2 h3 h4 h5 h6 h7 v1)), (h27, zi k27 400 f27), (h25, .inl (k25, 400, .inr (.inr (.inr (.inr f25))))), (h3, zi k3 400 f3), (h8, .inr (6, mX6 h9 h10 h11 h12 h13 h14 h15 h16 v8)), (h14, zi k14 400 f14), (h12, zi k12 400 f12), (h9, zi k9 1250 f9), (h10, zi k10 833 f10), (h11, zi k11 833 f11), (h13, zi k13 400 f13), (h26, zi k26 400 f26), (h2, .inl (k2, 400, .inr (.inl f2))), (h4, zi k4 400 f4), (h15, zi k15 400 f15), (h16, zi k16 400 f16)] ++ pl0) H := hP
        have hD9 : va_D A ([(h0, .inr (3, mX3 h1 h8 h17 h25 h26 h27 h28 h29 (upd v0 8 (v0 8)))), (h1, .inr (10, mX10 h2 h3 h4 h5 h6 h7 v1)), (h27, zi k27 400 f27), (h25, .inl (k25, 400, .inr (.inr (.inr (.inr f25))))), (h3, zi k3 400 f3), (h8, .inr (6, mX6 h9 h10 h11 h12 h13 h14 h15 h16 v8)), (h14, zi k14 400 f14), (h12, zi k12 400 f12), (h9, zi k9 1250 f9), (h10, zi k10 833 f10), (h11, zi k11 833 f11), (h13, zi k13 400 f13), (h26, zi k26 400 f26), (h2, .inl (k2, 400, .inr (.inl f2))), (h4, zi k4 400 f4), (h15, zi k15 400 f15), (h16, zi k16 400 f16)] ++ pl0) := hD
        have hB0 : zRd h8 f25 pl0 := by assumption
        have hB1 : zKp h8 pl0 pl0 := by first | assumption | exact zKp_rf
        have hB2 : zWtc h8 f25 pl0 f2 f3 f4 (v1 7).toInt f9 f10 f11 f12 f13 f14 (v8 8).toInt (v8 9).toInt (v8 10).toInt (v8 11).toInt f15 f16 f26 f27 (v0 8).toInt f25 pl0 f26 f27 (v0 8).toInt x1.toInt := by first | exact zWt_n (by omega) | exact zWt_y hI74_1 e_o82.symm e_pl82 e_plx_ e_f_41 (by decide) e_f_103 (by omega) (by omega) (by omega) (by omega) (by omega) (by omega) hX88_0 hX91_3 hX91_0 hX91_2 rfl rfl rfl rfl rfl rfl
        exact W.vret hx hb hr (fun t ht hW => ⟨⟨(fun i => ([(v0 8)] : List (Int32)).getD i 0), rfl, hpost, (fun _ => 0), (fun i => ([f27, f26] : List (Nat → Int32)).getD i (fun _ => 0)), (fun _ => (fun _ => 0)), (fun _ => (fun _ => none)), pl0, hf26, hB0, hB1, hB2, by rw [ht]; exact hP9, va_K.moved hW.alike hK, hD9⟩, hS.F ht⟩) hS.2.2 dX3_want_34
      · skip
        have b_ := zF_ne rfl zk_0 c_
        refine lv_aload_n hx hb dX3_want_24 rfl (lv_at hl 0 rfl) ?_
        refine va_get (D := (dC, dI)) (ci := 3) (v := .int (v0 8)) (C := RX3) (T := TX3) (N := 10) hx hb hG zuX3 hown hK hP 0 rfl rfl 8 (by decide) (hG _ zv481) (fun _ h9 => h9) rfl dX3_want_25 ?_
        refine lv_sipush (v := 400) hx hb dX3_want_28 (by decide) ?_
        refine lv_icmp_lt (tgt := 35) hx hb dX3_want_31 (by decide) (fun c_ => ?_) (fun c_ => ?_)
        · skip
          have b_ := zT_lt rfl zk_400 c_
          refine lv_aload_n hx hb dX3_want_35 rfl (lv_at hl 0 rfl) ?_
          refine va_get (D := (dC, dI)) (ci := 3) (v := .ref h27) (C := RX3) (T := TX3) (N := 10) hx hb hG zuX3 hown hK hP 0 rfl rfl 5 (by decide) (hG _ zv478) (fun _ h9 => h9) rfl dX3_want_36 ?_
          refine lv_iload_n hx hb dX3_want_39 rfl (lv_at hl 1 rfl) ?_
          refine lv_iconst (v := 1) hx hb dX3_want_40 (by decide) ?_
          refine va_zast hx hb hK hP hD hS 2 0 rfl rfl (zin_lit ⟨by omega, by omega⟩) dX3_want_41 (fun H locs hP hD hS => ?_)
          obtain ⟨f_41, e_f_41⟩ : ∃ z : Nat → Int32, z = upd f27 (x1 : Int32).toNatClampNeg (vp_nar .boolean 1) := ⟨_, rfl⟩
          have hP : va_P (dC, dI) vwCl ([(h0, .inr (3, mX3 h1 h8 h17 h25 h26 h27 h28 h29 v0)), (h1, .inr (10, mX10 h2 h3 h4 h5 h6 h7 v1)), (h27, zi k27 400 f_41), (h25, .inl (k25, 400, .inr (.inr (.inr (.inr f25))))), (h3, zi k3 400 f3), (h8, .inr (6, mX6 h9 h10 h11 h12 h13 h14 h15 h16 v8)), (h14, zi k14 400 f14), (h12, zi k12 400 f12), (h9, zi k9 1250 f9), (h10, zi k10 833 f10), (h11, zi k11 833 f11), (h13, zi k13 400 f13), (h26, zi k26 400 f26), (h2, .inl (k2, 400, .inr (.inl f2))), (h4, zi k4 400 f4), (h15, zi k15 400 f15), (h16, zi k16 400 f16)] ++ pl0) H := by rw [e_f_41]; exact hP
          have hD : va_D A ([(h0, .inr (3, mX3 h1 h8 h17 h25 h26 h27 h28 h29 v0)), (h1, .inr (10, mX10 h2 h3 h4 h5 h6 h7 v1)), (h27, zi k27 400 f_41), (h25, .inl (k25, 400, .inr (.inr (.inr (.inr f25))))), (h3, zi k3 400 f3), (h8, .inr (6, mX6 h9 h10 h11 h12 h13 h14 h15 h16 v8)), (h14, zi k14 400 f14), (h12, zi k12 400 f12), (h9, zi k9 1250 f9), (h10, zi k10 833 f10), (h11, zi k11 833 f11), (h13, zi k13 400 f13), (h26, zi k26 400 f26), (h2, .inl (k2, 400, .inr (.inl f2))), (h4, zi k4 400 f4), (h15, zi k15 400 f15), (h16, zi k16 400 f16)] ++ pl0) := by rw [e_f_41]; exact hD
          refine lv_aload_n hx hb dX3_want_42 rfl (lv_at hl 0 rfl) ?_
          refine va_get (D := (dC, dI)) (ci := 3) (v := .ref h25) (C := RX3) (T := TX3) (N := 10) hx hb hG zuX3 hown hK hP 0 rfl rfl 3 (by decide) (hG _ zv476) (fun _ h9 => h9) rfl dX3_want_43 ?_
          refine lv_aload_n hx hb dX3_want_46 rfl (lv_at hl 0 rfl) ?_
          refine va_get (D := (dC, dI)) (ci := 3) (v := .int (v0 8)) (C := RX3) (T := TX3) (N := 10) hx hb hG zuX3 hown hK hP 0 rfl rfl 8 (by decide) (hG _ zv481) (fun _ h9 => h9) rfl dX3_want_47 ?_
          refine va_aldq hx hb hK hP 3 1 rfl rfl (zin_lit ⟨by omega, by omega⟩) dX3_want_50 ?_
          refine lv_topq (fun o50 e_o50 => ?_)
          rcases o50 with _ | a50_
          · skip
            refine W.eq (g2 := F0 m 51 ls [.null]) rfl ?_
            refine zcutW (fun H locs ls u74_ w74_ a74_ b74_ => ∃ (q74_ : Nat → Nat → Option Nat) (pl74 : va_W), va_P (dC, dI) vwCl ([(h0, .inr (3, mX3 h1 h8 h17 h25 h26 h27 h28 h29 v0)), (h1, .inr (10, mX10 h2 h3 h4 h5 h6 h7 v1)), (h27, zi k27 400 f_41), (h25, .inl (k25, 400, .inr (.inr (.inr (.inr f25))))), (h3, zi k3 400 f3), (h8, .inr (6, mX6 h9 h10 h11 h12 h13 h14 h15 h16 v8)), (h14, zi k14 400 f14), (h12, zi k12 400 f12), (h9, zi k9 1250 f9), (h10, zi k10 833 f10), (h11, zi k11 833 f11), (h13, zi k13 400 f13), (h26, zi k26 400 f26), (h2, .inl (k2, 400, .inr (.inl f2))), (h4, zi k4 400 f4), (h15, zi k15 400 f15), (h16, zi k16 400 f16)] ++ pl74) H ∧ va_D A ([(h0, .inr (3, mX3 h1 h8 h17 h25 h26 h27 h28 h29 v0)), (h1, .inr (10, mX10 h2 h3 h4 h5 h6 h7 v1)), (h27, zi k27 400 f_41), (h25, .inl (k25, 400, .inr (.inr (.inr (.inr f25))))), (h3, zi k3 400 f3), (h8, .inr (6, mX6 h9 h10 h11 h12 h13 h14 h15 h16 v8)), (h14, zi k14 400 f14), (h12, zi k12 400 f12), (h9, zi k9 1250 f9), (h10, zi k10 833 f10), (h11, zi k11 833 f11), (h13, zi k13 400 f13), (h26, zi k26 400 f26), (h2, .inl (k2, 400, .inr (.inl f2))), (h4, zi k4 400 f4), (h15, zi k15 400 f15), (h16, zi k16 400 f16)] ++ pl74) ∧ va_S A s.heap H locs ∧ lv_has ls 2 [(0, .ref h0), (1, .int x1)] ∧ (f25 (((v0 8) : Int32)).toNatClampNeg ≠ none) ∧ (zWx h8 f25 pl0 f25 pl74 (((v0 8) : Int32)).toNatClampNeg) ∧ (zRd h8 f25 pl74) ∧ (zKp h8 pl0 pl74)) (fun ls u74_ w74_ => F0 m 74 ls []) 0 0 ?_ (fun hJ74 => ?_)
            · skip
              intro H locs ls u74_ w74_ a74_ b74_ hc
              obtain ⟨q74_, pl74, hP, hD, hS, hl, hI74_0, hI74_1, hI74_2, hI74_3⟩ := hc
              refine lv_aload_n hx hb dX3_want_74 rfl (lv_at hl 0 rfl) ?_
              refine va_get (D := (dC, dI)) (ci := 3) (v := .ref h25) (C := RX3) (T := TX3) (N := 10) hx hb hG zuX3 hown hK hP 0 rfl rfl 3 (by decide) (hG _ zv476) (fun _ h9 => h9) rfl dX3_want_75 ?_
              refine lv_aload_n hx hb dX3_want_78 rfl (lv_at hl 0 rfl) ?_
              refine va_get (D := (dC, dI)) (ci := 3) (v := .int (v0 8)) (C := RX3) (T := TX3) (N := 10) hx hb hG zuX3 hown hK hP 0 rfl rfl 8 (by decide) (hG _ zv481) (fun _ h9 => h9) rfl dX3_want_79 ?_
              refine va_aldq hx hb hK hP 3 1 rfl rfl (zin_lit ⟨by omega, by omega⟩) dX3_want_82 ?_
              refine lv_topq (fun o82 e_o82 => ?_)
              rcases o82 with _ | a82_
              · skip
                exact absurd e_o82.symm (by assumption)
              · skip
                refine W.eq (g2 := F0 m 83 ls [.ref a82_]) rfl ?_
                have hnn_ : f25 ((v0 8) : Int32).toNatClampNeg ≠ none := fun h => by rw [h] at e_o82; cases e_o82
                refine lv_aload_n hx hb dX3_want_83 rfl (lv_at hl 0 rfl) ?_
                refine va_get (D := (dC, dI)) (ci := 3) (v := .ref h1) (C := RX3) (T := TX3) (N := 10) hx hb hG zuX3 hown hK hP 0 rfl rfl 0 (by decide) (hG _ zv473) (fun _ h9 => h9) rfl dX3_want_84 ?_
                refine lv_iload_n hx hb dX3_want_87 rfl (lv_at hl 1 rfl) ?_
                have hPc := hP.sub (ws' := [(h1, .inr (10, mX10 h2 h3 h4 h5 h6 h7 v1)), (h3, zi k3 400 f3)]) [1, 4] rfl
                have hDc := hD.sub (ws' := [(h1, .inr (10, mX10 h2 h3 h4 h5 h6 h7 v1)), (h3, zi k3 400 f3)]) [1, 4] (by decide) rfl
                have hKc := hK.sub (tys' := [(k3, .int)]) [2] rfl
                have hFc := va_free (wc := [(h1, .inr (10, mX10 h2 h3 h4 h5 h6 h7 v1)), (h3, zi k3 400 f3)]) hD hS hA [1, 4] rfl
                refine va_calli (va_runV (As := [.int x1]) (rest := [.ref a82_]) ⟨hx, hb, hml, hown, hG⟩ (sX10_idAt_0 l dC dI adK adV h1 h3 h2 h4 h5 h6 h7 k3 H.size v1 f3 x1 hv1 hf3) (cwV 1 hG (zgV zv1209 zv753 zv754 zv131 zv755) rfl rfl rfl (by decide +kernel) ⟨Nat.le_of_ble_eq_true rfl, Nat.le_of_ble_eq_true rfl⟩) ⟨zPc_blind, va_recv hKc hPc (ci := 10) (q0 := 0) rfl rfl, zPc_pre hPc hKc hDc hE hS hFc hZ⟩ rfl rfl hl.1 rfl (lv_room (Nat.le_of_ble_eq_true rfl)) dX3_want_88 ⟨Nat.le_of_ble_eq_true rfl, Nat.le_of_ble_eq_true rfl⟩) hS (fun q _ h => hFc q h) hFc (fun r88_ u88_ t H1 locs ht hvm hw hB hz1 hk1 hS => ?_)
                replace hw : ((-1) ≤ r88_.toInt ∧ r88_.toInt ≤ 399) ∧ (0 ≤ x1.toInt ∧ x1.toInt < (v1 7).toInt → r88_.toInt = (f3 ((x1 : Int32)).toNatClampNeg).toInt) ∧ (x1.toInt < 0 → r88_.toInt = -1) := hw
                obtain ⟨b_, hX88_0, hX88_1⟩ := hw
                obtain ⟨w88_, a88_, b88_, hP1, hK1, hD1⟩ := hB
                rw [ht] at hP1
                obtain ⟨hP, hD⟩ := va_joinQ (wr := [(h0, .inr (3, mX3 h1 h8 h17 h25 h26 h27 h28 h29 v0)), (h27, zi k27 400 f_41), (h25, .inl (k25, 400, .inr (.inr (.inr (.inr f25))))), (h8, .inr (6, mX6 h9 h10 h11 h12 h13 h14 h15 h16 v8)), (h14, zi k14 400 f14), (h12, zi k12 400 f12), (h9, zi k9 1250 f9), (h10, zi k10 833 f10), (h11, zi k11 833 f11), (h13, zi k13 400 f13), (h26, zi k26 400 f26), (h2, .inl (k2, 400, .inr (.inl f2))), (h4, zi k4 400 f4), (h15, zi k15 400 f15), (h16, zi k16 400 f16)]) (w1 := [(h1, .inr (10, mX10 h2 h3 h4 h5 h6 h7 v1)), (h3, zi k3 400 f3)]) hP hD [1, 4] [0, 2, 3, 5, 6, 7, 8, 9, 10, 11, 12, 13, 14, 15, 16] rfl rfl (by decide) (by decide) hk1 hFc hP1 hD1
                have hP : va_P (dC, dI) vwCl ([(h0, .inr (3, mX3 h1 h8 h17 h25 h26 h27 h28 h29 v0)), (h1, .inr (10, mX10 h2 h3 h4 h5 h6 h7 v1)), (h27, zi k27 400 f_41), (h25, .inl (k25, 400, .inr (.inr (.inr (.inr f25))))), (h3, zi k3 400 f3), (h8, .inr (6, mX6 h9 h10 h11 h12 h13 h14 h15 h16 v8)), (h14, zi k14 400 f14), (h12, zi k12 400 f12), (h9, zi k9 1250 f9), (h10, zi k10 833 f10), (h11, zi k11 833 f11), (h13, zi k13 400 f13), (h26, zi k26 400 f26), (h2, .inl (k2, 400, .inr (.inl f2))), (h4, zi k4 400 f4), (h15, zi k15 400 f15), (h16, zi k16 400 f16)] ++ pl74) H1 := hP.part [0, 15, 1, 2, 16, 3, 4, 5, 6, 7, 8, 9, 10, 11, 12, 13, 14] rfl
                have hD : va_D A ([(h0, .inr (3, mX3 h1 h8 h17 h25 h26 h27 h28 h29 v0)), (h1, .inr (10, mX10 h2 h3 h4 h5 h6 h7 v1)), (h27, zi k27 400 f_41), (h25, .inl (k25, 400, .inr (.inr (.inr (.inr f25))))), (h3, zi k3 400 f3), (h8, .inr (6, mX6 h9 h10 h11 h12 h13 h14 h15 h16 v8)), (h14, zi k14 400 f14), (h12, zi k12 400 f12), (h9, zi k9 1250 f9), (h10, zi k10 833 f10), (h11, zi k11 833 f11), (h13, zi k13 400 f13), (h26, zi k26 400 f26), (h2, .inl (k2, 400, .inr (.inl f2))), (h4, zi k4 400 f4), (h15, zi k15 400 f15), (h16, zi k16 400 f16)] ++ pl74) := hD.part [0, 15, 1, 2, 16, 3, 4, 5, 6, 7, 8, 9, 10, 11, 12, 13, 14] (by decide) rfl
                generalize H1 = H at hP hS ⊢
                clear hz1
                obtain ⟨v82_, hm82⟩ := (show zRd h8 f25 pl74 from by assumption) _ (zltc (by omega) (by omega)) _ e_o82.symm
                obtain ⟨p82, q82, e_pl82⟩ := List.append_of_mem hm82
                rw [e_pl82] at hP hD
                have hP : va_P (dC, dI) vwCl ([(h0, .inr (3, mX3 h1 h8 h17 h25 h26 h27 h28 h29 v0)), (h1, .inr (10, mX10 h2 h3 h4 h5 h6 h7 v1)), (h27, zi k27 400 f_41), (h25, .inl (k25, 400, .inr (.inr (.inr (.inr f25))))), (h3, zi k3 400 f3), (h8, .inr (6, mX6 h9 h10 h11 h12 h13 h14 h15 h16 v8)), (h14, zi k14 400 f14), (h12, zi k12 400 f12), (h9, zi k9 1250 f9), (h10, zi k10 833 f10), (h11, zi k11 833 f11), (h13, zi k13 400 f13), (h26, zi k26 400 f26), (h2, .inl (k2, 400, .inr (.inl f2))), (h4, zi k4 400 f4), (h15, zi k15 400 f15), (h16, zi k16 400 f16), (a82_, .inr (8, mX8 h8 v82_))] ++ (p82 ++ q82)) H := zfocP hP
                have hD : va_D A ([(h0, .inr (3, mX3 h1 h8 h17 h25 h26 h27 h28 h29 v0)), (h1, .inr (10, mX10 h2 h3 h4 h5 h6 h7 v1)), (h27, zi k27 400 f_41), (h25, .inl (k25, 400, .inr (.inr (.inr (.inr f25))))), (h3, zi k3 400 f3), (h8, .inr (6, mX6 h9 h10 h11 h12 h13 h14 h15 h16 v8)), (h14, zi k14 400 f14), (h12, zi k12 400 f12), (h9, zi k9 1250 f9), (h10, zi k10 833 f10), (h11, zi k11 833 f11), (h13, zi k13 400 f13), (h26, zi k26 400 f26), (h2, .inl (k2, 400, .inr (.inl f2))), (h4, zi k4 400 f4), (h15, zi k15 400 f15), (h16, zi k16 400 f16), (a82_, .inr (8, mX8 h8 v82_))] ++ (p82 ++ q82)) := zfocD hD
                have hPc := hP.sub (ws' := [(a82_, .inr (8, mX8 h8 v82_)), (h8, .inr (6, mX6 h9 h10 h11 h12 h13 h14 h15 h16 v8)), (h14, zi k14 400 f14), (h12, zi k12 400 f12), (h9, zi k9 1250 f9), (h10, zi k10 833 f10), (h11, zi k11 833 f11), (h13, zi k13 400 f13)]) [17, 5, 6, 7, 8, 9, 10, 11] rfl
                have hDc := hD.sub (ws' := [(a82_, .inr (8, mX8 h8 v82_)), (h8, .inr (6, mX6 h9 h10 h11 h12 h13 h14 h15 h16 v8)), (h14, zi k14 400 f14), (h12, zi k12 400 f12), (h9, zi k9 1250 f9), (h10, zi k10 833 f10), (h11, zi k11 833 f11), (h13, zi k13 400 f13)]) [17, 5, 6, 7, 8, 9, 10, 11] (by decide) rfl
                have hKc := hK.sub (tys' := [(k14, .int), (k12, .int), (k9, .int), (k10, .int), (k11, .int), (k13, .int)]) [3, 4, 5, 6, 7, 8] rfl
                have hFc := va_free (wc := [(a82_, .inr (8, mX8 h8 v82_)), (h8, .inr (6, mX6 h9 h10 h11 h12 h13 h14 h15 h16 v8)), (h14, zi k14 400 f14), (h12, zi k12 400 f12), (h9, zi k9 1250 f9), (h10, zi k10 833 f10), (h11, zi k11 833 f11), (h13, zi k13 400 f13)]) hD hS hA [17, 5, 6, 7, 8, 9, 10, 11] rfl
                refine va_callv (va_runV (As := [.int r88_]) (rest := []) ⟨hx, hb, hml, hown, hG⟩ (sX8_open_0 l dC dI adK adV a82_ h8 h14 h12 h9 h10 h11 h13 h15 h16 k14 k12 k9 k10 k11 k13 H.size v82_ v8 f14 f12 f9 f10 f11 f13 r88_ hv8 hf10 hf13) (cwV 1 hG (zgV zv1210 zv898 zv899 zv134 zv900) rfl rfl rfl (by decide +kernel) ⟨Nat.le_of_ble_eq_true rfl, Nat.le_of_ble_eq_true rfl⟩) ⟨zPc_blind, va_recv hKc hPc (ci := 8) (q0 := 0) rfl rfl, zPc_pre hPc hKc hDc hE hS hFc hZ⟩ rfl rfl hl.1 rfl (lv_room (Nat.le_of_ble_eq_true rfl)) dX3_want_91 ⟨Nat.le_of_ble_eq_true rfl, Nat.le_of_ble_eq_true rfl⟩) hS (fun q _ h => hFc q h) hFc (fun u91_ t H1 locs ht hvm hw hB hz1 hk1 hS => ?_)
                replace hw : (0 ≤ (u91_ 2).toInt ∧ (u91_ 2).toInt ≤ 0) ∧ (0 ≤ (u91_ 3).toInt ∧ (u91_ 3).toInt ≤ 0) ∧ ((-1) ≤ (u91_ 4).toInt ∧ (u91_ 4).toInt ≤ (-1)) ∧ (0 ≤ (u91_ 5).toInt ∧ (u91_ 5).toInt ≤ 0) ∧ (0 ≤ (u91_ 6).toInt ∧ (u91_ 6).toInt ≤ 0) ∧ ((u91_ 4).toInt = -1) ∧ ((u91_ 5).toInt = 0) ∧ ((u91_ 6).toInt = 0) ∧ (zW (0 ≤ r88_.toInt → r88_.toInt ≤ 399 → ∀ B : Nat → List Bool, zPB f9 f10 f11 f12 f13 f14 (v8 8).toInt (v8 9).toInt (v8 10).toInt (v8 11).toInt B → zRr f12 f11 B (u91_ 0).toInt (u91_ 1).toInt (u91_ 2).toInt (u91_ 3).toInt (B ((r88_ : Int32)).toNatClampNeg))) := hw
                obtain ⟨b_, b_, b_, b_, b_, hX91_0, hX91_1, hX91_2, hX91_3⟩ := hw
                obtain ⟨w91_, a91_, b91_, hP1, hK1, hD1⟩ := hB
                rw [ht] at hP1
                obtain ⟨hP, hD⟩ := va_joinQ (wr := [(h0, .inr (3, mX3 h1 h8 h17 h25 h26 h27 h28 h29 v0)), (h1, .inr (10, mX10 h2 h3 h4 h5 h6 h7 v1)), (h27, zi k27 400 f_41), (h25, .inl (k25, 400, .inr (.inr (.inr (.inr f25))))), (h3, zi k3 400 f3), (h26, zi k26 400 f26), (h2, .inl (k2, 400, .inr (.inl f2))), (h4, zi k4 400 f4), (h15, zi k15 400 f15), (h16, zi k16 400 f16)]) (w1 := [(a82_, .inr (8, mX8 h8 (upd (upd (upd (upd (upd (upd (upd v82_ 1 (u91_ 0)) 2 (u91_ 1)) 3 (u91_ 2)) 4 (u91_ 3)) 5 (u91_ 4)) 6 (u91_ 5)) 7 (u91_ 6)))), (h8, .inr (6, mX6 h9 h10 h11 h12 h13 h14 h15 h16 v8)), (h14, zi k14 400 f14), (h12, zi k12 400 f12), (h9, zi k9 1250 f9), (h10, zi k10 833 f10), (h11, zi k11 833 f11), (h13, zi k13 400 f13)]) hP hD [17, 5, 6, 7, 8, 9, 10, 11] [0, 1, 2, 3, 4, 12, 13, 14, 15, 16] rfl rfl (by decide) (by decide) hk1 hFc hP1 hD1
                have hP : va_P (dC, dI) vwCl ([(h0, .inr (3, mX3 h1 h8 h17 h25 h26 h27 h28 h29 v0)), (h1, .inr (10, mX10 h2 h3 h4 h5 h6 h7 v1)), (h27, zi k27 400 f_41), (h25, .inl (k25, 400, .inr (.inr (.inr (.inr f25))))), (h3, zi k3 400 f3), (h8, .inr (6, mX6 h9 h10 h11 h12 h13 h14 h15 h16 v8)), (h14, zi k14 400 f14), (h12, zi k12 400 f12), (h9, zi k9 1250 f9), (h10, zi k10 833 f10), (h11, zi k11 833 f11), (h13, zi k13 400 f13), (h26, zi k26 400 f26), (h2, .inl (k2, 400, .inr (.inl f2))), (h4, zi k4 400 f4), (h15, zi k15 400 f15), (h16, zi k16 400 f16), (a82_, .inr (8, mX8 h8 (upd (upd (upd (upd (upd (upd (upd v82_ 1 (u91_ 0)) 2 (u91_ 1)) 3 (u91_ 2)) 4 (u91_ 3)) 5 (u91_ 4)) 6 (u91_ 5)) 7 (u91_ 6))))] ++ (p82 ++ q82)) H1 := hP.part [0, 1, 2, 3, 4, 11, 12, 13, 14, 15, 16, 17, 5, 6, 7, 8, 9, 10] rfl
                have hD : va_D A ([(h0, .inr (3, mX3 h1 h8 h17 h25 h26 h27 h28 h29 v0)), (h1, .inr (10, mX10 h2 h3 h4 h5 h6 h7 v1)), (h27, zi k27 400 f_41), (h25, .inl (k25, 400, .inr (.inr (.inr (.inr f25))))), (h3, zi k3 400 f3), (h8, .inr (6, mX6 h9 h10 h11 h12 h13 h14 h15 h16 v8)), (h14, zi k14 400 f14), (h12, zi k12 400 f12), (h9, zi k9 1250 f9), (h10, zi k10 833 f10), (h11, zi k11 833 f11), (h13, zi k13 400 f13), (h26, zi k26 400 f26), (h2, .inl (k2, 400, .inr (.inl f2))), (h4, zi k4 400 f4), (h15, zi k15 400 f15), (h16, zi k16 400 f16), (a82_, .inr (8, mX8 h8 (upd (upd (upd (upd (upd (upd (upd v82_ 1 (u91_ 0)) 2 (u91_ 1)) 3 (u91_ 2)) 4 (u91_ 3)) 5 (u91_ 4)) 6 (u91_ 5)) 7 (u91_ 6))))] ++ (p82 ++ q82)) := hD.part [0, 1, 2, 3, 4, 11, 12, 13, 14, 15, 16, 17, 5, 6, 7, 8, 9, 10] (by decide) rfl
                generalize H1 = H at hP hS ⊢
                clear hz1
                refine lv_aload_n hx hb dX3_want_94 rfl (lv_at hl 0 rfl) ?_
                refine va_get (D := (dC, dI)) (ci := 3) (v := .ref h26) (C := RX3) (T := TX3) (N := 10) hx hb hG zuX3 hown hK hP 0 rfl rfl 4 (by decide) (hG _ zv477) (fun _ h9 => h9) rfl dX3_want_95 ?_
                refine lv_aload_n hx hb dX3_want_98 rfl (lv_at hl 0 rfl) ?_
                refine va_get (D := (dC, dI)) (ci := 3) (v := .int (v0 8)) (C := RX3) (T := TX3) (N := 10) hx hb hG zuX3 hown hK hP 0 rfl rfl 8 (by decide) (hG _ zv481) (fun _ h9 => h9) rfl dX3_want_99 ?_
                refine lv_iload_n hx hb dX3_want_102 rfl (lv_at hl 1 rfl) ?_
                refine va_iast hx hb hK hP hD hS 12 9 rfl rfl (zin_lit ⟨by omega, by omega⟩) dX3_want_103 (fun H locs hP hD hS => ?_)
                obtain ⟨f_103, e_f_103⟩ : ∃ z : Nat → Int32, z = upd f26 ((v0 8) : Int32).toNatClampNeg x1 := ⟨_, rfl⟩
                have hP : va_P (dC, dI) vwCl ([(h0, .inr (3, mX3 h1 h8 h17 h25 h26 h27 h28 h29 v0)), (h1, .inr (10, mX10 h2 h3 h4 h5 h6 h7 v1)), (h27, zi k27 400 f_41), (h25, .inl (k25, 400, .inr (.inr (.inr (.inr f25))))), (h3, zi k3 400 f3), (h8, .inr (6, mX6 h9 h10 h11 h12 h13 h14 h15 h16 v8)), (h14, zi k14 400 f14), (h12, zi k12 400 f12), (h9, zi k9 1250 f9), (h10, zi k10 833 f10), (h11, zi k11 833 f11), (h13, zi k13 400 f13), (h26, zi k26 400 f_103), (h2, .inl (k2, 400, .inr (.inl f2))), (h4, zi k4 400 f4), (h15, zi k15 400 f15), (h16, zi k16 400 f16), (a82_, .inr (8, mX8 h8 (upd (upd (upd (upd (upd (upd (upd v82_ 1 (u91_ 0)) 2 (u91_ 1)) 3 (u91_ 2)) 4 (u91_ 3)) 5 (u91_ 4)) 6 (u91_ 5)) 7 (u91_ 6))))] ++ (p82 ++ q82)) H := by rw [e_f_103]; exact hP
                have hD : va_D A ([(h0, .inr (3, mX3 h1 h8 h17 h25 h26 h27 h28 h29 v0)), (h1, .inr (10, mX10 h2 h3 h4 h5 h6 h7 v1)), (h27, zi k27 400 f_41), (h25, .inl (k25, 400, .inr (.inr (.inr (.inr f25))))), (h3, zi k3 400 f3), (h8, .inr (6, mX6 h9 h10 h11 h12 h13 h14 h15 h16 v8)), (h14, zi k14 400 f14), (h12, zi k12 400 f12), (h9, zi k9 1250 f9), (h10, zi k10 833 f10), (h11, zi k11 833 f11), (h13, zi k13 400 f13), (h26, zi k26 400 f_103), (h2, .inl (k2, 400, .inr (.inl f2))), (h4, zi k4 400 f4), (h15, zi k15 400 f15), (h16, zi k16 400 f16), (a82_, .inr (8, mX8 h8 (upd (upd (upd (upd (upd (upd (upd v82_ 1 (u91_ 0)) 2 (u91_ 1)) 3 (u91_ 2)) 4 (u91_ 3)) 5 (u91_ 4)) 6 (u91_ 5)) 7 (u91_ 6))))] ++ (p82 ++ q82)) := by rw [e_f_103]; exact hD
                have hf_103 : zA 0 399 f_103 := by rw [e_f_103]; exact zA_upd hf26 (show 0 ≤ (x1 : Int32).toInt from by omega) (show (x1 : Int32).toInt ≤ 399 from by omega)
                refine lv_aload_n hx hb dX3_want_104 rfl (lv_at hl 0 rfl) ?_
                refine lv_dup hx hb dX3_want_105 rfl ?_
                refine va_get (D := (dC, dI)) (ci := 3) (v := .int (v0 8)) (C := RX3) (T := TX3) (N := 10) hx hb hG zuX3 hown hK hP 0 rfl rfl 8 (by decide) (hG _ zv481) (fun _ h9 => h9) rfl dX3_want_106 ?_
                refine lv_iconst (v := 1) hx hb dX3_want_109 (by decide) ?_
                refine lv_iadd hx hb dX3_want_110 ?_
                refine lv_topi (fun z110 e_z110 => ?_)
                have b_ := zadd rfl zk_1 e_z110 (by omega) (by omega)
                refine va_put (D := (dC, dI)) (ci := 3) (v := .int z110) (ty := .int) (C := RX3) (T := TX3) (N := 10) hx hb hG zuX3 tyX3 tyX3_ok nmX3 hown hK hP hD hS 0 rfl rfl 8 (by decide) (hG _ zv481) (fun _ h9 => h9) rfl (by decide +kernel) rfl rfl (Nat.le_of_ble_eq_true rfl) dX3_want_111 (fun H locs hP hD hS => ?_)
                have hP : va_P (dC, dI) vwCl ([(h0, .inr (3, mX3 h1 h8 h17 h25 h26 h27 h28 h29 (upd v0 8 z110))), (h1, .inr (10, mX10 h2 h3 h4 h5 h6 h7 v1)), (h27, zi k27 400 f_41), (h25, .inl (k25, 400, .inr (.inr (.inr (.inr f25))))), (h3, zi k3 400 f3), (h8, .inr (6, mX6 h9 h10 h11 h12 h13 h14 h15 h16 v8)), (h14, zi k14 400 f14), (h12, zi k12 400 f12), (h9, zi k9 1250 f9), (h10, zi k10 833 f10), (h11, zi k11 833 f11), (h13, zi k13 400 f13), (h26, zi k26 400 f_103), (h2, .inl (k2, 400, .inr (.inl f2))), (h4, zi k4 400 f4), (h15, zi k15 400 f15), (h16, zi k16 400 f16), (a82_, .inr (8, mX8 h8 (upd (upd (upd (upd (upd (upd (upd v82_ 1 (u91_ 0)) 2 (u91_ 1)) 3 (u91_ 2)) 4 (u91_ 3)) 5 (u91_ 4)) 6 (u91_ 5)) 7 (u91_ 6))))] ++ (p82 ++ q82)) H := hP
                have hD : va_D A ([(h0, .inr (3, mX3 h1 h8 h17 h25 h26 h27 h28 h29 (upd v0 8 z110))), (h1, .inr (10, mX10 h2 h3 h4 h5 h6 h7 v1)), (h27, zi k27 400 f_41), (h25, .inl (k25, 400, .inr (.inr (.inr (.inr f25))))), (h3, zi k3 400 f3), (h8, .inr (6, mX6 h9 h10 h11 h12 h13 h14 h15 h16 v8)), (h14, zi k14 400 f14), (h12, zi k12 400 f12), (h9, zi k9 1250 f9), (h10, zi k10 833 f10), (h11, zi k11 833 f11), (h13, zi k13 400 f13), (h26, zi k26 400 f_103), (h2, .inl (k2, 400, .inr (.inl f2))), (h4, zi k4 400 f4), (h15, zi k15 400 f15), (h16, zi k16 400 f16), (a82_, .inr (8, mX8 h8 (upd (upd (upd (upd (upd (upd (upd v82_ 1 (u91_ 0)) 2 (u91_ 1)) 3 (u91_ 2)) 4 (u91_ 3)) 5 (u91_ 4)) 6 (u91_ 5)) 7 (u91_ 6))))] ++ (p82 ++ q82)) := hD
                obtain ⟨plx3, e_plx3⟩ : ∃ z : va_W, z = (a82_, .inr (8, mX8 h8 (upd (upd (upd (upd (upd (upd (upd v82_ 1 (u91_ 0)) 2 (u91_ 1)) 3 (u91_ 2)) 4 (u91_ 3)) 5 (u91_ 4)) 6 (u91_ 5)) 7 (u91_ 6)))) :: (p82 ++ q82) := ⟨_, rfl⟩
                have e_plx_ := e_plx3
                have hP : va_P (dC, dI) vwCl ([(h0, .inr (3, mX3 h1 h8 h17 h25 h26 h27 h28 h29 (upd v0 8 z110))), (h1, .inr (10, mX10 h2 h3 h4 h5 h6 h7 v1)), (h27, zi k27 400 f_41), (h25, .inl (k25, 400, .inr (.inr (.inr (.inr f25))))), (h3, zi k3 400 f3), (h8, .inr (6, mX6 h9 h10 h11 h12 h13 h14 h15 h16 v8)), (h14, zi k14 400 f14), (h12, zi k12 400 f12), (h9, zi k9 1250 f9), (h10, zi k10 833 f10), (h11, zi k11 833 f11), (h13, zi k13 400 f13), (h26, zi k26 400 f_103), (h2, .inl (k2, 400, .inr (.inl f2))), (h4, zi k4 400 f4), (h15, zi k15 400 f15), (h16, zi k16 400 f16)] ++ plx3) H := by rw [e_plx3]; exact hP
                have hD : va_D A ([(h0, .inr (3, mX3 h1 h8 h17 h25 h26 h27 h28 h29 (upd v0 8 z110))), (h1, .inr (10, mX10 h2 h3 h4 h5 h6 h7 v1)), (h27, zi k27 400 f_41), (h25, .inl (k25, 400, .inr (.inr (.inr (.inr f25))))), (h3, zi k3 400 f3), (h8, .inr (6, mX6 h9 h10 h11 h12 h13 h14 h15 h16 v8)), (h14, zi k14 400 f14), (h12, zi k12 400 f12), (h9, zi k9 1250 f9), (h10, zi k10 833 f10), (h11, zi k11 833 f11), (h13, zi k13 400 f13), (h26, zi k26 400 f_103), (h2, .inl (k2, 400, .inr (.inl f2))), (h4, zi k4 400 f4), (h15, zi k15 400 f15), (h16, zi k16 400 f16)] ++ plx3) := by rw [e_plx3]; exact hD
                have hpl_ : zRd h8 f25 plx3 := by rw [e_plx3]; exact zRd_put (show zRd h8 f25 pl74 from by first | assumption | exact zKp_rf | exact zOt_rf) e_pl82
                have hpl_ : zKp h8 pl0 plx3 := by rw [e_plx3]; exact zKp_put (show zKp h8 pl0 pl74 from by first | assumption | exact zKp_rf | exact zOt_rf) e_pl82
                refine W.widen (k := 0) (n := 0) (by decide) (by decide) ?_
                have hpost : (0 ≤ z110.toInt ∧ z110.toInt ≤ 400) ∧ ((v0 8).toInt ≤ z110.toInt) ∧ (z110.toInt ≤ (v0 8).toInt + 1) := ⟨(by first | with_reducible assumption | exact ⟨by omega, by omega⟩), by omega, by omega⟩
                have hP9 : va_P (dC, dI) vwCl ([(h0, .inr (3, mX3 h1 h8 h17 h25 h26 h27 h28 h29 (upd v0 8 z110))), (h1, .inr (10, mX10 h2 h3 h4 h5 h6 h7 v1)), (h27, zi k27 400 f_41), (h25, .inl (k25, 400, .inr (.inr (.inr (.inr f25))))), (h3, zi k3 400 f3), (h8, .inr (6, mX6 h9 h10 h11 h12 h13 h14 h15 h16 v8)), (h14, zi k14 400 f14), (h12, zi k12 400 f12), (h9, zi k9 1250 f9), (h10, zi k10 833 f10), (h11, zi k11 833 f11), (h13, zi k13 400 f13), (h26, zi k26 400 f_103), (h2, .inl (k2, 400, .inr (.inl f2))), (h4, zi k4 400 f4), (h15, zi k15 400 f15), (h16, zi k16 400 f16)] ++ plx3) H := hP
                have hD9 : va_D A ([(h0, .inr (3, mX3 h1 h8 h17 h25 h26 h27 h28 h29 (upd v0 8 z110))), (h1, .inr (10, mX10 h2 h3 h4 h5 h6 h7 v1)), (h27, zi k27 400 f_41), (h25, .inl (k25, 400, .inr (.inr (.inr (.inr f25))))), (h3, zi k3 400 f3), (h8, .inr (6, mX6 h9 h10 h11 h12 h13 h14 h15 h16 v8)), (h14, zi k14 400 f14), (h12, zi k12 400 f12), (h9, zi k9 1250 f9), (h10, zi k10 833 f10), (h11, zi k11 833 f11), (h13, zi k13 400 f13), (h26, zi k26 400 f_103), (h2, .inl (k2, 400, .inr (.inl f2))), (h4, zi k4 400 f4), (h15, zi k15 400 f15), (h16, zi k16 400 f16)] ++ plx3) := hD
                have hB0 : zRd h8 f25 plx3 := by assumption
                have hB1 : zKp h8 pl0 plx3 := by first | assumption | exact zKp_rf
                have hB2 : zWtc h8 f25 pl0 f2 f3 f4 (v1 7).toInt f9 f10 f11 f12 f13 f14 (v8 8).toInt (v8 9).toInt (v8 10).toInt (v8 11).toInt f15 f16 f26 f27 (v0 8).toInt f25 plx3 f_103 f_41 z110.toInt x1.toInt := by first | exact zWt_n (by omega) | exact zWt_y hI74_1 e_o82.symm e_pl82 e_plx_ e_f_41 (by decide) e_f_103 (by omega) (by omega) (by omega) (by omega) (by omega) (by omega) hX88_0 hX91_3 hX91_0 hX91_2 rfl rfl rfl rfl rfl rfl
                exact W.vret hx hb hr (fun t ht hW => ⟨⟨(fun i => ([z110] : List (Int32)).getD i 0), rfl, hpost, (fun _ => 0), (fun i => ([f_41, f_103] : List (Nat → Int32)).getD i (fun _ => 0)), (fun _ => (fun _ => 0)), (fun _ => (fun _ => none)), plx3, hf_103, hB0, hB1, hB2, by rw [ht]; exact hP9, va_K.moved hW.alike hK, hD9⟩, hS.F ht⟩) hS.2.2 dX3_want_114
            · skip
              refine lv_ifnonnullN hx hb dX3_want_51 ?_
              exact False.elim (by rcases hp1_ with h | h | h | h | h <;> first | omega | exact h e_o50.symm)
          · skip
            refine W.eq (g2 := F0 m 51 ls [.ref a50_]) rfl ?_
            have hnn_ : f25 ((v0 8) : Int32).toNatClampNeg ≠ none := fun h => by rw [h] at e_o50; cases e_o50
            refine zcutW (fun H locs ls u74_ w74_ a74_ b74_ => ∃ (q74_ : Nat → Nat → Option Nat) (pl74 : va_W), va_P (dC, dI) vwCl ([(h0, .inr (3, mX3 h1 h8 h17 h25 h26 h27 h28 h29 v0)), (h1, .inr (10, mX10 h2 h3 h4 h5 h6 h7 v1)), (h27, zi k27 400 f_41), (h25, .inl (k25, 400, .inr (.inr (.inr (.inr f25))))), (h3, zi k3 400 f3), (h8, .inr (6, mX6 h9 h10 h11 h12 h13 h14 h15 h16 v8)), (h14, zi k14 400 f14), (h12, zi k12 400 f12), (h9, zi k9 1250 f9), (h10, zi k10 833 f10), (h11, zi k11 833 f11), (h13, zi k13 400 f13), (h26, zi k26 400 f26), (h2, .inl (k2, 400, .inr (.inl f2))), (h4, zi k4 400 f4), (h15, zi k15 400 f15), (h16, zi k16 400 f16)] ++ pl74) H ∧ va_D A ([(h0, .inr (3, mX3 h1 h8 h17 h25 h26 h27 h28 h29 v0)), (h1, .inr (10, mX10 h2 h3 h4 h5 h6 h7 v1)), (h27, zi k27 400 f_41), (h25, .inl (k25, 400, .inr (.inr (.inr (.inr f25))))), (h3, zi k3 400 f3), (h8, .inr (6, mX6 h9 h10 h11 h12 h13 h14 h15 h16 v8)), (h14, zi k14 400 f14), (h12, zi k12 400 f12), (h9, zi k9 1250 f9), (h10, zi k10 833 f10), (h11, zi k11 833 f11), (h13, zi k13 400 f13), (h26, zi k26 400 f26), (h2, .inl (k2, 400, .inr (.inl f2))), (h4, zi k4 400 f4), (h15, zi k15 400 f15), (h16, zi k16 400 f16)] ++ pl74) ∧ va_S A s.heap H locs ∧ lv_has ls 2 [(0, .ref h0), (1, .int x1)] ∧ (f25 (((v0 8) : Int32)).toNatClampNeg ≠ none) ∧ (zWx h8 f25 pl0 f25 pl74 (((v0 8) : Int32)).toNatClampNeg) ∧ (zRd h8 f25 pl74) ∧ (zKp h8 pl0 pl74)) (fun ls u74_ w74_ => F0 m 74 ls []) 0 0 ?_ (fun hJ74 => ?_)
            · skip
              intro H locs ls u74_ w74_ a74_ b74_ hc
              obtain ⟨q74_, pl74, hP, hD, hS, hl, hI74_0, hI74_1, hI74_2, hI74_3⟩ := hc
              refine lv_aload_n hx hb dX3_want_74 rfl (lv_at hl 0 rfl) ?_
              refine va_get (D := (dC, dI)) (ci := 3) (v := .ref h25) (C := RX3) (T := TX3) (N := 10) hx hb hG zuX3 hown hK hP 0 rfl rfl 3 (by decide) (hG _ zv476) (fun _ h9 => h9) rfl dX3_want_75 ?_
              refine lv_aload_n hx hb dX3_want_78 rfl (lv_at hl 0 rfl) ?_
              refine va_get (D := (dC, dI)) (ci := 3) (v := .int (v0 8)) (C := RX3) (T := TX3) (N := 10) hx hb hG zuX3 hown hK hP 0 rfl rfl 8 (by decide) (hG _ zv481) (fun _ h9 => h9) rfl dX3_want_79 ?_
              refine va_aldq hx hb hK hP 3 1 rfl rfl (zin_lit ⟨by omega, by omega⟩) dX3_want_82 ?_
              refine lv_topq (fun o82 e_o82 => ?_)
              rcases o82 with _ | a82_
              · skip
                exact absurd e_o82.symm (by assumption)
              · skip
                refine W.eq (g2 := F0 m 83 ls [.ref a82_]) rfl ?_
                have hnn_ : f25 ((v0 8) : Int32).toNatClampNeg ≠ none := fun h => by rw [h] at e_o82; cases e_o82
                refine lv_aload_n hx hb dX3_want_83 rfl (lv_at hl 0 rfl) ?_
                refine va_get (D := (dC, dI)) (ci := 3) (v := .ref h1) (C := RX3) (T := TX3) (N := 10) hx hb hG zuX3 hown hK hP 0 rfl rfl 0 (by decide) (hG _ zv473) (fun _ h9 => h9) rfl dX3_want_84 ?_
                refine lv_iload_n hx hb dX3_want_87 rfl (lv_at hl 1 rfl) ?_
                have hPc := hP.sub (ws' := [(h1, .inr (10, mX10 h2 h3 h4 h5 h6 h7 v1)), (h3, zi k3 400 f3)]) [1, 4] rfl
                have hDc := hD.sub (ws' := [(h1, .inr (10, mX10 h2 h3 h4 h5 h6 h7 v1)), (h3, zi k3 400 f3)]) [1, 4] (by decide) rfl
                have hKc := hK.sub (tys' := [(k3, .int)]) [2] rfl
                have hFc := va_free (wc := [(h1, .inr (10, mX10 h2 h3 h4 h5 h6 h7 v1)), (h3, zi k3 400 f3)]) hD hS hA [1, 4] rfl
                refine va_calli (va_runV (As := [.int x1]) (rest := [.ref a82_]) ⟨hx, hb, hml, hown, hG⟩ (sX10_idAt_0 l dC dI adK adV h1 h3 h2 h4 h5 h6 h7 k3 H.size v1 f3 x1 hv1 hf3) (cwV 1 hG (zgV zv1209 zv753 zv754 zv131 zv755) rfl rfl rfl (by decide +kernel) ⟨Nat.le_of_ble_eq_true rfl, Nat.le_of_ble_eq_true rfl⟩) ⟨zPc_blind, va_recv hKc hPc (ci := 10) (q0 := 0) rfl rfl, zPc_pre hPc hKc hDc hE hS hFc hZ⟩ rfl rfl hl.1 rfl (lv_room (Nat.le_of_ble_eq_true rfl)) dX3_want_88 ⟨Nat.le_of_ble_eq_true rfl, Nat.le_of_ble_eq_true rfl⟩) hS (fun q _ h => hFc q h) hFc (fun r88_ u88_ t H1 locs ht hvm hw hB hz1 hk1 hS => ?_)
                replace hw : ((-1) ≤ r88_.toInt ∧ r88_.toInt ≤ 399) ∧ (0 ≤ x1.toInt ∧ x1.toInt < (v1 7).toInt → r88_.toInt = (f3 ((x1 : Int32)).toNatClampNeg).toInt) ∧ (x1.toInt < 0 → r88_.toInt = -1) := hw
                obtain ⟨b_, hX88_0, hX88_1⟩ := hw
                obtain ⟨w88_, a88_, b88_, hP1, hK1, hD1⟩ := hB
                rw [ht] at hP1
                obtain ⟨hP, hD⟩ := va_joinQ (wr := [(h0, .inr (3, mX3 h1 h8 h17 h25 h26 h27 h28 h29 v0)), (h27, zi k27 400 f_41), (h25, .inl (k25, 400, .inr (.inr (.inr (.inr f25))))), (h8, .inr (6, mX6 h9 h10 h11 h12 h13 h14 h15 h16 v8)), (h14, zi k14 400 f14), (h12, zi k12 400 f12), (h9, zi k9 1250 f9), (h10, zi k10 833 f10), (h11, zi k11 833 f11), (h13, zi k13 400 f13), (h26, zi k26 400 f26), (h2, .inl (k2, 400, .inr (.inl f2))), (h4, zi k4 400 f4), (h15, zi k15 400 f15), (h16, zi k16 400 f16)]) (w1 := [(h1, .inr (10, mX10 h2 h3 h4 h5 h6 h7 v1)), (h3, zi k3 400 f3)]) hP hD [1, 4] [0, 2, 3, 5, 6, 7, 8, 9, 10, 11, 12, 13, 14, 15, 16] rfl rfl (by decide) (by decide) hk1 hFc hP1 hD1
                have hP : va_P (dC, dI) vwCl ([(h0, .inr (3, mX3 h1 h8 h17 h25 h26 h27 h28 h29 v0)), (h1, .inr (10, mX10 h2 h3 h4 h5 h6 h7 v1)), (h27, zi k27 400 f_41), (h25, .inl (k25, 400, .inr (.inr (.inr (.inr f25))))), (h3, zi k3 400 f3), (h8, .inr (6, mX6 h9 h10 h11 h12 h13 h14 h15 h16 v8)), (h14, zi k14 400 f14), (h12, zi k12 400 f12), (h9, zi k9 1250 f9), (h10, zi k10 833 f10), (h11, zi k11 833 f11), (h13, zi k13 400 f13), (h26, zi k26 400 f26), (h2, .inl (k2, 400, .inr (.inl f2))), (h4, zi k4 400 f4), (h15, zi k15 400 f15), (h16, zi k16 400 f16)] ++ pl74) H1 := hP.part [0, 15, 1, 2, 16, 3, 4, 5, 6, 7, 8, 9, 10, 11, 12, 13, 14] rfl
                have hD : va_D A ([(h0, .inr (3, mX3 h1 h8 h17 h25 h26 h27 h28 h29 v0)), (h1, .inr (10, mX10 h2 h3 h4 h5 h6 h7 v1)), (h27, zi k27 400 f_41), (h25, .inl (k25, 400, .inr (.inr (.inr (.inr f25))))), (h3, zi k3 400 f3), (h8, .inr (6, mX6 h9 h10 h11 h12 h13 h14 h15 h16 v8)), (h14, zi k14 400 f14), (h12, zi k12 400 f12), (h9, zi k9 1250 f9), (h10, zi k10 833 f10), (h11, zi k11 833 f11), (h13, zi k13 400 f13), (h26, zi k26 400 f26), (h2, .inl (k2, 400, .inr (.inl f2))), (h4, zi k4 400 f4), (h15, zi k15 400 f15), (h16, zi k16 400 f16)] ++ pl74) := hD.part [0, 15, 1, 2, 16, 3, 4, 5, 6, 7, 8, 9, 10, 11, 12, 13, 14] (by decide) rfl
                generalize H1 = H at hP hS ⊢
                clear hz1
                obtain ⟨v82_, hm82⟩ := (show zRd h8 f25 pl74 from by assumption) _ (zltc (by omega) (by omega)) _ e_o82.symm
                obtain ⟨p82, q82, e_pl82⟩ := List.append_of_mem hm82
                rw [e_pl82] at hP hD
                have hP : va_P (dC, dI) vwCl ([(h0, .inr (3, mX3 h1 h8 h17 h25 h26 h27 h28 h29 v0)), (h1, .inr (10, mX10 h2 h3 h4 h5 h6 h7 v1)), (h27, zi k27 400 f_41), (h25, .inl (k25, 400, .inr (.inr (.inr (.inr f25))))), (h3, zi k3 400 f3), (h8, .inr (6, mX6 h9 h10 h11 h12 h13 h14 h15 h16 v8)), (h14, zi k14 400 f14), (h12, zi k12 400 f12), (h9, zi k9 1250 f9), (h10, zi k10 833 f10), (h11, zi k11 833 f11), (h13, zi k13 400 f13), (h26, zi k26 400 f26), (h2, .inl (k2, 400, .inr (.inl f2))), (h4, zi k4 400 f4), (h15, zi k15 400 f15), (h16, zi k16 400 f16), (a82_, .inr (8, mX8 h8 v82_))] ++ (p82 ++ q82)) H := zfocP hP
                have hD : va_D A ([(h0, .inr (3, mX3 h1 h8 h17 h25 h26 h27 h28 h29 v0)), (h1, .inr (10, mX10 h2 h3 h4 h5 h6 h7 v1)), (h27, zi k27 400 f_41), (h25, .inl (k25, 400, .inr (.inr (.inr (.inr f25))))), (h3, zi k3 400 f3), (h8, .inr (6, mX6 h9 h10 h11 h12 h13 h14 h15 h16 v8)), (h14, zi k14 400 f14), (h12, zi k12 400 f12), (h9, zi k9 1250 f9), (h10, zi k10 833 f10), (h11, zi k11 833 f11), (h13, zi k13 400 f13), (h26, zi k26 400 f26), (h2, .inl (k2, 400, .inr (.inl f2))), (h4, zi k4 400 f4), (h15, zi k15 400 f15), (h16, zi k16 400 f16), (a82_, .inr (8, mX8 h8 v82_))] ++ (p82 ++ q82)) := zfocD hD
                have hPc := hP.sub (ws' := [(a82_, .inr (8, mX8 h8 v82_)), (h8, .inr (6, mX6 h9 h10 h11 h12 h13 h14 h15 h16 v8)), (h14, zi k14 400 f14), (h12, zi k12 400 f12), (h9, zi k9 1250 f9), (h10, zi k10 833 f10), (h11, zi k11 833 f11), (h13, zi k13 400 f13)]) [17, 5, 6, 7, 8, 9, 10, 11] rfl
                have hDc := hD.sub (ws' := [(a82_, .inr (8, mX8 h8 v82_)), (h8, .inr (6, mX6 h9 h10 h11 h12 h13 h14 h15 h16 v8)), (h14, zi k14 400 f14), (h12, zi k12 400 f12), (h9, zi k9 1250 f9), (h10, zi k10 833 f10), (h11, zi k11 833 f11), (h13, zi k13 400 f13)]) [17, 5, 6, 7, 8, 9, 10, 11] (by decide) rfl
                have hKc := hK.sub (tys' := [(k14, .int), (k12, .int), (k9, .int), (k10, .int), (k11, .int), (k13, .int)]) [3, 4, 5, 6, 7, 8] rfl
                have hFc := va_free (wc := [(a82_, .inr (8, mX8 h8 v82_)), (h8, .inr (6, mX6 h9 h10 h11 h12 h13 h14 h15 h16 v8)), (h14, zi k14 400 f14), (h12, zi k12 400 f12), (h9, zi k9 1250 f9), (h10, zi k10 833 f10), (h11, zi k11 833 f11), (h13, zi k13 400 f13)]) hD hS hA [17, 5, 6, 7, 8, 9, 10, 11] rfl
                refine va_callv (va_runV (As := [.int r88_]) (rest := []) ⟨hx, hb, hml, hown, hG⟩ (sX8_open_0 l dC dI adK adV a82_ h8 h14 h12 h9 h10 h11 h13 h15 h16 k14 k12 k9 k10 k11 k13 H.size v82_ v8 f14 f12 f9 f10 f11 f13 r88_ hv8 hf10 hf13) (cwV 1 hG (zgV zv1210 zv898 zv899 zv134 zv900) rfl rfl rfl (by decide +kernel) ⟨Nat.le_of_ble_eq_true rfl, Nat.le_of_ble_eq_true rfl⟩) ⟨zPc_blind, va_recv hKc hPc (ci := 8) (q0 := 0) rfl rfl, zPc_pre hPc hKc hDc hE hS hFc hZ⟩ rfl rfl hl.1 rfl (lv_room (Nat.le_of_ble_eq_true rfl)) dX3_want_91 ⟨Nat.le_of_ble_eq_true rfl, Nat.le_of_ble_eq_true rfl⟩) hS (fun q _ h => hFc q h) hFc (fun u91_ t H1 locs ht hvm hw hB hz1 hk1 hS => ?_)
                replace hw : (0 ≤ (u91_ 2).toInt ∧ (u91_ 2).toInt ≤ 0) ∧ (0 ≤ (u91_ 3).toInt ∧ (u91_ 3).toInt ≤ 0) ∧ ((-1) ≤ (u91_ 4).toInt ∧ (u91_ 4).toInt ≤ (-1)) ∧ (0 ≤ (u91_ 5).toInt ∧ (u91_ 5).toInt ≤ 0) ∧ (0 ≤ (u91_ 6).toInt ∧ (u91_ 6).toInt ≤ 0) ∧ ((u91_ 4).toInt = -1) ∧ ((u91_ 5).toInt = 0) ∧ ((u91_ 6).toInt = 0) ∧ (zW (0 ≤ r88_.toInt → r88_.toInt ≤ 399 → ∀ B : Nat → List Bool, zPB f9 f10 f11 f12 f13 f14 (v8 8).toInt (v8 9).toInt (v8 10).toInt (v8 11).toInt B → zRr f12 f11 B (u91_ 0).toInt (u91_ 1).toInt (u91_ 2).toInt (u91_ 3).toInt (B ((r88_ : Int32)).toNatClampNeg))) := hw
                obtain ⟨b_, b_, b_, b_, b_, hX91_0, hX91_1, hX91_2, hX91_3⟩ := hw
                obtain ⟨w91_, a91_, b91_, hP1, hK1, hD1⟩ := hB
                rw [ht] at hP1
                obtain ⟨hP, hD⟩ := va_joinQ (wr := [(h0, .inr (3, mX3 h1 h8 h17 h25 h26 h27 h28 h29 v0)), (h1, .inr (10, mX10 h2 h3 h4 h5 h6 h7 v1)), (h27, zi k27 400 f_41), (h25, .inl (k25, 400, .inr (.inr (.inr (.inr f25))))), (h3, zi k3 400 f3), (h26, zi k26 400 f26), (h2, .inl (k2, 400, .inr (.inl f2))), (h4, zi k4 400 f4), (h15, zi k15 400 f15), (h16, zi k16 400 f16)]) (w1 := [(a82_, .inr (8, mX8 h8 (upd (upd (upd (upd (upd (upd (upd v82_ 1 (u91_ 0)) 2 (u91_ 1)) 3 (u91_ 2)) 4 (u91_ 3)) 5 (u91_ 4)) 6 (u91_ 5)) 7 (u91_ 6)))), (h8, .inr (6, mX6 h9 h10 h11 h12 h13 h14 h15 h16 v8)), (h14, zi k14 400 f14), (h12, zi k12 400 f12), (h9, zi k9 1250 f9), (h10, zi k10 833 f10), (h11, zi k11 833 f11), (h13, zi k13 400 f13)]) hP hD [17, 5, 6, 7, 8, 9, 10, 11] [0, 1, 2, 3, 4, 12, 13, 14, 15, 16] rfl rfl (by decide) (by decide) hk1 hFc hP1 hD1
                have hP : va_P (dC, dI) vwCl ([(h0, .inr (3, mX3 h1 h8 h17 h25 h26 h27 h28 h29 v0)), (h1, .inr (10, mX10 h2 h3 h4 h5 h6 h7 v1)), (h27, zi k27 400 f_41), (h25, .inl (k25, 400, .inr (.inr (.inr (.inr f25))))), (h3, zi k3 400 f3), (h8, .inr (6, mX6 h9 h10 h11 h12 h13 h14 h15 h16 v8)), (h14, zi k14 400 f14), (h12, zi k12 400 f12), (h9, zi k9 1250 f9), (h10, zi k10 833 f10), (h11, zi k11 833 f11), (h13, zi k13 400 f13), (h26, zi k26 400 f26), (h2, .inl (k2, 400, .inr (.inl f2))), (h4, zi k4 400 f4), (h15, zi k15 400 f15), (h16, zi k16 400 f16), (a82_, .inr (8, mX8 h8 (upd (upd (upd (upd (upd (upd (upd v82_ 1 (u91_ 0)) 2 (u91_ 1)) 3 (u91_ 2)) 4 (u91_ 3)) 5 (u91_ 4)) 6 (u91_ 5)) 7 (u91_ 6))))] ++ (p82 ++ q82)) H1 := hP.part [0, 1, 2, 3, 4, 11, 12, 13, 14, 15, 16, 17, 5, 6, 7, 8, 9, 10] rfl
                have hD : va_D A ([(h0, .inr (3, mX3 h1 h8 h17 h25 h26 h27 h28 h29 v0)), (h1, .inr (10, mX10 h2 h3 h4 h5 h6 h7 v1)), (h27, zi k27 400 f_41), (h25, .inl (k25, 400, .inr (.inr (.inr (.inr f25))))), (h3, zi k3 400 f3), (h8, .inr (6, mX6 h9 h10 h11 h12 h13 h14 h15 h16 v8)), (h14, zi k14 400 f14), (h12, zi k12 400 f12), (h9, zi k9 1250 f9), (h10, zi k10 833 f10), (h11, zi k11 833 f11), (h13, zi k13 400 f13), (h26, zi k26 400 f26), (h2, .inl (k2, 400, .inr (.inl f2))), (h4, zi k4 400 f4), (h15, zi k15 400 f15), (h16, zi k16 400 f16), (a82_, .inr (8, mX8 h8 (upd (upd (upd (upd (upd (upd (upd v82_ 1 (u91_ 0)) 2 (u91_ 1)) 3 (u91_ 2)) 4 (u91_ 3)) 5 (u91_ 4)) 6 (u91_ 5)) 7 (u91_ 6))))] ++ (p82 ++ q82)) := hD.part [0, 1, 2, 3, 4, 11, 12, 13, 14, 15, 16, 17, 5, 6, 7, 8, 9, 10] (by decide) rfl
                generalize H1 = H at hP hS ⊢
                clear hz1
                refine lv_aload_n hx hb dX3_want_94 rfl (lv_at hl 0 rfl) ?_
                refine va_get (D := (dC, dI)) (ci := 3) (v := .ref h26) (C := RX3) (T := TX3) (N := 10) hx hb hG zuX3 hown hK hP 0 rfl rfl 4 (by decide) (hG _ zv477) (fun _ h9 => h9) rfl dX3_want_95 ?_
                refine lv_aload_n hx hb dX3_want_98 rfl (lv_at hl 0 rfl) ?_
                refine va_get (D := (dC, dI)) (ci := 3) (v := .int (v0 8)) (C := RX3) (T := TX3) (N := 10) hx hb hG zuX3 hown hK hP 0 rfl rfl 8 (by decide) (hG _ zv481) (fun _ h9 => h9) rfl dX3_want_99 ?_
                refine lv_iload_n hx hb dX3_want_102 rfl (lv_at hl 1 rfl) ?_
                refine va_iast hx hb hK hP hD hS 12 9 rfl rfl (zin_lit ⟨by omega, by omega⟩) dX3_want_103 (fun H locs hP hD hS => ?_)
                obtain ⟨f_103, e_f_103⟩ : ∃ z : Nat → Int32, z = upd f26 ((v0 8) : Int32).toNatClampNeg x1 := ⟨_, rfl⟩
                have hP : va_P (dC, dI) vwCl ([(h0, .inr (3, mX3 h1 h8 h17 h25 h26 h27 h28 h29 v0)), (h1, .inr (10, mX10 h2 h3 h4 h5 h6 h7 v1)), (h27, zi k27 400 f_41), (h25, .inl (k25, 400, .inr (.inr (.inr (.inr f25))))), (h3, zi k3 400 f3), (h8, .inr (6, mX6 h9 h10 h11 h12 h13 h14 h15 h16 v8)), (h14, zi k14 400 f14), (h12, zi k12 400 f12), (h9, zi k9 1250 f9), (h10, zi k10 833 f10), (h11, zi k11 833 f11), (h13, zi k13 400 f13), (h26, zi k26 400 f_103), (h2, .inl (k2, 400, .inr (.inl f2))), (h4, zi k4 400 f4), (h15, zi k15 400 f15), (h16, zi k16 400 f16), (a82_, .inr (8, mX8 h8 (upd (upd (upd (upd (upd (upd (upd v82_ 1 (u91_ 0)) 2 (u91_ 1)) 3 (u91_ 2)) 4 (u91_ 3)) 5 (u91_ 4)) 6 (u91_ 5)) 7 (u91_ 6))))] ++ (p82 ++ q82)) H := by rw [e_f_103]; exact hP
                have hD : va_D A ([(h0, .inr (3, mX3 h1 h8 h17 h25 h26 h27 h28 h29 v0)), (h1, .inr (10, mX10 h2 h3 h4 h5 h6 h7 v1)), (h27, zi k27 400 f_41), (h25, .inl (k25, 400, .inr (.inr (.inr (.inr f25))))), (h3, zi k3 400 f3), (h8, .inr (6, mX6 h9 h10 h11 h12 h13 h14 h15 h16 v8)), (h14, zi k14 400 f14), (h12, zi k12 400 f12), (h9, zi k9 1250 f9), (h10, zi k10 833 f10), (h11, zi k11 833 f11), (h13, zi k13 400 f13), (h26, zi k26 400 f_103), (h2, .inl (k2, 400, .inr (.inl f2))), (h4, zi k4 400 f4), (h15, zi k15 400 f15), (h16, zi k16 400 f16), (a82_, .inr (8, mX8 h8 (upd (upd (upd (upd (upd (upd (upd v82_ 1 (u91_ 0)) 2 (u91_ 1)) 3 (u91_ 2)) 4 (u91_ 3)) 5 (u91_ 4)) 6 (u91_ 5)) 7 (u91_ 6))))] ++ (p82 ++ q82)) := by rw [e_f_103]; exact hD
                have hf_103 : zA 0 399 f_103 := by rw [e_f_103]; exact zA_upd hf26 (show 0 ≤ (x1 : Int32).toInt from by omega) (show (x1 : Int32).toInt ≤ 399 from by omega)
                refine lv_aload_n hx hb dX3_want_104 rfl (lv_at hl 0 rfl) ?_
                refine lv_dup hx hb dX3_want_105 rfl ?_
                refine va_get (D := (dC, dI)) (ci := 3) (v := .int (v0 8)) (C := RX3) (T := TX3) (N := 10) hx hb hG zuX3 hown hK hP 0 rfl rfl 8 (by decide) (hG _ zv481) (fun _ h9 => h9) rfl dX3_want_106 ?_
                refine lv_iconst (v := 1) hx hb dX3_want_109 (by decide) ?_
                refine lv_iadd hx hb dX3_want_110 ?_
                refine lv_topi (fun z110 e_z110 => ?_)
                have b_ := zadd rfl zk_1 e_z110 (by omega) (by omega)
                refine va_put (D := (dC, dI)) (ci := 3) (v := .int z110) (ty := .int) (C := RX3) (T := TX3) (N := 10) hx hb hG zuX3 tyX3 tyX3_ok nmX3 hown hK hP hD hS 0 rfl rfl 8 (by decide) (hG _ zv481) (fun _ h9 => h9) rfl (by decide +kernel) rfl rfl (Nat.le_of_ble_eq_true rfl) dX3_want_111 (fun H locs hP hD hS => ?_)
                have hP : va_P (dC, dI) vwCl ([(h0, .inr (3, mX3 h1 h8 h17 h25 h26 h27 h28 h29 (upd v0 8 z110))), (h1, .inr (10, mX10 h2 h3 h4 h5 h6 h7 v1)), (h27, zi k27 400 f_41), (h25, .inl (k25, 400, .inr (.inr (.inr (.inr f25))))), (h3, zi k3 400 f3), (h8, .inr (6, mX6 h9 h10 h11 h12 h13 h14 h15 h16 v8)), (h14, zi k14 400 f14), (h12, zi k12 400 f12), (h9, zi k9 1250 f9), (h10, zi k10 833 f10), (h11, zi k11 833 f11), (h13, zi k13 400 f13), (h26, zi k26 400 f_103), (h2, .inl (k2, 400, .inr (.inl f2))), (h4, zi k4 400 f4), (h15, zi k15 400 f15), (h16, zi k16 400 f16), (a82_, .inr (8, mX8 h8 (upd (upd (upd (upd (upd (upd (upd v82_ 1 (u91_ 0)) 2 (u91_ 1)) 3 (u91_ 2)) 4 (u91_ 3)) 5 (u91_ 4)) 6 (u91_ 5)) 7 (u91_ 6))))] ++ (p82 ++ q82)) H := hP
                have hD : va_D A ([(h0, .inr (3, mX3 h1 h8 h17 h25 h26 h27 h28 h29 (upd v0 8 z110))), (h1, .inr (10, mX10 h2 h3 h4 h5 h6 h7 v1)), (h27, zi k27 400 f_41), (h25, .inl (k25, 400, .inr (.inr (.inr (.inr f25))))), (h3, zi k3 400 f3), (h8, .inr (6, mX6 h9 h10 h11 h12 h13 h14 h15 h16 v8)), (h14, zi k14 400 f14), (h12, zi k12 400 f12), (h9, zi k9 1250 f9), (h10, zi k10 833 f10), (h11, zi k11 833 f11), (h13, zi k13 400 f13), (h26, zi k26 400 f_103), (h2, .inl (k2, 400, .inr (.inl f2))), (h4, zi k4 400 f4), (h15, zi k15 400 f15), (h16, zi k16 400 f16), (a82_, .inr (8, mX8 h8 (upd (upd (upd (upd (upd (upd (upd v82_ 1 (u91_ 0)) 2 (u91_ 1)) 3 (u91_ 2)) 4 (u91_ 3)) 5 (u91_ 4)) 6 (u91_ 5)) 7 (u91_ 6))))] ++ (p82 ++ q82)) := hD
                obtain ⟨plx4, e_plx4⟩ : ∃ z : va_W, z = (a82_, .inr (8, mX8 h8 (upd (upd (upd (upd (upd (upd (upd v82_ 1 (u91_ 0)) 2 (u91_ 1)) 3 (u91_ 2)) 4 (u91_ 3)) 5 (u91_ 4)) 6 (u91_ 5)) 7 (u91_ 6)))) :: (p82 ++ q82) := ⟨_, rfl⟩
                have e_plx_ := e_plx4
                have hP : va_P (dC, dI) vwCl ([(h0, .inr (3, mX3 h1 h8 h17 h25 h26 h27 h28 h29 (upd v0 8 z110))), (h1, .inr (10, mX10 h2 h3 h4 h5 h6 h7 v1)), (h27, zi k27 400 f_41), (h25, .inl (k25, 400, .inr (.inr (.inr (.inr f25))))), (h3, zi k3 400 f3), (h8, .inr (6, mX6 h9 h10 h11 h12 h13 h14 h15 h16 v8)), (h14, zi k14 400 f14), (h12, zi k12 400 f12), (h9, zi k9 1250 f9), (h10, zi k10 833 f10), (h11, zi k11 833 f11), (h13, zi k13 400 f13), (h26, zi k26 400 f_103), (h2, .inl (k2, 400, .inr (.inl f2))), (h4, zi k4 400 f4), (h15, zi k15 400 f15), (h16, zi k16 400 f16)] ++ plx4) H := by rw [e_plx4]; exact hP
                have hD : va_D A ([(h0, .inr (3, mX3 h1 h8 h17 h25 h26 h27 h28 h29 (upd v0 8 z110))), (h1, .inr (10, mX10 h2 h3 h4 h5 h6 h7 v1)), (h27, zi k27 400 f_41), (h25, .inl (k25, 400, .inr (.inr (.inr (.inr f25))))), (h3, zi k3 400 f3), (h8, .inr (6, mX6 h9 h10 h11 h12 h13 h14 h15 h16 v8)), (h14, zi k14 400 f14), (h12, zi k12 400 f12), (h9, zi k9 1250 f9), (h10, zi k10 833 f10), (h11, zi k11 833 f11), (h13, zi k13 400 f13), (h26, zi k26 400 f_103), (h2, .inl (k2, 400, .inr (.inl f2))), (h4, zi k4 400 f4), (h15, zi k15 400 f15), (h16, zi k16 400 f16)] ++ plx4) := by rw [e_plx4]; exact hD
                have hpl_ : zRd h8 f25 plx4 := by rw [e_plx4]; exact zRd_put (show zRd h8 f25 pl74 from by first | assumption | exact zKp_rf | exact zOt_rf) e_pl82
                have hpl_ : zKp h8 pl0 plx4 := by rw [e_plx4]; exact zKp_put (show zKp h8 pl0 pl74 from by first | assumption | exact zKp_rf | exact zOt_rf) e_pl82
                refine W.widen (k := 0) (n := 0) (by decide) (by decide) ?_
                have hpost : (0 ≤ z110.toInt ∧ z110.toInt ≤ 400) ∧ ((v0 8).toInt ≤ z110.toInt) ∧ (z110.toInt ≤ (v0 8).toInt + 1) := ⟨(by first | with_reducible assumption | exact ⟨by omega, by omega⟩), by omega, by omega⟩
                have hP9 : va_P (dC, dI) vwCl ([(h0, .inr (3, mX3 h1 h8 h17 h25 h26 h27 h28 h29 (upd v0 8 z110))), (h1, .inr (10, mX10 h2 h3 h4 h5 h6 h7 v1)), (h27, zi k27 400 f_41), (h25, .inl (k25, 400, .inr (.inr (.inr (.inr f25))))), (h3, zi k3 400 f3), (h8, .inr (6, mX6 h9 h10 h11 h12 h13 h14 h15 h16 v8)), (h14, zi k14 400 f14), (h12, zi k12 400 f12), (h9, zi k9 1250 f9), (h10, zi k10 833 f10), (h11, zi k11 833 f11), (h13, zi k13 400 f13), (h26, zi k26 400 f_103), (h2, .inl (k2, 400, .inr (.inl f2))), (h4, zi k4 400 f4), (h15, zi k15 400 f15), (h16, zi k16 400 f16)] ++ plx4) H := hP
                have hD9 : va_D A ([(h0, .inr (3, mX3 h1 h8 h17 h25 h26 h27 h28 h29 (upd v0 8 z110))), (h1, .inr (10, mX10 h2 h3 h4 h5 h6 h7 v1)), (h27, zi k27 400 f_41), (h25, .inl (k25, 400, .inr (.inr (.inr (.inr f25))))), (h3, zi k3 400 f3), (h8, .inr (6, mX6 h9 h10 h11 h12 h13 h14 h15 h16 v8)), (h14, zi k14 400 f14), (h12, zi k12 400 f12), (h9, zi k9 1250 f9), (h10, zi k10 833 f10), (h11, zi k11 833 f11), (h13, zi k13 400 f13), (h26, zi k26 400 f_103), (h2, .inl (k2, 400, .inr (.inl f2))), (h4, zi k4 400 f4), (h15, zi k15 400 f15), (h16, zi k16 400 f16)] ++ plx4) := hD
                have hB0 : zRd h8 f25 plx4 := by assumption
                have hB1 : zKp h8 pl0 plx4 := by first | assumption | exact zKp_rf
                have hB2 : zWtc h8 f25 pl0 f2 f3 f4 (v1 7).toInt f9 f10 f11 f12 f13 f14 (v8 8).toInt (v8 9).toInt (v8 10).toInt (v8 11).toInt f15 f16 f26 f27 (v0 8).toInt f25 plx4 f_103 f_41 z110.toInt x1.toInt := by first | exact zWt_n (by omega) | exact zWt_y hI74_1 e_o82.symm e_pl82 e_plx_ e_f_41 (by decide) e_f_103 (by omega) (by omega) (by omega) (by omega) (by omega) (by omega) hX88_0 hX91_3 hX91_0 hX91_2 rfl rfl rfl rfl rfl rfl
                exact W.vret hx hb hr (fun t ht hW => ⟨⟨(fun i => ([z110] : List (Int32)).getD i 0), rfl, hpost, (fun _ => 0), (fun i => ([f_41, f_103] : List (Nat → Int32)).getD i (fun _ => 0)), (fun _ => (fun _ => 0)), (fun _ => (fun _ => none)), plx4, hf_103, hB0, hB1, hB2, by rw [ht]; exact hP9, va_K.moved hW.alike hK, hD9⟩, hS.F ht⟩) hS.2.2 dX3_want_114
            · skip
              refine lv_ifnonnull (tgt := 74) hx hb dX3_want_51 (by decide) ?_
              have hc : va_P (dC, dI) vwCl ([(h0, .inr (3, mX3 h1 h8 h17 h25 h26 h27 h28 h29 v0)), (h1, .inr (10, mX10 h2 h3 h4 h5 h6 h7 v1)), (h27, zi k27 400 f_41), (h25, .inl (k25, 400, .inr (.inr (.inr (.inr f25))))), (h3, zi k3 400 f3), (h8, .inr (6, mX6 h9 h10 h11 h12 h13 h14 h15 h16 v8)), (h14, zi k14 400 f14), (h12, zi k12 400 f12), (h9, zi k9 1250 f9), (h10, zi k10 833 f10), (h11, zi k11 833 f11), (h13, zi k13 400 f13), (h26, zi k26 400 f26), (h2, .inl (k2, 400, .inr (.inl f2))), (h4, zi k4 400 f4), (h15, zi k15 400 f15), (h16, zi k16 400 f16)] ++ pl0) H ∧ va_D A ([(h0, .inr (3, mX3 h1 h8 h17 h25 h26 h27 h28 h29 v0)), (h1, .inr (10, mX10 h2 h3 h4 h5 h6 h7 v1)), (h27, zi k27 400 f_41), (h25, .inl (k25, 400, .inr (.inr (.inr (.inr f25))))), (h3, zi k3 400 f3), (h8, .inr (6, mX6 h9 h10 h11 h12 h13 h14 h15 h16 v8)), (h14, zi k14 400 f14), (h12, zi k12 400 f12), (h9, zi k9 1250 f9), (h10, zi k10 833 f10), (h11, zi k11 833 f11), (h13, zi k13 400 f13), (h26, zi k26 400 f26), (h2, .inl (k2, 400, .inr (.inl f2))), (h4, zi k4 400 f4), (h15, zi k15 400 f15), (h16, zi k16 400 f16)] ++ pl0) ∧ va_S A s.heap H locs ∧ lv_has ls 2 [(0, .ref h0), (1, .int x1)] ∧ (f25 (((v0 8) : Int32)).toNatClampNeg ≠ none) ∧ (zWx h8 f25 pl0 f25 pl0 (((v0 8) : Int32)).toNatClampNeg) ∧ (zRd h8 f25 pl0) ∧ (zKp h8 pl0 pl0) := ⟨hP, hD, hS, lv_sub hl [0, 1] rfl, by first | (rw [e_f_73, va_up_self]; exact fun h => by cases h) | exact fun h => by (rw [h] at e_o50; cases e_o50), by first | exact zWx_n (by assumption) hD e_plx_ e_f_73 | exact zWx_r, by assumption, by first | assumption | exact zKp_rf⟩
              exact hJ74 H locs ls (fun _ => 0) (fun _ => 0) (fun _ => (fun _ => 0)) (fun _ => (fun _ => 0)) ⟨(fun _ => (fun _ => none)), pl0, hc⟩
        · skip
          have b_ := zF_lt rfl zk_400 c_
          refine W.widen (k := 0) (n := 0) (by decide) (by decide) ?_
          have hpost : (0 ≤ (v0 8).toInt ∧ (v0 8).toInt ≤ 400) ∧ ((v0 8).toInt ≤ (v0 8).toInt) ∧ ((v0 8).toInt ≤ (v0 8).toInt + 1) := ⟨(by first | with_reducible assumption | exact ⟨by omega, by omega⟩), by omega, by omega⟩
          have hP9 : va_P (dC, dI) vwCl ([(h0, .inr (3, mX3 h1 h8 h17 h25 h26 h27 h28 h29 (upd v0 8 (v0 8)))), (h1, .inr (10, mX10 h2 h3 h4 h5 h6 h7 v1)), (h27, zi k27 400 f27), (h25, .inl (k25, 400, .inr (.inr (.inr (.inr f25))))), (h3, zi k3 400 f3), (h8, .inr (6, mX6 h9 h10 h11 h12 h13 h14 h15 h16 v8)), (h14, zi k14 400 f14), (h12, zi k12 400 f12), (h9, zi k9 1250 f9), (h10, zi k10 833 f10), (h11, zi k11 833 f11), (h13, zi k13 400 f13), (h26, zi k26 400 f26), (h2, .inl (k2, 400, .inr (.inl f2))), (h4, zi k4 400 f4), (h15, zi k15 400 f15), (h16, zi k16 400 f16)] ++ pl0) H := hP
          have hD9 : va_D A ([(h0, .inr (3, mX3 h1 h8 h17 h25 h26 h27 h28 h29 (upd v0 8 (v0 8)))), (h1, .inr (10, mX10 h2 h3 h4 h5 h6 h7 v1)), (h27, zi k27 400 f27), (h25, .inl (k25, 400, .inr (.inr (.inr (.inr f25))))), (h3, zi k3 400 f3), (h8, .inr (6, mX6 h9 h10 h11 h12 h13 h14 h15 h16 v8)), (h14, zi k14 400 f14), (h12, zi k12 400 f12), (h9, zi k9 1250 f9), (h10, zi k10 833 f10), (h11, zi k11 833 f11), (h13, zi k13 400 f13), (h26, zi k26 400 f26), (h2, .inl (k2, 400, .inr (.inl f2))), (h4, zi k4 400 f4), (h15, zi k15 400 f15), (h16, zi k16 400 f16)] ++ pl0) := hD
          have hB0 : zRd h8 f25 pl0 := by assumption
          have hB1 : zKp h8 pl0 pl0 := by first | assumption | exact zKp_rf
          have hB2 : zWtc h8 f25 pl0 f2 f3 f4 (v1 7).toInt f9 f10 f11 f12 f13 f14 (v8 8).toInt (v8 9).toInt (v8 10).toInt (v8 11).toInt f15 f16 f26 f27 (v0 8).toInt f25 pl0 f26 f27 (v0 8).toInt x1.toInt := by first | exact zWt_n (by omega) | exact zWt_y hI74_1 e_o82.symm e_pl82 e_plx_ e_f_41 (by decide) e_f_103 (by omega) (by omega) (by omega) (by omega) (by omega) (by omega) hX88_0 hX91_3 hX91_0 hX91_2 rfl rfl rfl rfl rfl rfl
          exact W.vret hx hb hr (fun t ht hW => ⟨⟨(fun i => ([(v0 8)] : List (Int32)).getD i 0), rfl, hpost, (fun _ => 0), (fun i => ([f27, f26] : List (Nat → Int32)).getD i (fun _ => 0)), (fun _ => (fun _ => 0)), (fun _ => (fun _ => none)), pl0, hf26, hB0, hB1, hB2, by rw [ht]; exact hP9, va_K.moved hW.alike hK, hD9⟩, hS.F ht⟩) hS.2.2 dX3_want_34
set_option maxHeartbeats 8000000 in
set_option maxRecDepth 100000 in
theorem sX3_want_1 (l : Launch) (dC : Nat → ClassId) (dI : Nat → Nat → Nat) (adK adV : Nat → Nat) (h0 : Nat) (h1 : Nat) (h27 : Nat) (h25 : Nat) (h3 : Nat) (h8 : Nat) (h14 : Nat) (h12 : Nat) (h9 : Nat) (h10 : Nat) (h11 : Nat) (h13 : Nat) (h26 : Nat) (h2 : Nat) (h4 : Nat) (h15 : Nat) (h16 : Nat) (h17 : Nat) (h28 : Nat) (h29 : Nat) (h5 : Nat) (h6 : Nat) (h7 : Nat) (k27 : ClassId) (k25 : ClassId) (k3 : ClassId) (k14 : ClassId) (k12 : ClassId) (k9 : ClassId) (k10 : ClassId) (k11 : ClassId) (k13 : ClassId) (k26 : ClassId) (k2 : ClassId) (k4 : ClassId) (k15 : ClassId) (k16 : ClassId) (pl0 : va_W) (sz : Nat) (v0 : Nat → Int32) (v1 : Nat → Int32) (f27 : Nat → Int32) (f25 : Nat → Option Nat) (f3 : Nat → Int32) (v8 : Nat → Int32) (f14 : Nat → Int32) (f12 : Nat → Int32) (f9 : Nat → Int32) (f10 : Nat → Int32) (f11 : Nat → Int32) (f13 : Nat → Int32) (f26 : Nat → Int32) (f2 : Nat → Int64) (f4 : Nat → Int32) (f15 : Nat → Int32) (f16 : Nat → Int32) (x1 : Int32) (hv0 : zR rg_Page v0) (hv1 : zR rg_Words400 v1) (hf3 : zA 0 399 f3) (hv8 : zR rg_Postings v8) (hf10 : zA 0 1250 f10) (hf13 : zA 0 832 f13) (hf26 : zA 0 399 f26) (hf4 : zA (-1) 399 f4) (hp0_ : zRd h8 f25 pl0) (hp1_ : 0 ≤ x1.toInt ∧ x1.toInt < (v1 7).toInt ∧ (f27 ((x1 : Int32)).toNatClampNeg).toInt = 0 ∧ (v0 8).toInt ≤ 399) : Met l yX3_want (zw yX3_want cX3_want 2 none) { frames := 3, cells := 1, slots := 9, locals := 62 } (zPc dC dI adK adV [.ref h0, .int x1] sz ([(h0, .inr (3, mX3 h1 h8 h17 h25 h26 h27 h28 h29 v0)), (h1, .inr (10, mX10 h2 h3 h4 h5 h6 h7 v1)), (h27, zi k27 400 f27), (h25, .inl (k25, 400, .inr (.inr (.inr (.inr f25))))), (h3, zi k3 400 f3), (h8, .inr (6, mX6 h9 h10 h11 h12 h13 h14 h15 h16 v8)), (h14, zi k14 400 f14), (h12, zi k12 400 f12), (h9, zi k9 1250 f9), (h10, zi k10 833 f10), (h11, zi k11 833 f11), (h13, zi k13 400 f13), (h26, zi k26 400 f26), (h2, .inl (k2, 400, .inr (.inl f2))), (h4, zi k4 400 f4), (h15, zi k15 400 f15), (h16, zi k16 400 f16)] ++ pl0) [(k27, .boolean), (k25, .object RX8), (k3, .int), (k14, .int), (k12, .int), (k9, .int), (k10, .int), (k11, .int), (k13, .int), (k26, .int), (k2, .long), (k4, .int), (k15, .int), (k16, .int)]) (va_Qv (fun (u : Nat → Int32) => (0 ≤ (u 0).toInt ∧ (u 0).toInt ≤ 400) ∧ ((v0 8).toInt ≤ (u 0).toInt) ∧ ((u 0).toInt ≤ (v0 8).toInt + 1) ∧ ((u 0).toInt = (v0 8).toInt + 1)) (fun (u : Nat → Int32) (t : State) => ∃ (ww : Nat → Int64) (aa : Nat → Nat → Int32) (bb : Nat → Nat → Int64) (qq : Nat → Nat → Option Nat) (pl1 : va_W), zA 0 399 (aa 1) ∧ (zRd h8 (qq 0) pl1) ∧ (zKp h8 pl0 pl1) ∧ (zWtc h8 f25 pl0 f2 f3 f4 (v1 7).toInt f9 f10 f11 f12 f13 f14 (v8 8).toInt (v8 9).toInt (v8 10).toInt (v8 11).toInt f15 f16 f26 f27 (v0 8).toInt (qq 0) pl1 (aa 1) (aa 0) (u 0).toInt x1.toInt) ∧ va_P (dC, dI) vwCl ([(h0, .inr (3, mX3 h1 h8 h17 h25 h26 h27 h28 h29 (upd v0 8 (u 0)))), (h1, .inr (10, mX10 h2 h3 h4 h5 h6 h7 v1)), (h27, zi k27 400 (aa 0)), (h25, .inl (k25, 400, .inr (.inr (.inr (.inr (qq 0)))))), (h3, zi k3 400 f3), (h8, .inr (6, mX6 h9 h10 h11 h12 h13 h14 h15 h16 v8)), (h14, zi k14 400 f14), (h12, zi k12 400 f12), (h9, zi k9 1250 f9), (h10, zi k10 833 f10), (h11, zi k11 833 f11), (h13, zi k13 400 f13), (h26, zi k26 400 (aa 1)), (h2, .inl (k2, 400, .inr (.inl f2))), (h4, zi k4 400 f4), (h15, zi k15 400 f15), (h16, zi k16 400 f16)] ++ pl1) t.heap ∧ va_K (dC, dI) vwCl [(k27, .boolean), (k25, .object RX8), (k3, .int), (k14, .int), (k12, .int), (k9, .int), (k10, .int), (k11, .int), (k13, .int), (k26, .int), (k2, .long), (k4, .int), (k15, .int), (k16, .int)] t ∧ va_D (va_A ([(h0, .inr (3, mX3 h1 h8 h17 h25 h26 h27 h28 h29 v0)), (h1, .inr (10, mX10 h2 h3 h4 h5 h6 h7 v1)), (h27, zi k27 400 f27), (h25, .inl (k25, 400, .inr (.inr (.inr (.inr f25))))), (h3, zi k3 400 f3), (h8, .inr (6, mX6 h9 h10 h11 h12 h13 h14 h15 h16 v8)), (h14, zi k14 400 f14), (h12, zi k12 400 f12), (h9, zi k9 1250 f9), (h10, zi k10 833 f10), (h11, zi k11 833 f11), (h13, zi k13 400 f13), (h26, zi k26 400 f26), (h2, .inl (k2, 400, .inr (.inl f2))), (h4, zi k4 400 f4), (h15, zi k15 400 f15), (h16, zi k16 400 f16)] ++ pl0) sz) ([(h0, .inr (3, mX3 h1 h8 h17 h25 h26 h27 h28 h29 (upd v0 8 (u 0)))), (h1, .inr (10, mX10 h2 h3 h4 h5 h6 h7 v1)), (h27, zi k27 400 (aa 0)), (h25, .inl (k25, 400, .inr (.inr (.inr (.inr (qq 0)))))), (h3, zi k3 400 f3), (h8, .inr (6, mX6 h9 h10 h11 h12 h13 h14 h15 h16 v8)), (h14, zi k14 400 f14), (h12, zi k12 400 f12), (h9, zi k9 1250 f9), (h10, zi k10 833 f10), (h11, zi k11 833 f11), (h13, zi k13 400 f13), (h26, zi k26 400 (aa 1)), (h2, .inl (k2, 400, .inr (.inl f2))), (h4, zi k4 400 f4), (h15, zi k15 400 f15), (h16, zi k16 400 f16)] ++ pl1)) (va_A ([(h0, .inr (3, mX3 h1 h8 h17 h25 h26 h27 h28 h29 v0)), (h1, .inr (10, mX10 h2 h3 h4 h5 h6 h7 v1)), (h27, zi k27 400 f27), (h25, .inl (k25, 400, .inr (.inr (.inr (.inr f25))))), (h3, zi k3 400 f3), (h8, .inr (6, mX6 h9 h10 h11 h12 h13 h14 h15 h16 v8)), (h14, zi k14 400 f14), (h12, zi k12 400 f12), (h9, zi k9 1250 f9), (h10, zi k10 833 f10), (h11, zi k11 833 f11), (h13, zi k13 400 f13), (h26, zi k26 400 f26), (h2, .inl (k2, 400, .inr (.inl f2))), (h4, zi k4 400 f4), (h15, zi k15 400 f15), (h16, zi k16 400 f16)] ++ pl0) sz)) 1 9 (va_A ([(h0, .inr (3, mX3 h1 h8 h17 h25 h26 h27 h28 h29 v0)), (h1, .inr (10, mX10 h2 h3 h4 h5 h6 h7 v1)), (h27, zi k27 400 f27), (h25, .inl (k25, 400, .inr (.inr (.inr (.inr f25))))), (h3, zi k3 400 f3), (h8, .inr (6, mX6 h9 h10 h11 h12 h13 h14 h15 h16 v8)), (h14, zi k14 400 f14), (h12, zi k12 400 f12), (h9, zi k9 1250 f9), (h10, zi k10 833 f10), (h11, zi k11 833 f11), (h13, zi k13 400 f13), (h26, zi k26 400 f26), (h2, .inl (k2, 400, .inr (.inl f2))), (h4, zi k4 400 f4), (h15, zi k15 400 f15), (h16, zi k16 400 f16)] ++ pl0) sz) := by
  refine Met.ofW (cc := cX3_want) (maxL := 2) (ret := none) (by decide) rfl ?_
  intro p e s m args below meth c s₁ B hml hv
  obtain ⟨rfl, hsz, hP, hK, hD0, hE, hZ⟩ := hv
  have hx := B.exec
  have hb := B.bytes
  have hr := B.returns
  have hG : ∀ w ∈ zG, w.before _ s = true := fun w h => atoms_spec (ws := (zw yX3_want cX3_want 2 none)) B.pre w (List.mem_cons_of_mem _ h)
  have hown : s.vm.findClass RX3 = some m.cls := findClass_of_methodNamed B.named
  have hlocks := B.notSynchronized

  subst hsz
  have hD := hD0.self (sz := s.heap.size)
  generalize hAe : va_A ([(h0, .inr (3, mX3 h1 h8 h17 h25 h26 h27 h28 h29 v0)), (h1, .inr (10, mX10 h2 h3 h4 h5 h6 h7 v1)), (h27, zi k27 400 f27), (h25, .inl (k25, 400, .inr (.inr (.inr (.inr f25))))), (h3, zi k3 400 f3), (h8, .inr (6, mX6 h9 h10 h11 h12 h13 h14 h15 h16 v8)), (h14, zi k14 400 f14), (h12, zi k12 400 f12), (h9, zi k9 1250 f9), (h10, zi k10 833 f10), (h11, zi k11 833 f11), (h13, zi k13 400 f13), (h26, zi k26 400 f26), (h2, .inl (k2, 400, .inr (.inl f2))), (h4, zi k4 400 f4), (h15, zi k15 400 f15), (h16, zi k16 400 f16)] ++ pl0) s.heap.size = A at hD hZ ⊢
  have hA : ∀ q : Nat, s.heap.size ≤ q → A q := fun q h => by rw [← hAe]; exact Or.inr h
  have hS : va_S A s.heap s.heap [] := va_S.rf
  have hl := lv_entry ([.ref h0, .int x1]) (n := 2) (Nat.le_of_ble_eq_true rfl)
  rw [lg_entry_eq]
  generalize (lg_sl ([.ref h0, .int x1]) ++ List.replicate (2 - (lg_sl ([.ref h0, .int x1])).length) Slot.unset).toArray = ls at hl ⊢
  have hl : lv_has ls 2 [(0, .ref h0), (1, .int x1)] := hl
  have b_ : 0 ≤ (v1 7).toInt ∧ (v1 7).toInt ≤ 400 := hv1 7
  have b_ : 0 ≤ (v0 8).toInt ∧ (v0 8).toInt ≤ 400 := hv0 8
  refine lv_iload_n hx hb dX3_want_0 rfl (lv_at hl 1 rfl) ?_
  have b_ : -2147483648 ≤ x1.toInt ∧ x1.toInt ≤ 2147483647 := ⟨zlo _, zhi _⟩
  refine lv_if_lt (tgt := 34) hx hb dX3_want_1 (by decide) (fun c_ => ?_) (fun c_ => ?_)
  · skip
    have b_ := zT_lt rfl zk_0 c_
    refine W.widen (k := 1) (n := 9) (by decide) (by decide) ?_
    have hpost : (0 ≤ (v0 8).toInt ∧ (v0 8).toInt ≤ 400) ∧ ((v0 8).toInt ≤ (v0 8).toInt) ∧ ((v0 8).toInt ≤ (v0 8).toInt + 1) ∧ ((v0 8).toInt = (v0 8).toInt + 1) := ⟨(by first | with_reducible assumption | exact ⟨by omega, by omega⟩), by omega, by omega, by omega⟩
    have hP9 : va_P (dC, dI) vwCl ([(h0, .inr (3, mX3 h1 h8 h17 h25 h26 h27 h28 h29 (upd v0 8 (v0 8)))), (h1, .inr (10, mX10 h2 h3 h4 h5 h6 h7 v1)), (h27, zi k27 400 f27), (h25, .inl (k25, 400, .inr (.inr (.inr (.inr f25))))), (h3, zi k3 400 f3), (h8, .inr (6, mX6 h9 h10 h11 h12 h13 h14 h15 h16 v8)), (h14, zi k14 400 f14), (h12, zi k12 400 f12), (h9, zi k9 1250 f9), (h10, zi k10 833 f10), (h11, zi k11 833 f11), (h13, zi k13 400 f13), (h26, zi k26 400 f26), (h2, .inl (k2, 400, .inr (.inl f2))), (h4, zi k4 400 f4), (h15, zi k15 400 f15), (h16, zi k16 400 f16)] ++ pl0) s.heap := hP
    have hD9 : va_D A ([(h0, .inr (3, mX3 h1 h8 h17 h25 h26 h27 h28 h29 (upd v0 8 (v0 8)))), (h1, .inr (10, mX10 h2 h3 h4 h5 h6 h7 v1)), (h27, zi k27 400 f27), (h25, .inl (k25, 400, .inr (.inr (.inr (.inr f25))))), (h3, zi k3 400 f3), (h8, .inr (6, mX6 h9 h10 h11 h12 h13 h14 h15 h16 v8)), (h14, zi k14 400 f14), (h12, zi k12 400 f12), (h9, zi k9 1250 f9), (h10, zi k10 833 f10), (h11, zi k11 833 f11), (h13, zi k13 400 f13), (h26, zi k26 400 f26), (h2, .inl (k2, 400, .inr (.inl f2))), (h4, zi k4 400 f4), (h15, zi k15 400 f15), (h16, zi k16 400 f16)] ++ pl0) := hD
    have hB0 : zRd h8 f25 pl0 := by assumption
    have hB1 : zKp h8 pl0 pl0 := by first | assumption | exact zKp_rf
    have hB2 : zWtc h8 f25 pl0 f2 f3 f4 (v1 7).toInt f9 f10 f11 f12 f13 f14 (v8 8).toInt (v8 9).toInt (v8 10).toInt (v8 11).toInt f15 f16 f26 f27 (v0 8).toInt f25 pl0 f26 f27 (v0 8).toInt x1.toInt := by first | exact zWt_n (by omega) | exact zWt_y hI74_1 e_o82.symm e_pl82 e_plx_ e_f_41 (by decide) e_f_103 (by omega) (by omega) (by omega) (by omega) (by omega) (by omega) hX88_0 hX91_3 hX91_0 hX91_2 rfl rfl rfl rfl rfl rfl
    exact W.vret hx hb hr (fun t ht hW => ⟨⟨(fun i => ([(v0 8)] : List (Int32)).getD i 0), rfl, hpost, (fun _ => 0), (fun i => ([f27, f26] : List (Nat → Int32)).getD i (fun _ => 0)), (fun _ => (fun _ => 0)), (fun i => ([f25] : List (Nat → Option Nat)).getD i (fun _ => none)), pl0, hf26, hB0, hB1, hB2, by rw [ht]; exact hP9, va_K.moved hW.alike hK, hD9⟩, hS.F ht⟩) hS.2.2 dX3_want_34
  · skip
    have b_ := zF_lt rfl zk_0 c_
    refine lv_iload_n hx hb dX3_want_4 rfl (lv_at hl 1 rfl) ?_
    refine lv_aload_n hx hb dX3_want_5 rfl (lv_at hl 0 rfl) ?_
    refine va_get (D := (dC, dI)) (ci := 3) (v := .ref h1) (C := RX3) (T := TX3) (N := 10) hx hb hG zuX3 hown hK hP 0 rfl rfl 0 (by decide) (hG _ zv473) (fun _ h9 => h9) rfl dX3_want_6 ?_
    have hPc := hP.sub (ws' := [(h1, .inr (10, mX10 h2 h3 h4 h5 h6 h7 v1))]) [1] rfl
    have hDc := hD.sub (ws' := [(h1, .inr (10, mX10 h2 h3 h4 h5 h6 h7 v1))]) [1] (by decide) rfl
    have hKc := hK.sub (tys' := []) [] rfl
    have hFc := va_free (wc := [(h1, .inr (10, mX10 h2 h3 h4 h5 h6 h7 v1))]) hD hS hA [1] rfl
    refine va_calli (va_runV (As := []) (rest := [.int x1]) ⟨hx, hb, hml, hown, hG⟩ (sX10_size_0 l dC dI adK adV h1 h2 h3 h4 h5 h6 h7 s.heap.size v1 hv1) (cwV 0 hG (zgV zv1207 zv627 zv628 zv131 zv629) rfl rfl rfl (by decide +kernel) ⟨Nat.le_of_ble_eq_true rfl, Nat.le_of_ble_eq_true rfl⟩) ⟨zPc_blind, va_recv hKc hPc (ci := 10) (q0 := 0) rfl rfl, zPc_pre hPc hKc hDc hE hS hFc hZ⟩ rfl rfl hl.1 rfl (lv_room (Nat.le_of_ble_eq_true rfl)) dX3_want_9 ⟨Nat.le_of_ble_eq_true rfl, Nat.le_of_ble_eq_true rfl⟩) hS (fun q _ h => hFc q h) hFc (fun r9_ u9_ t H1 locs ht hvm hw hB hz1 hk1 hS => ?_)
    replace hw : (0 ≤ r9_.toInt ∧ r9_.toInt ≤ 400) ∧ (r9_.toInt = (v1 7).toInt) ∧ (r9_.toInt = (v1 7).toInt) := hw
    obtain ⟨b_, hX9_0, hX9_1⟩ := hw
    obtain ⟨w9_, a9_, b9_, hP1, hK1, hD1⟩ := hB
    rw [ht] at hP1
    obtain ⟨hP, hD⟩ := va_joinQ (wr := [(h0, .inr (3, mX3 h1 h8 h17 h25 h26 h27 h28 h29 v0)), (h27, zi k27 400 f27), (h25, .inl (k25, 400, .inr (.inr (.inr (.inr f25))))), (h3, zi k3 400 f3), (h8, .inr (6, mX6 h9 h10 h11 h12 h13 h14 h15 h16 v8)), (h14, zi k14 400 f14), (h12, zi k12 400 f12), (h9, zi k9 1250 f9), (h10, zi k10 833 f10), (h11, zi k11 833 f11), (h13, zi k13 400 f13), (h26, zi k26 400 f26), (h2, .inl (k2, 400, .inr (.inl f2))), (h4, zi k4 400 f4), (h15, zi k15 400 f15), (h16, zi k16 400 f16)]) (w1 := [(h1, .inr (10, mX10 h2 h3 h4 h5 h6 h7 v1))]) hP hD [1] [0, 2, 3, 4, 5, 6, 7, 8, 9, 10, 11, 12, 13, 14, 15, 16] rfl rfl (by decide) (by decide) hk1 hFc hP1 hD1
    have hP : va_P (dC, dI) vwCl ([(h0, .inr (3, mX3 h1 h8 h17 h25 h26 h27 h28 h29 v0)), (h1, .inr (10, mX10 h2 h3 h4 h5 h6 h7 v1)), (h27, zi k27 400 f27), (h25, .inl (k25, 400, .inr (.inr (.inr (.inr f25))))), (h3, zi k3 400 f3), (h8, .inr (6, mX6 h9 h10 h11 h12 h13 h14 h15 h16 v8)), (h14, zi k14 400 f14), (h12, zi k12 400 f12), (h9, zi k9 1250 f9), (h10, zi k10 833 f10), (h11, zi k11 833 f11), (h13, zi k13 400 f13), (h26, zi k26 400 f26), (h2, .inl (k2, 400, .inr (.inl f2))), (h4, zi k4 400 f4), (h15, zi k15 400 f15), (h16, zi k16 400 f16)] ++ pl0) H1 := hP.part [0, 16, 1, 2, 3, 4, 5, 6, 7, 8, 9, 10, 11, 12, 13, 14, 15] rfl
    have hD : va_D A ([(h0, .inr (3, mX3 h1 h8 h17 h25 h26 h27 h28 h29 v0)), (h1, .inr (10, mX10 h2 h3 h4 h5 h6 h7 v1)), (h27, zi k27 400 f27), (h25, .inl (k25, 400, .inr (.inr (.inr (.inr f25))))), (h3, zi k3 400 f3), (h8, .inr (6, mX6 h9 h10 h11 h12 h13 h14 h15 h16 v8)), (h14, zi k14 400 f14), (h12, zi k12 400 f12), (h9, zi k9 1250 f9), (h10, zi k10 833 f10), (h11, zi k11 833 f11), (h13, zi k13 400 f13), (h26, zi k26 400 f26), (h2, .inl (k2, 400, .inr (.inl f2))), (h4, zi k4 400 f4), (h15, zi k15 400 f15), (h16, zi k16 400 f16)] ++ pl0) := hD.part [0, 16, 1, 2, 3, 4, 5, 6, 7, 8, 9, 10, 11, 12, 13, 14, 15] (by decide) rfl
    generalize H1 = H at hP hS ⊢
    clear hz1
    refine lv_icmp_ge (tgt := 34) hx hb dX3_want_12 (by decide) (fun c_ => ?_) (fun c_ => ?_)
    · skip
      have b_ := zT_ge rfl rfl c_
      refine W.widen (k := 1) (n := 9) (by decide) (by decide) ?_
      have hpost : (0 ≤ (v0 8).toInt ∧ (v0 8).toInt ≤ 400) ∧ ((v0 8).toInt ≤ (v0 8).toInt) ∧ ((v0 8).toInt ≤ (v0 8).toInt + 1) ∧ ((v0 8).toInt = (v0 8).toInt + 1) := ⟨(by first | with_reducible assumption | exact ⟨by omega, by omega⟩), by omega, by omega, by omega⟩
      have hP9 : va_P (dC, dI) vwCl ([(h0, .inr (3, mX3 h1 h8 h17 h25 h26 h27 h28 h29 (upd v0 8 (v0 8)))), (h1, .inr (10, mX10 h2 h3 h4 h5 h6 h7 v1)), (h27, zi k27 400 f27), (h25, .inl (k25, 400, .inr (.inr (.inr (.inr f25))))), (h3, zi k3 400 f3), (h8, .inr (6, mX6 h9 h10 h11 h12 h13 h14 h15 h16 v8)), (h14, zi k14 400 f14), (h12, zi k12 400 f12), (h9, zi k9 1250 f9), (h10, zi k10 833 f10), (h11, zi k11 833 f11), (h13, zi k13 400 f13), (h26, zi k26 400 f26), (h2, .inl (k2, 400, .inr (.inl f2))), (h4, zi k4 400 f4), (h15, zi k15 400 f15), (h16, zi k16 400 f16)] ++ pl0) H := hP
      have hD9 : va_D A ([(h0, .inr (3, mX3 h1 h8 h17 h25 h26 h27 h28 h29 (upd v0 8 (v0 8)))), (h1, .inr (10, mX10 h2 h3 h4 h5 h6 h7 v1)), (h27, zi k27 400 f27), (h25, .inl (k25, 400, .inr (.inr (.inr (.inr f25))))), (h3, zi k3 400 f3), (h8, .inr (6, mX6 h9 h10 h11 h12 h13 h14 h15 h16 v8)), (h14, zi k14 400 f14), (h12, zi k12 400 f12), (h9, zi k9 1250 f9), (h10, zi k10 833 f10), (h11, zi k11 833 f11), (h13, zi k13 400 f13), (h26, zi k26 400 f26), (h2, .inl (k2, 400, .inr (.inl f2))), (h4, zi k4 400 f4), (h15, zi k15 400 f15), (h16, zi k16 400 f16)] ++ pl0) := hD
      have hB0 : zRd h8 f25 pl0 := by assumption
      have hB1 : zKp h8 pl0 pl0 := by first | assumption | exact zKp_rf
      have hB2 : zWtc h8 f25 pl0 f2 f3 f4 (v1 7).toInt f9 f10 f11 f12 f13 f14 (v8 8).toInt (v8 9).toInt (v8 10).toInt (v8 11).toInt f15 f16 f26 f27 (v0 8).toInt f25 pl0 f26 f27 (v0 8).toInt x1.toInt := by first | exact zWt_n (by omega) | exact zWt_y hI74_1 e_o82.symm e_pl82 e_plx_ e_f_41 (by decide) e_f_103 (by omega) (by omega) (by omega) (by omega) (by omega) (by omega) hX88_0 hX91_3 hX91_0 hX91_2 rfl rfl rfl rfl rfl rfl
      exact W.vret hx hb hr (fun t ht hW => ⟨⟨(fun i => ([(v0 8)] : List (Int32)).getD i 0), rfl, hpost, (fun _ => 0), (fun i => ([f27, f26] : List (Nat → Int32)).getD i (fun _ => 0)), (fun _ => (fun _ => 0)), (fun i => ([f25] : List (Nat → Option Nat)).getD i (fun _ => none)), pl0, hf26, hB0, hB1, hB2, by rw [ht]; exact hP9, va_K.moved hW.alike hK, hD9⟩, hS.F ht⟩) hS.2.2 dX3_want_34
    · skip
      have b_ := zF_ge rfl rfl c_
      refine lv_aload_n hx hb dX3_want_15 rfl (lv_at hl 0 rfl) ?_
      refine va_get (D := (dC, dI)) (ci := 3) (v := .ref h27) (C := RX3) (T := TX3) (N := 10) hx hb hG zuX3 hown hK hP 0 rfl rfl 5 (by decide) (hG _ zv478) (fun _ h9 => h9) rfl dX3_want_16 ?_
      refine lv_iload_n hx hb dX3_want_19 rfl (lv_at hl 1 rfl) ?_
      refine va_zald hx hb hK hP 2 0 rfl rfl (zin_lit ⟨by omega, by omega⟩) dX3_want_20 ?_
      refine lv_topi (fun z20 e_z20 => ?_)
      have b_ : (f27 (x1 : Int32).toNatClampNeg).toInt = z20.toInt := congrArg Int32.toInt e_z20.symm
      have b_ : -2147483648 ≤ z20.toInt ∧ z20.toInt ≤ 2147483647 := ⟨zlo _, zhi _⟩
      refine lv_if_ne (tgt := 34) hx hb dX3_want_21 (by decide) (fun c_ => ?_) (fun c_ => ?_)
      · skip
        have b_ := zT_ne rfl zk_0 c_
        refine W.widen (k := 1) (n := 9) (by decide) (by decide) ?_
        have hpost : (0 ≤ (v0 8).toInt ∧ (v0 8).toInt ≤ 400) ∧ ((v0 8).toInt ≤ (v0 8).toInt) ∧ ((v0 8).toInt ≤ (v0 8).toInt + 1) ∧ ((v0 8).toInt = (v0 8).toInt + 1) := ⟨(by first | with_reducible assumption | exact ⟨by omega, by omega⟩), by omega, by omega, by omega⟩
        have hP9 : va_P (dC, dI) vwCl ([(h0, .inr (3, mX3 h1 h8 h17 h25 h26 h27 h28 h29 (upd v0 8 (v0 8)))), (h1, .inr (10, mX10 h2 h3 h4 h5 h6 h7 v1)), (h27, zi k27 400 f27), (h25, .inl (k25, 400, .inr (.inr (.inr (.inr f25))))), (h3, zi k3 400 f3), (h8, .inr (6, mX6 h9 h10 h11 h12 h13 h14 h15 h16 v8)), (h14, zi k14 400 f14), (h12, zi k12 400 f12), (h9, zi k9 1250 f9), (h10, zi k10 833 f10), (h11, zi k11 833 f11), (h13, zi k13 400 f13), (h26, zi k26 400 f26), (h2, .inl (k2, 400, .inr (.inl f2))), (h4, zi k4 400 f4), (h15, zi k15 400 f15), (h16, zi k16 400 f16)] ++ pl0) H := hP
        have hD9 : va_D A ([(h0, .inr (3, mX3 h1 h8 h17 h25 h26 h27 h28 h29 (upd v0 8 (v0 8)))), (h1, .inr (10, mX10 h2 h3 h4 h5 h6 h7 v1)), (h27, zi k27 400 f27), (h25, .inl (k25, 400, .inr (.inr (.inr (.inr f25))))), (h3, zi k3 400 f3), (h8, .inr (6, mX6 h9 h10 h11 h12 h13 h14 h15 h16 v8)), (h14, zi k14 400 f14), (h12, zi k12 400 f12), (h9, zi k9 1250 f9), (h10, zi k10 833 f10), (h11, zi k11 833 f11), (h13, zi k13 400 f13), (h26, zi k26 400 f26), (h2, .inl (k2, 400, .inr (.inl f2))), (h4, zi k4 400 f4), (h15, zi k15 400 f15), (h16, zi k16 400 f16)] ++ pl0) := hD
        have hB0 : zRd h8 f25 pl0 := by assumption
        have hB1 : zKp h8 pl0 pl0 := by first | assumption | exact zKp_rf
        have hB2 : zWtc h8 f25 pl0 f2 f3 f4 (v1 7).toInt f9 f10 f11 f12 f13 f14 (v8 8).toInt (v8 9).toInt (v8 10).toInt (v8 11).toInt f15 f16 f26 f27 (v0 8).toInt f25 pl0 f26 f27 (v0 8).toInt x1.toInt := by first | exact zWt_n (by omega) | exact zWt_y hI74_1 e_o82.symm e_pl82 e_plx_ e_f_41 (by decide) e_f_103 (by omega) (by omega) (by omega) (by omega) (by omega) (by omega) hX88_0 hX91_3 hX91_0 hX91_2 rfl rfl rfl rfl rfl rfl
        exact W.vret hx hb hr (fun t ht hW => ⟨⟨(fun i => ([(v0 8)] : List (Int32)).getD i 0), rfl, hpost, (fun _ => 0), (fun i => ([f27, f26] : List (Nat → Int32)).getD i (fun _ => 0)), (fun _ => (fun _ => 0)), (fun i => ([f25] : List (Nat → Option Nat)).getD i (fun _ => none)), pl0, hf26, hB0, hB1, hB2, by rw [ht]; exact hP9, va_K.moved hW.alike hK, hD9⟩, hS.F ht⟩) hS.2.2 dX3_want_34
      · skip
        have b_ := zF_ne rfl zk_0 c_
        refine lv_aload_n hx hb dX3_want_24 rfl (lv_at hl 0 rfl) ?_
        refine va_get (D := (dC, dI)) (ci := 3) (v := .int (v0 8)) (C := RX3) (T := TX3) (N := 10) hx hb hG zuX3 hown hK hP 0 rfl rfl 8 (by decide) (hG _ zv481) (fun _ h9 => h9) rfl dX3_want_25 ?_
        refine lv_sipush (v := 400) hx hb dX3_want_28 (by decide) ?_
        refine lv_icmp_lt (tgt := 35) hx hb dX3_want_31 (by decide) (fun c_ => ?_) (fun c_ => ?_)
        · skip
          have b_ := zT_lt rfl zk_400 c_
          refine lv_aload_n hx hb dX3_want_35 rfl (lv_at hl 0 rfl) ?_
          refine va_get (D := (dC, dI)) (ci := 3) (v := .ref h27) (C := RX3) (T := TX3) (N := 10) hx hb hG zuX3 hown hK hP 0 rfl rfl 5 (by decide) (hG _ zv478) (fun _ h9 => h9) rfl dX3_want_36 ?_
          refine lv_iload_n hx hb dX3_want_39 rfl (lv_at hl 1 rfl) ?_
          refine lv_iconst (v := 1) hx hb dX3_want_40 (by decide) ?_
          refine va_zast hx hb hK hP hD hS 2 0 rfl rfl (zin_lit ⟨by omega, by omega⟩) dX3_want_41 (fun H locs hP hD hS => ?_)
          obtain ⟨f_41, e_f_41⟩ : ∃ z : Nat → Int32, z = upd f27 (x1 : Int32).toNatClampNeg (vp_nar .boolean 1) := ⟨_, rfl⟩
          have hP : va_P (dC, dI) vwCl ([(h0, .inr (3, mX3 h1 h8 h17 h25 h26 h27 h28 h29 v0)), (h1, .inr (10, mX10 h2 h3 h4 h5 h6 h7 v1)), (h27, zi k27 400 f_41), (h25, .inl (k25, 400, .inr (.inr (.inr (.inr f25))))), (h3, zi k3 400 f3), (h8, .inr (6, mX6 h9 h10 h11 h12 h13 h14 h15 h16 v8)), (h14, zi k14 400 f14), (h12, zi k12 400 f12), (h9, zi k9 1250 f9), (h10, zi k10 833 f10), (h11, zi k11 833 f11), (h13, zi k13 400 f13), (h26, zi k26 400 f26), (h2, .inl (k2, 400, .inr (.inl f2))), (h4, zi k4 400 f4), (h15, zi k15 400 f15), (h16, zi k16 400 f16)] ++ pl0) H := by rw [e_f_41]; exact hP
          have hD : va_D A ([(h0, .inr (3, mX3 h1 h8 h17 h25 h26 h27 h28 h29 v0)), (h1, .inr (10, mX10 h2 h3 h4 h5 h6 h7 v1)), (h27, zi k27 400 f_41), (h25, .inl (k25, 400, .inr (.inr (.inr (.inr f25))))), (h3, zi k3 400 f3), (h8, .inr (6, mX6 h9 h10 h11 h12 h13 h14 h15 h16 v8)), (h14, zi k14 400 f14), (h12, zi k12 400 f12), (h9, zi k9 1250 f9), (h10, zi k10 833 f10), (h11, zi k11 833 f11), (h13, zi k13 400 f13), (h26, zi k26 400 f26), (h2, .inl (k2, 400, .inr (.inl f2))), (h4, zi k4 400 f4), (h15, zi k15 400 f15), (h16, zi k16 400 f16)] ++ pl0) := by rw [e_f_41]; exact hD
          refine lv_aload_n hx hb dX3_want_42 rfl (lv_at hl 0 rfl) ?_
          refine va_get (D := (dC, dI)) (ci := 3) (v := .ref h25) (C := RX3) (T := TX3) (N := 10) hx hb hG zuX3 hown hK hP 0 rfl rfl 3 (by decide) (hG _ zv476) (fun _ h9 => h9) rfl dX3_want_43 ?_
          refine lv_aload_n hx hb dX3_want_46 rfl (lv_at hl 0 rfl) ?_
          refine va_get (D := (dC, dI)) (ci := 3) (v := .int (v0 8)) (C := RX3) (T := TX3) (N := 10) hx hb hG zuX3 hown hK hP 0 rfl rfl 8 (by decide) (hG _ zv481) (fun _ h9 => h9) rfl dX3_want_47 ?_
          refine va_aldq hx hb hK hP 3 1 rfl rfl (zin_lit ⟨by omega, by omega⟩) dX3_want_50 ?_
          refine lv_topq (fun o50 e_o50 => ?_)
          rcases o50 with _ | a50_
          · skip
            refine W.eq (g2 := F0 m 51 ls [.null]) rfl ?_
            refine zcutW (fun H locs ls u74_ w74_ a74_ b74_ => ∃ (q74_ : Nat → Nat → Option Nat) (pl74 : va_W), va_P (dC, dI) vwCl ([(h0, .inr (3, mX3 h1 h8 h17 h25 h26 h27 h28 h29 v0)), (h1, .inr (10, mX10 h2 h3 h4 h5 h6 h7 v1)), (h27, zi k27 400 f_41), (h25, .inl (k25, 400, .inr (.inr (.inr (.inr (q74_ 0)))))), (h3, zi k3 400 f3), (h8, .inr (6, mX6 h9 h10 h11 h12 h13 h14 h15 h16 v8)), (h14, zi k14 400 f14), (h12, zi k12 400 f12), (h9, zi k9 1250 f9), (h10, zi k10 833 f10), (h11, zi k11 833 f11), (h13, zi k13 400 f13), (h26, zi k26 400 f26), (h2, .inl (k2, 400, .inr (.inl f2))), (h4, zi k4 400 f4), (h15, zi k15 400 f15), (h16, zi k16 400 f16)] ++ pl74) H ∧ va_D A ([(h0, .inr (3, mX3 h1 h8 h17 h25 h26 h27 h28 h29 v0)), (h1, .inr (10, mX10 h2 h3 h4 h5 h6 h7 v1)), (h27, zi k27 400 f_41), (h25, .inl (k25, 400, .inr (.inr (.inr (.inr (q74_ 0)))))), (h3, zi k3 400 f3), (h8, .inr (6, mX6 h9 h10 h11 h12 h13 h14 h15 h16 v8)), (h14, zi k14 400 f14), (h12, zi k12 400 f12), (h9, zi k9 1250 f9), (h10, zi k10 833 f10), (h11, zi k11 833 f11), (h13, zi k13 400 f13), (h26, zi k26 400 f26), (h2, .inl (k2, 400, .inr (.inl f2))), (h4, zi k4 400 f4), (h15, zi k15 400 f15), (h16, zi k16 400 f16)] ++ pl74) ∧ va_S A s.heap H locs ∧ lv_has ls 2 [(0, .ref h0), (1, .int x1)] ∧ ((q74_ 0) (((v0 8) : Int32)).toNatClampNeg ≠ none) ∧ (zWx h8 f25 pl0 (q74_ 0) pl74 (((v0 8) : Int32)).toNatClampNeg) ∧ (zRd h8 (q74_ 0) pl74) ∧ (zKp h8 pl0 pl74)) (fun ls u74_ w74_ => F0 m 74 ls []) 1 9 ?_ (fun hJ74 => ?_)
            · skip
              intro H locs ls u74_ w74_ a74_ b74_ hc
              obtain ⟨q74_, pl74, hP, hD, hS, hl, hI74_0, hI74_1, hI74_2, hI74_3⟩ := hc
              refine lv_aload_n hx hb dX3_want_74 rfl (lv_at hl 0 rfl) ?_
              refine va_get (D := (dC, dI)) (ci := 3) (v := .ref h25) (C := RX3) (T := TX3) (N := 10) hx hb hG zuX3 hown hK hP 0 rfl rfl 3 (by decide) (hG _ zv476) (fun _ h9 => h9) rfl dX3_want_75 ?_
              refine lv_aload_n hx hb dX3_want_78 rfl (lv_at hl 0 rfl) ?_
              refine va_get (D := (dC, dI)) (ci := 3) (v := .int (v0 8)) (C := RX3) (T := TX3) (N := 10) hx hb hG zuX3 hown hK hP 0 rfl rfl 8 (by decide) (hG _ zv481) (fun _ h9 => h9) rfl dX3_want_79 ?_
              refine va_aldq hx hb hK hP 3 1 rfl rfl (zin_lit ⟨by omega, by omega⟩) dX3_want_82 ?_
              refine lv_topq (fun o82 e_o82 => ?_)
              rcases o82 with _ | a82_
              · skip
                exact absurd e_o82.symm (by assumption)
              · skip
                refine W.eq (g2 := F0 m 83 ls [.ref a82_]) rfl ?_
                have hnn_ : (q74_ 0) ((v0 8) : Int32).toNatClampNeg ≠ none := fun h => by rw [h] at e_o82; cases e_o82
                refine lv_aload_n hx hb dX3_want_83 rfl (lv_at hl 0 rfl) ?_
                refine va_get (D := (dC, dI)) (ci := 3) (v := .ref h1) (C := RX3) (T := TX3) (N := 10) hx hb hG zuX3 hown hK hP 0 rfl rfl 0 (by decide) (hG _ zv473) (fun _ h9 => h9) rfl dX3_want_84 ?_
                refine lv_iload_n hx hb dX3_want_87 rfl (lv_at hl 1 rfl) ?_
                have hPc := hP.sub (ws' := [(h1, .inr (10, mX10 h2 h3 h4 h5 h6 h7 v1)), (h3, zi k3 400 f3)]) [1, 4] rfl
                have hDc := hD.sub (ws' := [(h1, .inr (10, mX10 h2 h3 h4 h5 h6 h7 v1)), (h3, zi k3 400 f3)]) [1, 4] (by decide) rfl
                have hKc := hK.sub (tys' := [(k3, .int)]) [2] rfl
                have hFc := va_free (wc := [(h1, .inr (10, mX10 h2 h3 h4 h5 h6 h7 v1)), (h3, zi k3 400 f3)]) hD hS hA [1, 4] rfl
                refine va_calli (va_runV (As := [.int x1]) (rest := [.ref a82_]) ⟨hx, hb, hml, hown, hG⟩ (sX10_idAt_0 l dC dI adK adV h1 h3 h2 h4 h5 h6 h7 k3 H.size v1 f3 x1 hv1 hf3) (cwV 1 hG (zgV zv1209 zv753 zv754 zv131 zv755) rfl rfl rfl (by decide +kernel) ⟨Nat.le_of_ble_eq_true rfl, Nat.le_of_ble_eq_true rfl⟩) ⟨zPc_blind, va_recv hKc hPc (ci := 10) (q0 := 0) rfl rfl, zPc_pre hPc hKc hDc hE hS hFc hZ⟩ rfl rfl hl.1 rfl (lv_room (Nat.le_of_ble_eq_true rfl)) dX3_want_88 ⟨Nat.le_of_ble_eq_true rfl, Nat.le_of_ble_eq_true rfl⟩) hS (fun q _ h => hFc q h) hFc (fun r88_ u88_ t H1 locs ht hvm hw hB hz1 hk1 hS => ?_)
                replace hw : ((-1) ≤ r88_.toInt ∧ r88_.toInt ≤ 399) ∧ (0 ≤ x1.toInt ∧ x1.toInt < (v1 7).toInt → r88_.toInt = (f3 ((x1 : Int32)).toNatClampNeg).toInt) ∧ (x1.toInt < 0 → r88_.toInt = -1) := hw
                obtain ⟨b_, hX88_0, hX88_1⟩ := hw
                obtain ⟨w88_, a88_, b88_, hP1, hK1, hD1⟩ := hB
                rw [ht] at hP1
                obtain ⟨hP, hD⟩ := va_joinQ (wr := [(h0, .inr (3, mX3 h1 h8 h17 h25 h26 h27 h28 h29 v0)), (h27, zi k27 400 f_41), (h25, .inl (k25, 400, .inr (.inr (.inr (.inr (q74_ 0)))))), (h8, .inr (6, mX6 h9 h10 h11 h12 h13 h14 h15 h16 v8)), (h14, zi k14 400 f14), (h12, zi k12 400 f12), (h9, zi k9 1250 f9), (h10, zi k10 833 f10), (h11, zi k11 833 f11), (h13, zi k13 400 f13), (h26, zi k26 400 f26), (h2, .inl (k2, 400, .inr (.inl f2))), (h4, zi k4 400 f4), (h15, zi k15 400 f15), (h16, zi k16 400 f16)]) (w1 := [(h1, .inr (10, mX10 h2 h3 h4 h5 h6 h7 v1)), (h3, zi k3 400 f3)]) hP hD [1, 4] [0, 2, 3, 5, 6, 7, 8, 9, 10, 11, 12, 13, 14, 15, 16] rfl rfl (by decide) (by decide) hk1 hFc hP1 hD1
                have hP : va_P (dC, dI) vwCl ([(h0, .inr (3, mX3 h1 h8 h17 h25 h26 h27 h28 h29 v0)), (h1, .inr (10, mX10 h2 h3 h4 h5 h6 h7 v1)), (h27, zi k27 400 f_41), (h25, .inl (k25, 400, .inr (.inr (.inr (.inr (q74_ 0)))))), (h3, zi k3 400 f3), (h8, .inr (6, mX6 h9 h10 h11 h12 h13 h14 h15 h16 v8)), (h14, zi k14 400 f14), (h12, zi k12 400 f12), (h9, zi k9 1250 f9), (h10, zi k10 833 f10), (h11, zi k11 833 f11), (h13, zi k13 400 f13), (h26, zi k26 400 f26), (h2, .inl (k2, 400, .inr (.inl f2))), (h4, zi k4 400 f4), (h15, zi k15 400 f15), (h16, zi k16 400 f16)] ++ pl74) H1 := hP.part [0, 15, 1, 2, 16, 3, 4, 5, 6, 7, 8, 9, 10, 11, 12, 13, 14] rfl
                have hD : va_D A ([(h0, .inr (3, mX3 h1 h8 h17 h25 h26 h27 h28 h29 v0)), (h1, .inr (10, mX10 h2 h3 h4 h5 h6 h7 v1)), (h27, zi k27 400 f_41), (h25, .inl (k25, 400, .inr (.inr (.inr (.inr (q74_ 0)))))), (h3, zi k3 400 f3), (h8, .inr (6, mX6 h9 h10 h11 h12 h13 h14 h15 h16 v8)), (h14, zi k14 400 f14), (h12, zi k12 400 f12), (h9, zi k9 1250 f9), (h10, zi k10 833 f10), (h11, zi k11 833 f11), (h13, zi k13 400 f13), (h26, zi k26 400 f26), (h2, .inl (k2, 400, .inr (.inl f2))), (h4, zi k4 400 f4), (h15, zi k15 400 f15), (h16, zi k16 400 f16)] ++ pl74) := hD.part [0, 15, 1, 2, 16, 3, 4, 5, 6, 7, 8, 9, 10, 11, 12, 13, 14] (by decide) rfl
                generalize H1 = H at hP hS ⊢
                clear hz1
                obtain ⟨v82_, hm82⟩ := (show zRd h8 (q74_ 0) pl74 from by assumption) _ (zltc (by omega) (by omega)) _ e_o82.symm
                obtain ⟨p82, q82, e_pl82⟩ := List.append_of_mem hm82
                rw [e_pl82] at hP hD
                have hP : va_P (dC, dI) vwCl ([(h0, .inr (3, mX3 h1 h8 h17 h25 h26 h27 h28 h29 v0)), (h1, .inr (10, mX10 h2 h3 h4 h5 h6 h7 v1)), (h27, zi k27 400 f_41), (h25, .inl (k25, 400, .inr (.inr (.inr (.inr (q74_ 0)))))), (h3, zi k3 400 f3), (h8, .inr (6, mX6 h9 h10 h11 h12 h13 h14 h15 h16 v8)), (h14, zi k14 400 f14), (h12, zi k12 400 f12), (h9, zi k9 1250 f9), (h10, zi k10 833 f10), (h11, zi k11 833 f11), (h13, zi k13 400 f13), (h26, zi k26 400 f26), (h2, .inl (k2, 400, .inr (.inl f2))), (h4, zi k4 400 f4), (h15, zi k15 400 f15), (h16, zi k16 400 f16), (a82_, .inr (8, mX8 h8 v82_))] ++ (p82 ++ q82)) H := zfocP hP
                have hD : va_D A ([(h0, .inr (3, mX3 h1 h8 h17 h25 h26 h27 h28 h29 v0)), (h1, .inr (10, mX10 h2 h3 h4 h5 h6 h7 v1)), (h27, zi k27 400 f_41), (h25, .inl (k25, 400, .inr (.inr (.inr (.inr (q74_ 0)))))), (h3, zi k3 400 f3), (h8, .inr (6, mX6 h9 h10 h11 h12 h13 h14 h15 h16 v8)), (h14, zi k14 400 f14), (h12, zi k12 400 f12), (h9, zi k9 1250 f9), (h10, zi k10 833 f10), (h11, zi k11 833 f11), (h13, zi k13 400 f13), (h26, zi k26 400 f26), (h2, .inl (k2, 400, .inr (.inl f2))), (h4, zi k4 400 f4), (h15, zi k15 400 f15), (h16, zi k16 400 f16), (a82_, .inr (8, mX8 h8 v82_))] ++ (p82 ++ q82)) := zfocD hD
                have hPc := hP.sub (ws' := [(a82_, .inr (8, mX8 h8 v82_)), (h8, .inr (6, mX6 h9 h10 h11 h12 h13 h14 h15 h16 v8)), (h14, zi k14 400 f14), (h12, zi k12 400 f12), (h9, zi k9 1250 f9), (h10, zi k10 833 f10), (h11, zi k11 833 f11), (h13, zi k13 400 f13)]) [17, 5, 6, 7, 8, 9, 10, 11] rfl
                have hDc := hD.sub (ws' := [(a82_, .inr (8, mX8 h8 v82_)), (h8, .inr (6, mX6 h9 h10 h11 h12 h13 h14 h15 h16 v8)), (h14, zi k14 400 f14), (h12, zi k12 400 f12), (h9, zi k9 1250 f9), (h10, zi k10 833 f10), (h11, zi k11 833 f11), (h13, zi k13 400 f13)]) [17, 5, 6, 7, 8, 9, 10, 11] (by decide) rfl
                have hKc := hK.sub (tys' := [(k14, .int), (k12, .int), (k9, .int), (k10, .int), (k11, .int), (k13, .int)]) [3, 4, 5, 6, 7, 8] rfl
                have hFc := va_free (wc := [(a82_, .inr (8, mX8 h8 v82_)), (h8, .inr (6, mX6 h9 h10 h11 h12 h13 h14 h15 h16 v8)), (h14, zi k14 400 f14), (h12, zi k12 400 f12), (h9, zi k9 1250 f9), (h10, zi k10 833 f10), (h11, zi k11 833 f11), (h13, zi k13 400 f13)]) hD hS hA [17, 5, 6, 7, 8, 9, 10, 11] rfl
                refine va_callv (va_runV (As := [.int r88_]) (rest := []) ⟨hx, hb, hml, hown, hG⟩ (sX8_open_0 l dC dI adK adV a82_ h8 h14 h12 h9 h10 h11 h13 h15 h16 k14 k12 k9 k10 k11 k13 H.size v82_ v8 f14 f12 f9 f10 f11 f13 r88_ hv8 hf10 hf13) (cwV 1 hG (zgV zv1210 zv898 zv899 zv134 zv900) rfl rfl rfl (by decide +kernel) ⟨Nat.le_of_ble_eq_true rfl, Nat.le_of_ble_eq_true rfl⟩) ⟨zPc_blind, va_recv hKc hPc (ci := 8) (q0 := 0) rfl rfl, zPc_pre hPc hKc hDc hE hS hFc hZ⟩ rfl rfl hl.1 rfl (lv_room (Nat.le_of_ble_eq_true rfl)) dX3_want_91 ⟨Nat.le_of_ble_eq_true rfl, Nat.le_of_ble_eq_true rfl⟩) hS (fun q _ h => hFc q h) hFc (fun u91_ t H1 locs ht hvm hw hB hz1 hk1 hS => ?_)
                replace hw : (0 ≤ (u91_ 2).toInt ∧ (u91_ 2).toInt ≤ 0) ∧ (0 ≤ (u91_ 3).toInt ∧ (u91_ 3).toInt ≤ 0) ∧ ((-1) ≤ (u91_ 4).toInt ∧ (u91_ 4).toInt ≤ (-1)) ∧ (0 ≤ (u91_ 5).toInt ∧ (u91_ 5).toInt ≤ 0) ∧ (0 ≤ (u91_ 6).toInt ∧ (u91_ 6).toInt ≤ 0) ∧ ((u91_ 4).toInt = -1) ∧ ((u91_ 5).toInt = 0) ∧ ((u91_ 6).toInt = 0) ∧ (zW (0 ≤ r88_.toInt → r88_.toInt ≤ 399 → ∀ B : Nat → List Bool, zPB f9 f10 f11 f12 f13 f14 (v8 8).toInt (v8 9).toInt (v8 10).toInt (v8 11).toInt B → zRr f12 f11 B (u91_ 0).toInt (u91_ 1).toInt (u91_ 2).toInt (u91_ 3).toInt (B ((r88_ : Int32)).toNatClampNeg))) := hw
                obtain ⟨b_, b_, b_, b_, b_, hX91_0, hX91_1, hX91_2, hX91_3⟩ := hw
                obtain ⟨w91_, a91_, b91_, hP1, hK1, hD1⟩ := hB
                rw [ht] at hP1
                obtain ⟨hP, hD⟩ := va_joinQ (wr := [(h0, .inr (3, mX3 h1 h8 h17 h25 h26 h27 h28 h29 v0)), (h1, .inr (10, mX10 h2 h3 h4 h5 h6 h7 v1)), (h27, zi k27 400 f_41), (h25, .inl (k25, 400, .inr (.inr (.inr (.inr (q74_ 0)))))), (h3, zi k3 400 f3), (h26, zi k26 400 f26), (h2, .inl (k2, 400, .inr (.inl f2))), (h4, zi k4 400 f4), (h15, zi k15 400 f15), (h16, zi k16 400 f16)]) (w1 := [(a82_, .inr (8, mX8 h8 (upd (upd (upd (upd (upd (upd (upd v82_ 1 (u91_ 0)) 2 (u91_ 1)) 3 (u91_ 2)) 4 (u91_ 3)) 5 (u91_ 4)) 6 (u91_ 5)) 7 (u91_ 6)))), (h8, .inr (6, mX6 h9 h10 h11 h12 h13 h14 h15 h16 v8)), (h14, zi k14 400 f14), (h12, zi k12 400 f12), (h9, zi k9 1250 f9), (h10, zi k10 833 f10), (h11, zi k11 833 f11), (h13, zi k13 400 f13)]) hP hD [17, 5, 6, 7, 8, 9, 10, 11] [0, 1, 2, 3, 4, 12, 13, 14, 15, 16] rfl rfl (by decide) (by decide) hk1 hFc hP1 hD1
                have hP : va_P (dC, dI) vwCl ([(h0, .inr (3, mX3 h1 h8 h17 h25 h26 h27 h28 h29 v0)), (h1, .inr (10, mX10 h2 h3 h4 h5 h6 h7 v1)), (h27, zi k27 400 f_41), (h25, .inl (k25, 400, .inr (.inr (.inr (.inr (q74_ 0)))))), (h3, zi k3 400 f3), (h8, .inr (6, mX6 h9 h10 h11 h12 h13 h14 h15 h16 v8)), (h14, zi k14 400 f14), (h12, zi k12 400 f12), (h9, zi k9 1250 f9), (h10, zi k10 833 f10), (h11, zi k11 833 f11), (h13, zi k13 400 f13), (h26, zi k26 400 f26), (h2, .inl (k2, 400, .inr (.inl f2))), (h4, zi k4 400 f4), (h15, zi k15 400 f15), (h16, zi k16 400 f16), (a82_, .inr (8, mX8 h8 (upd (upd (upd (upd (upd (upd (upd v82_ 1 (u91_ 0)) 2 (u91_ 1)) 3 (u91_ 2)) 4 (u91_ 3)) 5 (u91_ 4)) 6 (u91_ 5)) 7 (u91_ 6))))] ++ (p82 ++ q82)) H1 := hP.part [0, 1, 2, 3, 4, 11, 12, 13, 14, 15, 16, 17, 5, 6, 7, 8, 9, 10] rfl
                have hD : va_D A ([(h0, .inr (3, mX3 h1 h8 h17 h25 h26 h27 h28 h29 v0)), (h1, .inr (10, mX10 h2 h3 h4 h5 h6 h7 v1)), (h27, zi k27 400 f_41), (h25, .inl (k25, 400, .inr (.inr (.inr (.inr (q74_ 0)))))), (h3, zi k3 400 f3), (h8, .inr (6, mX6 h9 h10 h11 h12 h13 h14 h15 h16 v8)), (h14, zi k14 400 f14), (h12, zi k12 400 f12), (h9, zi k9 1250 f9), (h10, zi k10 833 f10), (h11, zi k11 833 f11), (h13, zi k13 400 f13), (h26, zi k26 400 f26), (h2, .inl (k2, 400, .inr (.inl f2))), (h4, zi k4 400 f4), (h15, zi k15 400 f15), (h16, zi k16 400 f16), (a82_, .inr (8, mX8 h8 (upd (upd (upd (upd (upd (upd (upd v82_ 1 (u91_ 0)) 2 (u91_ 1)) 3 (u91_ 2)) 4 (u91_ 3)) 5 (u91_ 4)) 6 (u91_ 5)) 7 (u91_ 6))))] ++ (p82 ++ q82)) := hD.part [0, 1, 2, 3, 4, 11, 12, 13, 14, 15, 16, 17, 5, 6, 7, 8, 9, 10] (by decide) rfl
                generalize H1 = H at hP hS ⊢
                clear hz1
                refine lv_aload_n hx hb dX3_want_94 rfl (lv_at hl 0 rfl) ?_
                refine va_get (D := (dC, dI)) (ci := 3) (v := .ref h26) (C := RX3) (T := TX3) (N := 10) hx hb hG zuX3 hown hK hP 0 rfl rfl 4 (by decide) (hG _ zv477) (fun _ h9 => h9) rfl dX3_want_95 ?_
                refine lv_aload_n hx hb dX3_want_98 rfl (lv_at hl 0 rfl) ?_
                refine va_get (D := (dC, dI)) (ci := 3) (v := .int (v0 8)) (C := RX3) (T := TX3) (N := 10) hx hb hG zuX3 hown hK hP 0 rfl rfl 8 (by decide) (hG _ zv481) (fun _ h9 => h9) rfl dX3_want_99 ?_
                refine lv_iload_n hx hb dX3_want_102 rfl (lv_at hl 1 rfl) ?_
                refine va_iast hx hb hK hP hD hS 12 9 rfl rfl (zin_lit ⟨by omega, by omega⟩) dX3_want_103 (fun H locs hP hD hS => ?_)
                obtain ⟨f_103, e_f_103⟩ : ∃ z : Nat → Int32, z = upd f26 ((v0 8) : Int32).toNatClampNeg x1 := ⟨_, rfl⟩
                have hP : va_P (dC, dI) vwCl ([(h0, .inr (3, mX3 h1 h8 h17 h25 h26 h27 h28 h29 v0)), (h1, .inr (10, mX10 h2 h3 h4 h5 h6 h7 v1)), (h27, zi k27 400 f_41), (h25, .inl (k25, 400, .inr (.inr (.inr (.inr (q74_ 0)))))), (h3, zi k3 400 f3), (h8, .inr (6, mX6 h9 h10 h11 h12 h13 h14 h15 h16 v8)), (h14, zi k14 400 f14), (h12, zi k12 400 f12), (h9, zi k9 1250 f9), (h10, zi k10 833 f10), (h11, zi k11 833 f11), (h13, zi k13 400 f13), (h26, zi k26 400 f_103), (h2, .inl (k2, 400, .inr (.inl f2))), (h4, zi k4 400 f4), (h15, zi k15 400 f15), (h16, zi k16 400 f16), (a82_, .inr (8, mX8 h8 (upd (upd (upd (upd (upd (upd (upd v82_ 1 (u91_ 0)) 2 (u91_ 1)) 3 (u91_ 2)) 4 (u91_ 3)) 5 (u91_ 4)) 6 (u91_ 5)) 7 (u91_ 6))))] ++ (p82 ++ q82)) H := by rw [e_f_103]; exact hP
                have hD : va_D A ([(h0, .inr (3, mX3 h1 h8 h17 h25 h26 h27 h28 h29 v0)), (h1, .inr (10, mX10 h2 h3 h4 h5 h6 h7 v1)), (h27, zi k27 400 f_41), (h25, .inl (k25, 400, .inr (.inr (.inr (.inr (q74_ 0)))))), (h3, zi k3 400 f3), (h8, .inr (6, mX6 h9 h10 h11 h12 h13 h14 h15 h16 v8)), (h14, zi k14 400 f14), (h12, zi k12 400 f12), (h9, zi k9 1250 f9), (h10, zi k10 833 f10), (h11, zi k11 833 f11), (h13, zi k13 400 f13), (h26, zi k26 400 f_103), (h2, .inl (k2, 400, .inr (.inl f2))), (h4, zi k4 400 f4), (h15, zi k15 400 f15), (h16, zi k16 400 f16), (a82_, .inr (8, mX8 h8 (upd (upd (upd (upd (upd (upd (upd v82_ 1 (u91_ 0)) 2 (u91_ 1)) 3 (u91_ 2)) 4 (u91_ 3)) 5 (u91_ 4)) 6 (u91_ 5)) 7 (u91_ 6))))] ++ (p82 ++ q82)) := by rw [e_f_103]; exact hD
                have hf_103 : zA 0 399 f_103 := by rw [e_f_103]; exact zA_upd hf26 (show 0 ≤ (x1 : Int32).toInt from by omega) (show (x1 : Int32).toInt ≤ 399 from by omega)
                refine lv_aload_n hx hb dX3_want_104 rfl (lv_at hl 0 rfl) ?_
                refine lv_dup hx hb dX3_want_105 rfl ?_
                refine va_get (D := (dC, dI)) (ci := 3) (v := .int (v0 8)) (C := RX3) (T := TX3) (N := 10) hx hb hG zuX3 hown hK hP 0 rfl rfl 8 (by decide) (hG _ zv481) (fun _ h9 => h9) rfl dX3_want_106 ?_
                refine lv_iconst (v := 1) hx hb dX3_want_109 (by decide) ?_
                refine lv_iadd hx hb dX3_want_110 ?_
                refine lv_topi (fun z110 e_z110 => ?_)
                have b_ := zadd rfl zk_1 e_z110 (by omega) (by omega)
                refine va_put (D := (dC, dI)) (ci := 3) (v := .int z110) (ty := .int) (C := RX3) (T := TX3) (N := 10) hx hb hG zuX3 tyX3 tyX3_ok nmX3 hown hK hP hD hS 0 rfl rfl 8 (by decide) (hG _ zv481) (fun _ h9 => h9) rfl (by decide +kernel) rfl rfl (Nat.le_of_ble_eq_true rfl) dX3_want_111 (fun H locs hP hD hS => ?_)
                have hP : va_P (dC, dI) vwCl ([(h0, .inr (3, mX3 h1 h8 h17 h25 h26 h27 h28 h29 (upd v0 8 z110))), (h1, .inr (10, mX10 h2 h3 h4 h5 h6 h7 v1)), (h27, zi k27 400 f_41), (h25, .inl (k25, 400, .inr (.inr (.inr (.inr (q74_ 0)))))), (h3, zi k3 400 f3), (h8, .inr (6, mX6 h9 h10 h11 h12 h13 h14 h15 h16 v8)), (h14, zi k14 400 f14), (h12, zi k12 400 f12), (h9, zi k9 1250 f9), (h10, zi k10 833 f10), (h11, zi k11 833 f11), (h13, zi k13 400 f13), (h26, zi k26 400 f_103), (h2, .inl (k2, 400, .inr (.inl f2))), (h4, zi k4 400 f4), (h15, zi k15 400 f15), (h16, zi k16 400 f16), (a82_, .inr (8, mX8 h8 (upd (upd (upd (upd (upd (upd (upd v82_ 1 (u91_ 0)) 2 (u91_ 1)) 3 (u91_ 2)) 4 (u91_ 3)) 5 (u91_ 4)) 6 (u91_ 5)) 7 (u91_ 6))))] ++ (p82 ++ q82)) H := hP
                have hD : va_D A ([(h0, .inr (3, mX3 h1 h8 h17 h25 h26 h27 h28 h29 (upd v0 8 z110))), (h1, .inr (10, mX10 h2 h3 h4 h5 h6 h7 v1)), (h27, zi k27 400 f_41), (h25, .inl (k25, 400, .inr (.inr (.inr (.inr (q74_ 0)))))), (h3, zi k3 400 f3), (h8, .inr (6, mX6 h9 h10 h11 h12 h13 h14 h15 h16 v8)), (h14, zi k14 400 f14), (h12, zi k12 400 f12), (h9, zi k9 1250 f9), (h10, zi k10 833 f10), (h11, zi k11 833 f11), (h13, zi k13 400 f13), (h26, zi k26 400 f_103), (h2, .inl (k2, 400, .inr (.inl f2))), (h4, zi k4 400 f4), (h15, zi k15 400 f15), (h16, zi k16 400 f16), (a82_, .inr (8, mX8 h8 (upd (upd (upd (upd (upd (upd (upd v82_ 1 (u91_ 0)) 2 (u91_ 1)) 3 (u91_ 2)) 4 (u91_ 3)) 5 (u91_ 4)) 6 (u91_ 5)) 7 (u91_ 6))))] ++ (p82 ++ q82)) := hD
                obtain ⟨plx5, e_plx5⟩ : ∃ z : va_W, z = (a82_, .inr (8, mX8 h8 (upd (upd (upd (upd (upd (upd (upd v82_ 1 (u91_ 0)) 2 (u91_ 1)) 3 (u91_ 2)) 4 (u91_ 3)) 5 (u91_ 4)) 6 (u91_ 5)) 7 (u91_ 6)))) :: (p82 ++ q82) := ⟨_, rfl⟩
                have e_plx_ := e_plx5
                have hP : va_P (dC, dI) vwCl ([(h0, .inr (3, mX3 h1 h8 h17 h25 h26 h27 h28 h29 (upd v0 8 z110))), (h1, .inr (10, mX10 h2 h3 h4 h5 h6 h7 v1)), (h27, zi k27 400 f_41), (h25, .inl (k25, 400, .inr (.inr (.inr (.inr (q74_ 0)))))), (h3, zi k3 400 f3), (h8, .inr (6, mX6 h9 h10 h11 h12 h13 h14 h15 h16 v8)), (h14, zi k14 400 f14), (h12, zi k12 400 f12), (h9, zi k9 1250 f9), (h10, zi k10 833 f10), (h11, zi k11 833 f11), (h13, zi k13 400 f13), (h26, zi k26 400 f_103), (h2, .inl (k2, 400, .inr (.inl f2))), (h4, zi k4 400 f4), (h15, zi k15 400 f15), (h16, zi k16 400 f16)] ++ plx5) H := by rw [e_plx5]; exact hP
                have hD : va_D A ([(h0, .inr (3, mX3 h1 h8 h17 h25 h26 h27 h28 h29 (upd v0 8 z110))), (h1, .inr (10, mX10 h2 h3 h4 h5 h6 h7 v1)), (h27, zi k27 400 f_41), (h25, .inl (k25, 400, .inr (.inr (.inr (.inr (q74_ 0)))))), (h3, zi k3 400 f3), (h8, .inr (6, mX6 h9 h10 h11 h12 h13 h14 h15 h16 v8)), (h14, zi k14 400 f14), (h12, zi k12 400 f12), (h9, zi k9 1250 f9), (h10, zi k10 833 f10), (h11, zi k11 833 f11), (h13, zi k13 400 f13), (h26, zi k26 400 f_103), (h2, .inl (k2, 400, .inr (.inl f2))), (h4, zi k4 400 f4), (h15, zi k15 400 f15), (h16, zi k16 400 f16)] ++ plx5) := by rw [e_plx5]; exact hD
                have hpl_ : zRd h8 (q74_ 0) plx5 := by rw [e_plx5]; exact zRd_put (show zRd h8 (q74_ 0) pl74 from by first | assumption | exact zKp_rf | exact zOt_rf) e_pl82
                have hpl_ : zKp h8 pl0 plx5 := by rw [e_plx5]; exact zKp_put (show zKp h8 pl0 pl74 from by first | assumption | exact zKp_rf | exact zOt_rf) e_pl82
                refine W.widen (k := 1) (n := 9) (by decide) (by decide) ?_
                have hpost : (0 ≤ z110.toInt ∧ z110.toInt ≤ 400) ∧ ((v0 8).toInt ≤ z110.toInt) ∧ (z110.toInt ≤ (v0 8).toInt + 1) ∧ (z110.toInt = (v0 8).toInt + 1) := ⟨(by first | with_reducible assumption | exact ⟨by omega, by omega⟩), by omega, by omega, by omega⟩
                have hP9 : va_P (dC, dI) vwCl ([(h0, .inr (3, mX3 h1 h8 h17 h25 h26 h27 h28 h29 (upd v0 8 z110))), (h1, .inr (10, mX10 h2 h3 h4 h5 h6 h7 v1)), (h27, zi k27 400 f_41), (h25, .inl (k25, 400, .inr (.inr (.inr (.inr (q74_ 0)))))), (h3, zi k3 400 f3), (h8, .inr (6, mX6 h9 h10 h11 h12 h13 h14 h15 h16 v8)), (h14, zi k14 400 f14), (h12, zi k12 400 f12), (h9, zi k9 1250 f9), (h10, zi k10 833 f10), (h11, zi k11 833 f11), (h13, zi k13 400 f13), (h26, zi k26 400 f_103), (h2, .inl (k2, 400, .inr (.inl f2))), (h4, zi k4 400 f4), (h15, zi k15 400 f15), (h16, zi k16 400 f16)] ++ plx5) H := hP
                have hD9 : va_D A ([(h0, .inr (3, mX3 h1 h8 h17 h25 h26 h27 h28 h29 (upd v0 8 z110))), (h1, .inr (10, mX10 h2 h3 h4 h5 h6 h7 v1)), (h27, zi k27 400 f_41), (h25, .inl (k25, 400, .inr (.inr (.inr (.inr (q74_ 0)))))), (h3, zi k3 400 f3), (h8, .inr (6, mX6 h9 h10 h11 h12 h13 h14 h15 h16 v8)), (h14, zi k14 400 f14), (h12, zi k12 400 f12), (h9, zi k9 1250 f9), (h10, zi k10 833 f10), (h11, zi k11 833 f11), (h13, zi k13 400 f13), (h26, zi k26 400 f_103), (h2, .inl (k2, 400, .inr (.inl f2))), (h4, zi k4 400 f4), (h15, zi k15 400 f15), (h16, zi k16 400 f16)] ++ plx5) := hD
                have hB0 : zRd h8 (q74_ 0) plx5 := by assumption
                have hB1 : zKp h8 pl0 plx5 := by first | assumption | exact zKp_rf
                have hB2 : zWtc h8 f25 pl0 f2 f3 f4 (v1 7).toInt f9 f10 f11 f12 f13 f14 (v8 8).toInt (v8 9).toInt (v8 10).toInt (v8 11).toInt f15 f16 f26 f27 (v0 8).toInt (q74_ 0) plx5 f_103 f_41 z110.toInt x1.toInt := by first | exact zWt_n (by omega) | exact zWt_y hI74_1 e_o82.symm e_pl82 e_plx_ e_f_41 (by decide) e_f_103 (by omega) (by omega) (by omega) (by omega) (by omega) (by omega) hX88_0 hX91_3 hX91_0 hX91_2 rfl rfl rfl rfl rfl rfl
                exact W.vret hx hb hr (fun t ht hW => ⟨⟨(fun i => ([z110] : List (Int32)).getD i 0), rfl, hpost, (fun _ => 0), (fun i => ([f_41, f_103] : List (Nat → Int32)).getD i (fun _ => 0)), (fun _ => (fun _ => 0)), (fun i => ([(q74_ 0)] : List (Nat → Option Nat)).getD i (fun _ => none)), plx5, hf_103, hB0, hB1, hB2, by rw [ht]; exact hP9, va_K.moved hW.alike hK, hD9⟩, hS.F ht⟩) hS.2.2 dX3_want_114
            · skip
              refine lv_ifnonnullN hx hb dX3_want_51 ?_
              refine lv_aload_n hx hb dX3_want_54 rfl (lv_at hl 0 rfl) ?_
              refine va_get (D := (dC, dI)) (ci := 3) (v := .ref h25) (C := RX3) (T := TX3) (N := 10) hx hb hG zuX3 hown hK hP 0 rfl rfl 3 (by decide) (hG _ zv476) (fun _ h9 => h9) rfl dX3_want_55 ?_
              refine lv_aload_n hx hb dX3_want_58 rfl (lv_at hl 0 rfl) ?_
              refine va_get (D := (dC, dI)) (ci := 3) (v := .int (v0 8)) (C := RX3) (T := TX3) (N := 10) hx hb hG zuX3 hown hK hP 0 rfl rfl 8 (by decide) (hG _ zv481) (fun _ h9 => h9) rfl dX3_want_59 ?_
              refine va_new (ci := 8) (fs := [.null, .int 0, .int 0, .int 0, .int 0, .int 0, .int 0, .int 0, .int 0]) (C := RX8) (T := TX8) (N := 9) hx hb hG zuX8 tyX8 tyX8_ok hown (hG _ zv468) (hG _ zv286) (hG _ zv134) hK hP hD hS hA rfl (by decide +kernel) (Nat.le_of_ble_eq_true rfl) (Nat.le_of_ble_eq_true rfl) dX3_want_62 (fun q62_ H hP hD hS => ?_)
              have hP : va_P (dC, dI) vwCl ([(h0, .inr (3, mX3 h1 h8 h17 h25 h26 h27 h28 h29 v0)), (h1, .inr (10, mX10 h2 h3 h4 h5 h6 h7 v1)), (h27, zi k27 400 f_41), (h25, .inl (k25, 400, .inr (.inr (.inr (.inr f25))))), (h3, zi k3 400 f3), (h8, .inr (6, mX6 h9 h10 h11 h12 h13 h14 h15 h16 v8)), (h14, zi k14 400 f14), (h12, zi k12 400 f12), (h9, zi k9 1250 f9), (h10, zi k10 833 f10), (h11, zi k11 833 f11), (h13, zi k13 400 f13), (h26, zi k26 400 f26), (h2, .inl (k2, 400, .inr (.inl f2))), (h4, zi k4 400 f4), (h15, zi k15 400 f15), (h16, zi k16 400 f16), (q62_, .inr (8, [.null, .int 0, .int 0, .int 0, .int 0, .int 0, .int 0, .int 0, .int 0]))] ++ pl0) H := va_P.swap hP
              have hD : va_D A ([(h0, .inr (3, mX3 h1 h8 h17 h25 h26 h27 h28 h29 v0)), (h1, .inr (10, mX10 h2 h3 h4 h5 h6 h7 v1)), (h27, zi k27 400 f_41), (h25, .inl (k25, 400, .inr (.inr (.inr (.inr f25))))), (h3, zi k3 400 f3), (h8, .inr (6, mX6 h9 h10 h11 h12 h13 h14 h15 h16 v8)), (h14, zi k14 400 f14), (h12, zi k12 400 f12), (h9, zi k9 1250 f9), (h10, zi k10 833 f10), (h11, zi k11 833 f11), (h13, zi k13 400 f13), (h26, zi k26 400 f26), (h2, .inl (k2, 400, .inr (.inl f2))), (h4, zi k4 400 f4), (h15, zi k15 400 f15), (h16, zi k16 400 f16), (q62_, .inr (8, [.null, .int 0, .int 0, .int 0, .int 0, .int 0, .int 0, .int 0, .int 0]))] ++ pl0) := va_D.swap hD
              refine lv_dup hx hb dX3_want_65 rfl ?_
              refine lv_aload_n hx hb dX3_want_66 rfl (lv_at hl 0 rfl) ?_
              refine va_get (D := (dC, dI)) (ci := 3) (v := .ref h8) (C := RX3) (T := TX3) (N := 10) hx hb hG zuX3 hown hK hP 0 rfl rfl 1 (by decide) (hG _ zv474) (fun _ h9 => h9) rfl dX3_want_67 ?_
              have hPc := hP.sub (ws' := [(q62_, .inr (8, [.null, .int 0, .int 0, .int 0, .int 0, .int 0, .int 0, .int 0, .int 0]))]) [17] rfl
              have hDc := hD.sub (ws' := [(q62_, .inr (8, [.null, .int 0, .int 0, .int 0, .int 0, .int 0, .int 0, .int 0, .int 0]))]) [17] (by decide) rfl
              have hKc := hK.sub (tys' := []) [] rfl
              have hFc := va_free (wc := [(q62_, .inr (8, [.null, .int 0, .int 0, .int 0, .int 0, .int 0, .int 0, .int 0, .int 0]))]) hD hS hA [17] rfl
              refine va_callv (va_runI (As := [.ref h8]) (rest := [.ref q62_, .int (v0 8), .ref h25]) ⟨hx, hb, hml, hown, hG⟩ (kX8_init_0 l dC dI adK adV q62_ h8 H.size) (cwI 1 hG (zgI zv289) rfl rfl rfl (hG _ zv134) (hG _ zv1208) (hG _ zv288) rfl (by decide +kernel) ⟨Nat.le_of_ble_eq_true rfl, Nat.le_of_ble_eq_true rfl⟩) ⟨zPc_blind, zPc_pre hPc hKc hDc hE hS hFc hZ⟩ rfl rfl hl.1 rfl (lv_room (Nat.le_of_ble_eq_true rfl)) dX3_want_70 ⟨Nat.le_of_ble_eq_true rfl, Nat.le_of_ble_eq_true rfl⟩) hS (fun q _ h => hFc q h) hFc (fun u70_ t H1 locs ht hvm hw hB hz1 hk1 hS => ?_)
              obtain ⟨hP1, hK1, hD1⟩ := hB
              rw [ht] at hP1
              have hP1 : va_P (dC, dI) vwCl [(q62_, .inr (8, mX8 h8 (fun i => ([0, 0, -1, 0, 0, -1, 0, 0, -1] : List Int32).getD i 0)))] H1 := hP1
              have hD1 : va_D _ [(q62_, .inr (8, mX8 h8 (fun i => ([0, 0, -1, 0, 0, -1, 0, 0, -1] : List Int32).getD i 0)))] := hD1
              obtain ⟨hP, hD⟩ := va_joinQ (wr := [(h0, .inr (3, mX3 h1 h8 h17 h25 h26 h27 h28 h29 v0)), (h1, .inr (10, mX10 h2 h3 h4 h5 h6 h7 v1)), (h27, zi k27 400 f_41), (h25, .inl (k25, 400, .inr (.inr (.inr (.inr f25))))), (h3, zi k3 400 f3), (h8, .inr (6, mX6 h9 h10 h11 h12 h13 h14 h15 h16 v8)), (h14, zi k14 400 f14), (h12, zi k12 400 f12), (h9, zi k9 1250 f9), (h10, zi k10 833 f10), (h11, zi k11 833 f11), (h13, zi k13 400 f13), (h26, zi k26 400 f26), (h2, .inl (k2, 400, .inr (.inl f2))), (h4, zi k4 400 f4), (h15, zi k15 400 f15), (h16, zi k16 400 f16)]) (w1 := [(q62_, .inr (8, mX8 h8 (fun i => ([0, 0, -1, 0, 0, -1, 0, 0, -1] : List Int32).getD i 0)))]) hP hD [17] [0, 1, 2, 3, 4, 5, 6, 7, 8, 9, 10, 11, 12, 13, 14, 15, 16] rfl rfl (by decide) (by decide) hk1 hFc hP1 hD1
              have hP : va_P (dC, dI) vwCl ([(h0, .inr (3, mX3 h1 h8 h17 h25 h26 h27 h28 h29 v0)), (h1, .inr (10, mX10 h2 h3 h4 h5 h6 h7 v1)), (h27, zi k27 400 f_41), (h25, .inl (k25, 400, .inr (.inr (.inr (.inr f25))))), (h3, zi k3 400 f3), (h8, .inr (6, mX6 h9 h10 h11 h12 h13 h14 h15 h16 v8)), (h14, zi k14 400 f14), (h12, zi k12 400 f12), (h9, zi k9 1250 f9), (h10, zi k10 833 f10), (h11, zi k11 833 f11), (h13, zi k13 400 f13), (h26, zi k26 400 f26), (h2, .inl (k2, 400, .inr (.inl f2))), (h4, zi k4 400 f4), (h15, zi k15 400 f15), (h16, zi k16 400 f16), (q62_, .inr (8, mX8 h8 (fun i => ([0, 0, -1, 0, 0, -1, 0, 0, -1] : List Int32).getD i 0)))] ++ pl0) H1 := hP.part [0, 1, 2, 3, 4, 5, 6, 7, 8, 9, 10, 11, 12, 13, 14, 15, 16, 17] rfl
              have hD : va_D A ([(h0, .inr (3, mX3 h1 h8 h17 h25 h26 h27 h28 h29 v0)), (h1, .inr (10, mX10 h2 h3 h4 h5 h6 h7 v1)), (h27, zi k27 400 f_41), (h25, .inl (k25, 400, .inr (.inr (.inr (.inr f25))))), (h3, zi k3 400 f3), (h8, .inr (6, mX6 h9 h10 h11 h12 h13 h14 h15 h16 v8)), (h14, zi k14 400 f14), (h12, zi k12 400 f12), (h9, zi k9 1250 f9), (h10, zi k10 833 f10), (h11, zi k11 833 f11), (h13, zi k13 400 f13), (h26, zi k26 400 f26), (h2, .inl (k2, 400, .inr (.inl f2))), (h4, zi k4 400 f4), (h15, zi k15 400 f15), (h16, zi k16 400 f16), (q62_, .inr (8, mX8 h8 (fun i => ([0, 0, -1, 0, 0, -1, 0, 0, -1] : List Int32).getD i 0)))] ++ pl0) := hD.part [0, 1, 2, 3, 4, 5, 6, 7, 8, 9, 10, 11, 12, 13, 14, 15, 16, 17] (by decide) rfl
              generalize H1 = H at hP hS ⊢
              clear hz1
              refine va_astq hx hb hK hP hD hS 3 1 17 8 rfl rfl rfl rfl (zin_lit ⟨by omega, by omega⟩) dX3_want_73 (fun H locs hP hD hS => ?_)
              obtain ⟨f_73, e_f_73⟩ : ∃ z : Nat → Option Nat, z = va_up f25 ((v0 8) : Int32).toNatClampNeg (some q62_) := ⟨_, rfl⟩
              have hP : va_P (dC, dI) vwCl ([(h0, .inr (3, mX3 h1 h8 h17 h25 h26 h27 h28 h29 v0)), (h1, .inr (10, mX10 h2 h3 h4 h5 h6 h7 v1)), (h27, zi k27 400 f_41), (h25, .inl (k25, 400, .inr (.inr (.inr (.inr f_73))))), (h3, zi k3 400 f3), (h8, .inr (6, mX6 h9 h10 h11 h12 h13 h14 h15 h16 v8)), (h14, zi k14 400 f14), (h12, zi k12 400 f12), (h9, zi k9 1250 f9), (h10, zi k10 833 f10), (h11, zi k11 833 f11), (h13, zi k13 400 f13), (h26, zi k26 400 f26), (h2, .inl (k2, 400, .inr (.inl f2))), (h4, zi k4 400 f4), (h15, zi k15 400 f15), (h16, zi k16 400 f16), (q62_, .inr (8, mX8 h8 (fun i => ([0, 0, -1, 0, 0, -1, 0, 0, -1] : List Int32).getD i 0)))] ++ pl0) H := by rw [e_f_73]; exact hP
              have hD : va_D A ([(h0, .inr (3, mX3 h1 h8 h17 h25 h26 h27 h28 h29 v0)), (h1, .inr (10, mX10 h2 h3 h4 h5 h6 h7 v1)), (h27, zi k27 400 f_41), (h25, .inl (k25, 400, .inr (.inr (.inr (.inr f_73))))), (h3, zi k3 400 f3), (h8, .inr (6, mX6 h9 h10 h11 h12 h13 h14 h15 h16 v8)), (h14, zi k14 400 f14), (h12, zi k12 400 f12), (h9, zi k9 1250 f9), (h10, zi k10 833 f10), (h11, zi k11 833 f11), (h13, zi k13 400 f13), (h26, zi k26 400 f26), (h2, .inl (k2, 400, .inr (.inl f2))), (h4, zi k4 400 f4), (h15, zi k15 400 f15), (h16, zi k16 400 f16), (q62_, .inr (8, mX8 h8 (fun i => ([0, 0, -1, 0, 0, -1, 0, 0, -1] : List Int32).getD i 0)))] ++ pl0) := by rw [e_f_73]; exact hD
              obtain ⟨plx6, e_plx6⟩ : ∃ z : va_W, z = (q62_, .inr (8, mX8 h8 (fun i => ([0, 0, -1, 0, 0, -1, 0, 0, -1] : List Int32).getD i 0))) :: pl0 := ⟨_, rfl⟩
              have e_plx_ := e_plx6
              have hP : va_P (dC, dI) vwCl ([(h0, .inr (3, mX3 h1 h8 h17 h25 h26 h27 h28 h29 v0)), (h1, .inr (10, mX10 h2 h3 h4 h5 h6 h7 v1)), (h27, zi k27 400 f_41), (h25, .inl (k25, 400, .inr (.inr (.inr (.inr f_73))))), (h3, zi k3 400 f3), (h8, .inr (6, mX6 h9 h10 h11 h12 h13 h14 h15 h16 v8)), (h14, zi k14 400 f14), (h12, zi k12 400 f12), (h9, zi k9 1250 f9), (h10, zi k10 833 f10), (h11, zi k11 833 f11), (h13, zi k13 400 f13), (h26, zi k26 400 f26), (h2, .inl (k2, 400, .inr (.inl f2))), (h4, zi k4 400 f4), (h15, zi k15 400 f15), (h16, zi k16 400 f16)] ++ plx6) H := by rw [e_plx6]; exact hP
              have hD : va_D A ([(h0, .inr (3, mX3 h1 h8 h17 h25 h26 h27 h28 h29 v0)), (h1, .inr (10, mX10 h2 h3 h4 h5 h6 h7 v1)), (h27, zi k27 400 f_41), (h25, .inl (k25, 400, .inr (.inr (.inr (.inr f_73))))), (h3, zi k3 400 f3), (h8, .inr (6, mX6 h9 h10 h11 h12 h13 h14 h15 h16 v8)), (h14, zi k14 400 f14), (h12, zi k12 400 f12), (h9, zi k9 1250 f9), (h10, zi k10 833 f10), (h11, zi k11 833 f11), (h13, zi k13 400 f13), (h26, zi k26 400 f26), (h2, .inl (k2, 400, .inr (.inl f2))), (h4, zi k4 400 f4), (h15, zi k15 400 f15), (h16, zi k16 400 f16)] ++ plx6) := by rw [e_plx6]; exact hD
              have hpl_ : zRd h8 f_73 plx6 := by rw [e_plx6, e_f_73]; exact zRd_newR (show zRd h8 f25 pl0 from by first | assumption | exact zKp_rf | exact zOt_rf)
              have hpl_ : zKp h8 pl0 plx6 := by rw [e_plx6]; exact zKp_newR (show zKp h8 pl0 pl0 from by first | assumption | exact zKp_rf | exact zOt_rf)
              have hc : va_P (dC, dI) vwCl ([(h0, .inr (3, mX3 h1 h8 h17 h25 h26 h27 h28 h29 v0)), (h1, .inr (10, mX10 h2 h3 h4 h5 h6 h7 v1)), (h27, zi k27 400 f_41), (h25, .inl (k25, 400, .inr (.inr (.inr (.inr f_73))))), (h3, zi k3 400 f3), (h8, .inr (6, mX6 h9 h10 h11 h12 h13 h14 h15 h16 v8)), (h14, zi k14 400 f14), (h12, zi k12 400 f12), (h9, zi k9 1250 f9), (h10, zi k10 833 f10), (h11, zi k11 833 f11), (h13, zi k13 400 f13), (h26, zi k26 400 f26), (h2, .inl (k2, 400, .inr (.inl f2))), (h4, zi k4 400 f4), (h15, zi k15 400 f15), (h16, zi k16 400 f16)] ++ plx6) H ∧ va_D A ([(h0, .inr (3, mX3 h1 h8 h17 h25 h26 h27 h28 h29 v0)), (h1, .inr (10, mX10 h2 h3 h4 h5 h6 h7 v1)), (h27, zi k27 400 f_41), (h25, .inl (k25, 400, .inr (.inr (.inr (.inr f_73))))), (h3, zi k3 400 f3), (h8, .inr (6, mX6 h9 h10 h11 h12 h13 h14 h15 h16 v8)), (h14, zi k14 400 f14), (h12, zi k12 400 f12), (h9, zi k9 1250 f9), (h10, zi k10 833 f10), (h11, zi k11 833 f11), (h13, zi k13 400 f13), (h26, zi k26 400 f26), (h2, .inl (k2, 400, .inr (.inl f2))), (h4, zi k4 400 f4), (h15, zi k15 400 f15), (h16, zi k16 400 f16)] ++ plx6) ∧ va_S A s.heap H locs ∧ lv_has ls 2 [(0, .ref h0), (1, .int x1)] ∧ (f_73 (((v0 8) : Int32)).toNatClampNeg ≠ none) ∧ (zWx h8 f25 pl0 f_73 plx6 (((v0 8) : Int32)).toNatClampNeg) ∧ (zRd h8 f_73 plx6) ∧ (zKp h8 pl0 plx6) := ⟨hP, hD, hS, lv_sub hl [0, 1] rfl, by first | (rw [e_f_73, va_up_self]; exact fun h => by cases h) | exact fun h => by (rw [h] at e_o50; cases e_o50), by first | exact zWx_n (by assumption) hD e_plx_ e_f_73 | exact zWx_r, by assumption, by first | assumption | exact zKp_rf⟩
              exact hJ74 H locs ls (fun _ => 0) (fun _ => 0) (fun _ => (fun _ => 0)) (fun _ => (fun _ => 0)) ⟨(fun i => ([f_73] : List (Nat → Option Nat)).getD i (fun _ => none)), plx6, hc⟩
          · skip
            refine W.eq (g2 := F0 m 51 ls [.ref a50_]) rfl ?_
            have hnn_ : f25 ((v0 8) : Int32).toNatClampNeg ≠ none := fun h => by rw [h] at e_o50; cases e_o50
            refine zcutW (fun H locs ls u74_ w74_ a74_ b74_ => ∃ (q74_ : Nat → Nat → Option Nat) (pl74 : va_W), va_P (dC, dI) vwCl ([(h0, .inr (3, mX3 h1 h8 h17 h25 h26 h27 h28 h29 v0)), (h1, .inr (10, mX10 h2 h3 h4 h5 h6 h7 v1)), (h27, zi k27 400 f_41), (h25, .inl (k25, 400, .inr (.inr (.inr (.inr (q74_ 0)))))), (h3, zi k3 400 f3), (h8, .inr (6, mX6 h9 h10 h11 h12 h13 h14 h15 h16 v8)), (h14, zi k14 400 f14), (h12, zi k12 400 f12), (h9, zi k9 1250 f9), (h10, zi k10 833 f10), (h11, zi k11 833 f11), (h13, zi k13 400 f13), (h26, zi k26 400 f26), (h2, .inl (k2, 400, .inr (.inl f2))), (h4, zi k4 400 f4), (h15, zi k15 400 f15), (h16, zi k16 400 f16)] ++ pl74) H ∧ va_D A ([(h0, .inr (3, mX3 h1 h8 h17 h25 h26 h27 h28 h29 v0)), (h1, .inr (10, mX10 h2 h3 h4 h5 h6 h7 v1)), (h27, zi k27 400 f_41), (h25, .inl (k25, 400, .inr (.inr (.inr (.inr (q74_ 0)))))), (h3, zi k3 400 f3), (h8, .inr (6, mX6 h9 h10 h11 h12 h13 h14 h15 h16 v8)), (h14, zi k14 400 f14), (h12, zi k12 400 f12), (h9, zi k9 1250 f9), (h10, zi k10 833 f10), (h11, zi k11 833 f11), (h13, zi k13 400 f13), (h26, zi k26 400 f26), (h2, .inl (k2, 400, .inr (.inl f2))), (h4, zi k4 400 f4), (h15, zi k15 400 f15), (h16, zi k16 400 f16)] ++ pl74) ∧ va_S A s.heap H locs ∧ lv_has ls 2 [(0, .ref h0), (1, .int x1)] ∧ ((q74_ 0) (((v0 8) : Int32)).toNatClampNeg ≠ none) ∧ (zWx h8 f25 pl0 (q74_ 0) pl74 (((v0 8) : Int32)).toNatClampNeg) ∧ (zRd h8 (q74_ 0) pl74) ∧ (zKp h8 pl0 pl74)) (fun ls u74_ w74_ => F0 m 74 ls []) 1 9 ?_ (fun hJ74 => ?_)
            · skip
              intro H locs ls u74_ w74_ a74_ b74_ hc
              obtain ⟨q74_, pl74, hP, hD, hS, hl, hI74_0, hI74_1, hI74_2, hI74_3⟩ := hc
              refine lv_aload_n hx hb dX3_want_74 rfl (lv_at hl 0 rfl) ?_
              refine va_get (D := (dC, dI)) (ci := 3) (v := .ref h25) (C := RX3) (T := TX3) (N := 10) hx hb hG zuX3 hown hK hP 0 rfl rfl 3 (by decide) (hG _ zv476) (fun _ h9 => h9) rfl dX3_want_75 ?_
              refine lv_aload_n hx hb dX3_want_78 rfl (lv_at hl 0 rfl) ?_
              refine va_get (D := (dC, dI)) (ci := 3) (v := .int (v0 8)) (C := RX3) (T := TX3) (N := 10) hx hb hG zuX3 hown hK hP 0 rfl rfl 8 (by decide) (hG _ zv481) (fun _ h9 => h9) rfl dX3_want_79 ?_
              refine va_aldq hx hb hK hP 3 1 rfl rfl (zin_lit ⟨by omega, by omega⟩) dX3_want_82 ?_
              refine lv_topq (fun o82 e_o82 => ?_)
              rcases o82 with _ | a82_
              · skip
                exact absurd e_o82.symm (by assumption)
              · skip
                refine W.eq (g2 := F0 m 83 ls [.ref a82_]) rfl ?_
                have hnn_ : (q74_ 0) ((v0 8) : Int32).toNatClampNeg ≠ none := fun h => by rw [h] at e_o82; cases e_o82
                refine lv_aload_n hx hb dX3_want_83 rfl (lv_at hl 0 rfl) ?_
                refine va_get (D := (dC, dI)) (ci := 3) (v := .ref h1) (C := RX3) (T := TX3) (N := 10) hx hb hG zuX3 hown hK hP 0 rfl rfl 0 (by decide) (hG _ zv473) (fun _ h9 => h9) rfl dX3_want_84 ?_
                refine lv_iload_n hx hb dX3_want_87 rfl (lv_at hl 1 rfl) ?_
                have hPc := hP.sub (ws' := [(h1, .inr (10, mX10 h2 h3 h4 h5 h6 h7 v1)), (h3, zi k3 400 f3)]) [1, 4] rfl
                have hDc := hD.sub (ws' := [(h1, .inr (10, mX10 h2 h3 h4 h5 h6 h7 v1)), (h3, zi k3 400 f3)]) [1, 4] (by decide) rfl
                have hKc := hK.sub (tys' := [(k3, .int)]) [2] rfl
                have hFc := va_free (wc := [(h1, .inr (10, mX10 h2 h3 h4 h5 h6 h7 v1)), (h3, zi k3 400 f3)]) hD hS hA [1, 4] rfl
                refine va_calli (va_runV (As := [.int x1]) (rest := [.ref a82_]) ⟨hx, hb, hml, hown, hG⟩ (sX10_idAt_0 l dC dI adK adV h1 h3 h2 h4 h5 h6 h7 k3 H.size v1 f3 x1 hv1 hf3) (cwV 1 hG (zgV zv1209 zv753 zv754 zv131 zv755) rfl rfl rfl (by decide +kernel) ⟨Nat.le_of_ble_eq_true rfl, Nat.le_of_ble_eq_true rfl⟩) ⟨zPc_blind, va_recv hKc hPc (ci := 10) (q0 := 0) rfl rfl, zPc_pre hPc hKc hDc hE hS hFc hZ⟩ rfl rfl hl.1 rfl (lv_room (Nat.le_of_ble_eq_true rfl)) dX3_want_88 ⟨Nat.le_of_ble_eq_true rfl, Nat.le_of_ble_eq_true rfl⟩) hS (fun q _ h => hFc q h) hFc (fun r88_ u88_ t H1 locs ht hvm hw hB hz1 hk1 hS => ?_)
                replace hw : ((-1) ≤ r88_.toInt ∧ r88_.toInt ≤ 399) ∧ (0 ≤ x1.toInt ∧ x1.toInt < (v1 7).toInt → r88_.toInt = (f3 ((x1 : Int32)).toNatClampNeg).toInt) ∧ (x1.toInt < 0 → r88_.toInt = -1) := hw
                obtain ⟨b_, hX88_0, hX88_1⟩ := hw
                obtain ⟨w88_, a88_, b88_, hP1, hK1, hD1⟩ := hB
                rw [ht] at hP1
                obtain ⟨hP, hD⟩ := va_joinQ (wr := [(h0, .inr (3, mX3 h1 h8 h17 h25 h26 h27 h28 h29 v0)), (h27, zi k27 400 f_41), (h25, .inl (k25, 400, .inr (.inr (.inr (.inr (q74_ 0)))))), (h8, .inr (6, mX6 h9 h10 h11 h12 h13 h14 h15 h16 v8)), (h14, zi k14 400 f14), (h12, zi k12 400 f12), (h9, zi k9 1250 f9), (h10, zi k10 833 f10), (h11, zi k11 833 f11), (h13, zi k13 400 f13), (h26, zi k26 400 f26), (h2, .inl (k2, 400, .inr (.inl f2))), (h4, zi k4 400 f4), (h15, zi k15 400 f15), (h16, zi k16 400 f16)]) (w1 := [(h1, .inr (10, mX10 h2 h3 h4 h5 h6 h7 v1)), (h3, zi k3 400 f3)]) hP hD [1, 4] [0, 2, 3, 5, 6, 7, 8, 9, 10, 11, 12, 13, 14, 15, 16] rfl rfl (by decide) (by decide) hk1 hFc hP1 hD1
                have hP : va_P (dC, dI) vwCl ([(h0, .inr (3, mX3 h1 h8 h17 h25 h26 h27 h28 h29 v0)), (h1, .inr (10, mX10 h2 h3 h4 h5 h6 h7 v1)), (h27, zi k27 400 f_41), (h25, .inl (k25, 400, .inr (.inr (.inr (.inr (q74_ 0)))))), (h3, zi k3 400 f3), (h8, .inr (6, mX6 h9 h10 h11 h12 h13 h14 h15 h16 v8)), (h14, zi k14 400 f14), (h12, zi k12 400 f12), (h9, zi k9 1250 f9), (h10, zi k10 833 f10), (h11, zi k11 833 f11), (h13, zi k13 400 f13), (h26, zi k26 400 f26), (h2, .inl (k2, 400, .inr (.inl f2))), (h4, zi k4 400 f4), (h15, zi k15 400 f15), (h16, zi k16 400 f16)] ++ pl74) H1 := hP.part [0, 15, 1, 2, 16, 3, 4, 5, 6, 7, 8, 9, 10, 11, 12, 13, 14] rfl
                have hD : va_D A ([(h0, .inr (3, mX3 h1 h8 h17 h25 h26 h27 h28 h29 v0)), (h1, .inr (10, mX10 h2 h3 h4 h5 h6 h7 v1)), (h27, zi k27 400 f_41), (h25, .inl (k25, 400, .inr (.inr (.inr (.inr (q74_ 0)))))), (h3, zi k3 400 f3), (h8, .inr (6, mX6 h9 h10 h11 h12 h13 h14 h15 h16 v8)), (h14, zi k14 400 f14), (h12, zi k12 400 f12), (h9, zi k9 1250 f9), (h10, zi k10 833 f10), (h11, zi k11 833 f11), (h13, zi k13 400 f13), (h26, zi k26 400 f26), (h2, .inl (k2, 400, .inr (.inl f2))), (h4, zi k4 400 f4), (h15, zi k15 400 f15), (h16, zi k16 400 f16)] ++ pl74) := hD.part [0, 15, 1, 2, 16, 3, 4, 5, 6, 7, 8, 9, 10, 11, 12, 13, 14] (by decide) rfl
                generalize H1 = H at hP hS ⊢
                clear hz1
                obtain ⟨v82_, hm82⟩ := (show zRd h8 (q74_ 0) pl74 from by assumption) _ (zltc (by omega) (by omega)) _ e_o82.symm
                obtain ⟨p82, q82, e_pl82⟩ := List.append_of_mem hm82
                rw [e_pl82] at hP hD
                have hP : va_P (dC, dI) vwCl ([(h0, .inr (3, mX3 h1 h8 h17 h25 h26 h27 h28 h29 v0)), (h1, .inr (10, mX10 h2 h3 h4 h5 h6 h7 v1)), (h27, zi k27 400 f_41), (h25, .inl (k25, 400, .inr (.inr (.inr (.inr (q74_ 0)))))), (h3, zi k3 400 f3), (h8, .inr (6, mX6 h9 h10 h11 h12 h13 h14 h15 h16 v8)), (h14, zi k14 400 f14), (h12, zi k12 400 f12), (h9, zi k9 1250 f9), (h10, zi k10 833 f10), (h11, zi k11 833 f11), (h13, zi k13 400 f13), (h26, zi k26 400 f26), (h2, .inl (k2, 400, .inr (.inl f2))), (h4, zi k4 400 f4), (h15, zi k15 400 f15), (h16, zi k16 400 f16), (a82_, .inr (8, mX8 h8 v82_))] ++ (p82 ++ q82)) H := zfocP hP
                have hD : va_D A ([(h0, .inr (3, mX3 h1 h8 h17 h25 h26 h27 h28 h29 v0)), (h1, .inr (10, mX10 h2 h3 h4 h5 h6 h7 v1)), (h27, zi k27 400 f_41), (h25, .inl (k25, 400, .inr (.inr (.inr (.inr (q74_ 0)))))), (h3, zi k3 400 f3), (h8, .inr (6, mX6 h9 h10 h11 h12 h13 h14 h15 h16 v8)), (h14, zi k14 400 f14), (h12, zi k12 400 f12), (h9, zi k9 1250 f9), (h10, zi k10 833 f10), (h11, zi k11 833 f11), (h13, zi k13 400 f13), (h26, zi k26 400 f26), (h2, .inl (k2, 400, .inr (.inl f2))), (h4, zi k4 400 f4), (h15, zi k15 400 f15), (h16, zi k16 400 f16), (a82_, .inr (8, mX8 h8 v82_))] ++ (p82 ++ q82)) := zfocD hD
                have hPc := hP.sub (ws' := [(a82_, .inr (8, mX8 h8 v82_)), (h8, .inr (6, mX6 h9 h10 h11 h12 h13 h14 h15 h16 v8)), (h14, zi k14 400 f14), (h12, zi k12 400 f12), (h9, zi k9 1250 f9), (h10, zi k10 833 f10), (h11, zi k11 833 f11), (h13, zi k13 400 f13)]) [17, 5, 6, 7, 8, 9, 10, 11] rfl
                have hDc := hD.sub (ws' := [(a82_, .inr (8, mX8 h8 v82_)), (h8, .inr (6, mX6 h9 h10 h11 h12 h13 h14 h15 h16 v8)), (h14, zi k14 400 f14), (h12, zi k12 400 f12), (h9, zi k9 1250 f9), (h10, zi k10 833 f10), (h11, zi k11 833 f11), (h13, zi k13 400 f13)]) [17, 5, 6, 7, 8, 9, 10, 11] (by decide) rfl
                have hKc := hK.sub (tys' := [(k14, .int), (k12, .int), (k9, .int), (k10, .int), (k11, .int), (k13, .int)]) [3, 4, 5, 6, 7, 8] rfl
                have hFc := va_free (wc := [(a82_, .inr (8, mX8 h8 v82_)), (h8, .inr (6, mX6 h9 h10 h11 h12 h13 h14 h15 h16 v8)), (h14, zi k14 400 f14), (h12, zi k12 400 f12), (h9, zi k9 1250 f9), (h10, zi k10 833 f10), (h11, zi k11 833 f11), (h13, zi k13 400 f13)]) hD hS hA [17, 5, 6, 7, 8, 9, 10, 11] rfl
                refine va_callv (va_runV (As := [.int r88_]) (rest := []) ⟨hx, hb, hml, hown, hG⟩ (sX8_open_0 l dC dI adK adV a82_ h8 h14 h12 h9 h10 h11 h13 h15 h16 k14 k12 k9 k10 k11 k13 H.size v82_ v8 f14 f12 f9 f10 f11 f13 r88_ hv8 hf10 hf13) (cwV 1 hG (zgV zv1210 zv898 zv899 zv134 zv900) rfl rfl rfl (by decide +kernel) ⟨Nat.le_of_ble_eq_true rfl, Nat.le_of_ble_eq_true rfl⟩) ⟨zPc_blind, va_recv hKc hPc (ci := 8) (q0 := 0) rfl rfl, zPc_pre hPc hKc hDc hE hS hFc hZ⟩ rfl rfl hl.1 rfl (lv_room (Nat.le_of_ble_eq_true rfl)) dX3_want_91 ⟨Nat.le_of_ble_eq_true rfl, Nat.le_of_ble_eq_true rfl⟩) hS (fun q _ h => hFc q h) hFc (fun u91_ t H1 locs ht hvm hw hB hz1 hk1 hS => ?_)
                replace hw : (0 ≤ (u91_ 2).toInt ∧ (u91_ 2).toInt ≤ 0) ∧ (0 ≤ (u91_ 3).toInt ∧ (u91_ 3).toInt ≤ 0) ∧ ((-1) ≤ (u91_ 4).toInt ∧ (u91_ 4).toInt ≤ (-1)) ∧ (0 ≤ (u91_ 5).toInt ∧ (u91_ 5).toInt ≤ 0) ∧ (0 ≤ (u91_ 6).toInt ∧ (u91_ 6).toInt ≤ 0) ∧ ((u91_ 4).toInt = -1) ∧ ((u91_ 5).toInt = 0) ∧ ((u91_ 6).toInt = 0) ∧ (zW (0 ≤ r88_.toInt → r88_.toInt ≤ 399 → ∀ B : Nat → List Bool, zPB f9 f10 f11 f12 f13 f14 (v8 8).toInt (v8 9).toInt (v8 10).toInt (v8 11).toInt B → zRr f12 f11 B (u91_ 0).toInt (u91_ 1).toInt (u91_ 2).toInt (u91_ 3).toInt (B ((r88_ : Int32)).toNatClampNeg))) := hw
                obtain ⟨b_, b_, b_, b_, b_, hX91_0, hX91_1, hX91_2, hX91_3⟩ := hw
                obtain ⟨w91_, a91_, b91_, hP1, hK1, hD1⟩ := hB
                rw [ht] at hP1
                obtain ⟨hP, hD⟩ := va_joinQ (wr := [(h0, .inr (3, mX3 h1 h8 h17 h25 h26 h27 h28 h29 v0)), (h1, .inr (10, mX10 h2 h3 h4 h5 h6 h7 v1)), (h27, zi k27 400 f_41), (h25, .inl (k25, 400, .inr (.inr (.inr (.inr (q74_ 0)))))), (h3, zi k3 400 f3), (h26, zi k26 400 f26), (h2, .inl (k2, 400, .inr (.inl f2))), (h4, zi k4 400 f4), (h15, zi k15 400 f15), (h16, zi k16 400 f16)]) (w1 := [(a82_, .inr (8, mX8 h8 (upd (upd (upd (upd (upd (upd (upd v82_ 1 (u91_ 0)) 2 (u91_ 1)) 3 (u91_ 2)) 4 (u91_ 3)) 5 (u91_ 4)) 6 (u91_ 5)) 7 (u91_ 6)))), (h8, .inr (6, mX6 h9 h10 h11 h12 h13 h14 h15 h16 v8)), (h14, zi k14 400 f14), (h12, zi k12 400 f12), (h9, zi k9 1250 f9), (h10, zi k10 833 f10), (h11, zi k11 833 f11), (h13, zi k13 400 f13)]) hP hD [17, 5, 6, 7, 8, 9, 10, 11] [0, 1, 2, 3, 4, 12, 13, 14, 15, 16] rfl rfl (by decide) (by decide) hk1 hFc hP1 hD1
                have hP : va_P (dC, dI) vwCl ([(h0, .inr (3, mX3 h1 h8 h17 h25 h26 h27 h28 h29 v0)), (h1, .inr (10, mX10 h2 h3 h4 h5 h6 h7 v1)), (h27, zi k27 400 f_41), (h25, .inl (k25, 400, .inr (.inr (.inr (.inr (q74_ 0)))))), (h3, zi k3 400 f3), (h8, .inr (6, mX6 h9 h10 h11 h12 h13 h14 h15 h16 v8)), (h14, zi k14 400 f14), (h12, zi k12 400 f12), (h9, zi k9 1250 f9), (h10, zi k10 833 f10), (h11, zi k11 833 f11), (h13, zi k13 400 f13), (h26, zi k26 400 f26), (h2, .inl (k2, 400, .inr (.inl f2))), (h4, zi k4 400 f4), (h15, zi k15 400 f15), (h16, zi k16 400 f16), (a82_, .inr (8, mX8 h8 (upd (upd (upd (upd (upd (upd (upd v82_ 1 (u91_ 0)) 2 (u91_ 1)) 3 (u91_ 2)) 4 (u91_ 3)) 5 (u91_ 4)) 6 (u91_ 5)) 7 (u91_ 6))))] ++ (p82 ++ q82)) H1 := hP.part [0, 1, 2, 3, 4, 11, 12, 13, 14, 15, 16, 17, 5, 6, 7, 8, 9, 10] rfl
                have hD : va_D A ([(h0, .inr (3, mX3 h1 h8 h17 h25 h26 h27 h28 h29 v0)), (h1, .inr (10, mX10 h2 h3 h4 h5 h6 h7 v1)), (h27, zi k27 400 f_41), (h25, .inl (k25, 400, .inr (.inr (.inr (.inr (q74_ 0)))))), (h3, zi k3 400 f3), (h8, .inr (6, mX6 h9 h10 h11 h12 h13 h14 h15 h16 v8)), (h14, zi k14 400 f14), (h12, zi k12 400 f12), (h9, zi k9 1250 f9), (h10, zi k10 833 f10), (h11, zi k11 833 f11), (h13, zi k13 400 f13), (h26, zi k26 400 f26), (h2, .inl (k2, 400, .inr (.inl f2))), (h4, zi k4 400 f4), (h15, zi k15 400 f15), (h16, zi k16 400 f16), (a82_, .inr (8, mX8 h8 (upd (upd (upd (upd (upd (upd (upd v82_ 1 (u91_ 0)) 2 (u91_ 1)) 3 (u91_ 2)) 4 (u91_ 3)) 5 (u91_ 4)) 6 (u91_ 5)) 7 (u91_ 6))))] ++ (p82 ++ q82)) := hD.part [0, 1, 2, 3, 4, 11, 12, 13, 14, 15, 16, 17, 5, 6, 7, 8, 9, 10] (by decide) rfl
                generalize H1 = H at hP hS ⊢
                clear hz1
                refine lv_aload_n hx hb dX3_want_94 rfl (lv_at hl 0 rfl) ?_
                refine va_get (D := (dC, dI)) (ci := 3) (v := .ref h26) (C := RX3) (T := TX3) (N := 10) hx hb hG zuX3 hown hK hP 0 rfl rfl 4 (by decide) (hG _ zv477) (fun _ h9 => h9) rfl dX3_want_95 ?_
                refine lv_aload_n hx hb dX3_want_98 rfl (lv_at hl 0 rfl) ?_
                refine va_get (D := (dC, dI)) (ci := 3) (v := .int (v0 8)) (C := RX3) (T := TX3) (N := 10) hx hb hG zuX3 hown hK hP 0 rfl rfl 8 (by decide) (hG _ zv481) (fun _ h9 => h9) rfl dX3_want_99 ?_
                refine lv_iload_n hx hb dX3_want_102 rfl (lv_at hl 1 rfl) ?_
                refine va_iast hx hb hK hP hD hS 12 9 rfl rfl (zin_lit ⟨by omega, by omega⟩) dX3_want_103 (fun H locs hP hD hS => ?_)
                obtain ⟨f_103, e_f_103⟩ : ∃ z : Nat → Int32, z = upd f26 ((v0 8) : Int32).toNatClampNeg x1 := ⟨_, rfl⟩
                have hP : va_P (dC, dI) vwCl ([(h0, .inr (3, mX3 h1 h8 h17 h25 h26 h27 h28 h29 v0)), (h1, .inr (10, mX10 h2 h3 h4 h5 h6 h7 v1)), (h27, zi k27 400 f_41), (h25, .inl (k25, 400, .inr (.inr (.inr (.inr (q74_ 0)))))), (h3, zi k3 400 f3), (h8, .inr (6, mX6 h9 h10 h11 h12 h13 h14 h15 h16 v8)), (h14, zi k14 400 f14), (h12, zi k12 400 f12), (h9, zi k9 1250 f9), (h10, zi k10 833 f10), (h11, zi k11 833 f11), (h13, zi k13 400 f13), (h26, zi k26 400 f_103), (h2, .inl (k2, 400, .inr (.inl f2))), (h4, zi k4 400 f4), (h15, zi k15 400 f15), (h16, zi k16 400 f16), (a82_, .inr (8, mX8 h8 (upd (upd (upd (upd (upd (upd (upd v82_ 1 (u91_ 0)) 2 (u91_ 1)) 3 (u91_ 2)) 4 (u91_ 3)) 5 (u91_ 4)) 6 (u91_ 5)) 7 (u91_ 6))))] ++ (p82 ++ q82)) H := by rw [e_f_103]; exact hP
                have hD : va_D A ([(h0, .inr (3, mX3 h1 h8 h17 h25 h26 h27 h28 h29 v0)), (h1, .inr (10, mX10 h2 h3 h4 h5 h6 h7 v1)), (h27, zi k27 400 f_41), (h25, .inl (k25, 400, .inr (.inr (.inr (.inr (q74_ 0)))))), (h3, zi k3 400 f3), (h8, .inr (6, mX6 h9 h10 h11 h12 h13 h14 h15 h16 v8)), (h14, zi k14 400 f14), (h12, zi k12 400 f12), (h9, zi k9 1250 f9), (h10, zi k10 833 f10), (h11, zi k11 833 f11), (h13, zi k13 400 f13), (h26, zi k26 400 f_103), (h2, .inl (k2, 400, .inr (.inl f2))), (h4, zi k4 400 f4), (h15, zi k15 400 f15), (h16, zi k16 400 f16), (a82_, .inr (8, mX8 h8 (upd (upd (upd (upd (upd (upd (upd v82_ 1 (u91_ 0)) 2 (u91_ 1)) 3 (u91_ 2)) 4 (u91_ 3)) 5 (u91_ 4)) 6 (u91_ 5)) 7 (u91_ 6))))] ++ (p82 ++ q82)) := by rw [e_f_103]; exact hD
                have hf_103 : zA 0 399 f_103 := by rw [e_f_103]; exact zA_upd hf26 (show 0 ≤ (x1 : Int32).toInt from by omega) (show (x1 : Int32).toInt ≤ 399 from by omega)
                refine lv_aload_n hx hb dX3_want_104 rfl (lv_at hl 0 rfl) ?_
                refine lv_dup hx hb dX3_want_105 rfl ?_
                refine va_get (D := (dC, dI)) (ci := 3) (v := .int (v0 8)) (C := RX3) (T := TX3) (N := 10) hx hb hG zuX3 hown hK hP 0 rfl rfl 8 (by decide) (hG _ zv481) (fun _ h9 => h9) rfl dX3_want_106 ?_
                refine lv_iconst (v := 1) hx hb dX3_want_109 (by decide) ?_
                refine lv_iadd hx hb dX3_want_110 ?_
                refine lv_topi (fun z110 e_z110 => ?_)
                have b_ := zadd rfl zk_1 e_z110 (by omega) (by omega)
                refine va_put (D := (dC, dI)) (ci := 3) (v := .int z110) (ty := .int) (C := RX3) (T := TX3) (N := 10) hx hb hG zuX3 tyX3 tyX3_ok nmX3 hown hK hP hD hS 0 rfl rfl 8 (by decide) (hG _ zv481) (fun _ h9 => h9) rfl (by decide +kernel) rfl rfl (Nat.le_of_ble_eq_true rfl) dX3_want_111 (fun H locs hP hD hS => ?_)
                have hP : va_P (dC, dI) vwCl ([(h0, .inr (3, mX3 h1 h8 h17 h25 h26 h27 h28 h29 (upd v0 8 z110))), (h1, .inr (10, mX10 h2 h3 h4 h5 h6 h7 v1)), (h27, zi k27 400 f_41), (h25, .inl (k25, 400, .inr (.inr (.inr (.inr (q74_ 0)))))), (h3, zi k3 400 f3), (h8, .inr (6, mX6 h9 h10 h11 h12 h13 h14 h15 h16 v8)), (h14, zi k14 400 f14), (h12, zi k12 400 f12), (h9, zi k9 1250 f9), (h10, zi k10 833 f10), (h11, zi k11 833 f11), (h13, zi k13 400 f13), (h26, zi k26 400 f_103), (h2, .inl (k2, 400, .inr (.inl f2))), (h4, zi k4 400 f4), (h15, zi k15 400 f15), (h16, zi k16 400 f16), (a82_, .inr (8, mX8 h8 (upd (upd (upd (upd (upd (upd (upd v82_ 1 (u91_ 0)) 2 (u91_ 1)) 3 (u91_ 2)) 4 (u91_ 3)) 5 (u91_ 4)) 6 (u91_ 5)) 7 (u91_ 6))))] ++ (p82 ++ q82)) H := hP
                have hD : va_D A ([(h0, .inr (3, mX3 h1 h8 h17 h25 h26 h27 h28 h29 (upd v0 8 z110))), (h1, .inr (10, mX10 h2 h3 h4 h5 h6 h7 v1)), (h27, zi k27 400 f_41), (h25, .inl (k25, 400, .inr (.inr (.inr (.inr (q74_ 0)))))), (h3, zi k3 400 f3), (h8, .inr (6, mX6 h9 h10 h11 h12 h13 h14 h15 h16 v8)), (h14, zi k14 400 f14), (h12, zi k12 400 f12), (h9, zi k9 1250 f9), (h10, zi k10 833 f10), (h11, zi k11 833 f11), (h13, zi k13 400 f13), (h26, zi k26 400 f_103), (h2, .inl (k2, 400, .inr (.inl f2))), (h4, zi k4 400 f4), (h15, zi k15 400 f15), (h16, zi k16 400 f16), (a82_, .inr (8, mX8 h8 (upd (upd (upd (upd (upd (upd (upd v82_ 1 (u91_ 0)) 2 (u91_ 1)) 3 (u91_ 2)) 4 (u91_ 3)) 5 (u91_ 4)) 6 (u91_ 5)) 7 (u91_ 6))))] ++ (p82 ++ q82)) := hD
                obtain ⟨plx7, e_plx7⟩ : ∃ z : va_W, z = (a82_, .inr (8, mX8 h8 (upd (upd (upd (upd (upd (upd (upd v82_ 1 (u91_ 0)) 2 (u91_ 1)) 3 (u91_ 2)) 4 (u91_ 3)) 5 (u91_ 4)) 6 (u91_ 5)) 7 (u91_ 6)))) :: (p82 ++ q82) := ⟨_, rfl⟩
                have e_plx_ := e_plx7
                have hP : va_P (dC, dI) vwCl ([(h0, .inr (3, mX3 h1 h8 h17 h25 h26 h27 h28 h29 (upd v0 8 z110))), (h1, .inr (10, mX10 h2 h3 h4 h5 h6 h7 v1)), (h27, zi k27 400 f_41), (h25, .inl (k25, 400, .inr (.inr (.inr (.inr (q74_ 0)))))), (h3, zi k3 400 f3), (h8, .inr (6, mX6 h9 h10 h11 h12 h13 h14 h15 h16 v8)), (h14, zi k14 400 f14), (h12, zi k12 400 f12), (h9, zi k9 1250 f9), (h10, zi k10 833 f10), (h11, zi k11 833 f11), (h13, zi k13 400 f13), (h26, zi k26 400 f_103), (h2, .inl (k2, 400, .inr (.inl f2))), (h4, zi k4 400 f4), (h15, zi k15 400 f15), (h16, zi k16 400 f16)] ++ plx7) H := by rw [e_plx7]; exact hP
                have hD : va_D A ([(h0, .inr (3, mX3 h1 h8 h17 h25 h26 h27 h28 h29 (upd v0 8 z110))), (h1, .inr (10, mX10 h2 h3 h4 h5 h6 h7 v1)), (h27, zi k27 400 f_41), (h25, .inl (k25, 400, .inr (.inr (.inr (.inr (q74_ 0)))))), (h3, zi k3 400 f3), (h8, .inr (6, mX6 h9 h10 h11 h12 h13 h14 h15 h16 v8)), (h14, zi k14 400 f14), (h12, zi k12 400 f12), (h9, zi k9 1250 f9), (h10, zi k10 833 f10), (h11, zi k11 833 f11), (h13, zi k13 400 f13), (h26, zi k26 400 f_103), (h2, .inl (k2, 400, .inr (.inl f2))), (h4, zi k4 400 f4), (h15, zi k15 400 f15), (h16, zi k16 400 f16)] ++ plx7) := by rw [e_plx7]; exact hD
                have hpl_ : zRd h8 (q74_ 0) plx7 := by rw [e_plx7]; exact zRd_put (show zRd h8 (q74_ 0) pl74 from by first | assumption | exact zKp_rf | exact zOt_rf) e_pl82
                have hpl_ : zKp h8 pl0 plx7 := by rw [e_plx7]; exact zKp_put (show zKp h8 pl0 pl74 from by first | assumption | exact zKp_rf | exact zOt_rf) e_pl82
                refine W.widen (k := 1) (n := 9) (by decide) (by decide) ?_
                have hpost : (0 ≤ z110.toInt ∧ z110.toInt ≤ 400) ∧ ((v0 8).toInt ≤ z110.toInt) ∧ (z110.toInt ≤ (v0 8).toInt + 1) ∧ (z110.toInt = (v0 8).toInt + 1) := ⟨(by first | with_reducible assumption | exact ⟨by omega, by omega⟩), by omega, by omega, by omega⟩
                have hP9 : va_P (dC, dI) vwCl ([(h0, .inr (3, mX3 h1 h8 h17 h25 h26 h27 h28 h29 (upd v0 8 z110))), (h1, .inr (10, mX10 h2 h3 h4 h5 h6 h7 v1)), (h27, zi k27 400 f_41), (h25, .inl (k25, 400, .inr (.inr (.inr (.inr (q74_ 0)))))), (h3, zi k3 400 f3), (h8, .inr (6, mX6 h9 h10 h11 h12 h13 h14 h15 h16 v8)), (h14, zi k14 400 f14), (h12, zi k12 400 f12), (h9, zi k9 1250 f9), (h10, zi k10 833 f10), (h11, zi k11 833 f11), (h13, zi k13 400 f13), (h26, zi k26 400 f_103), (h2, .inl (k2, 400, .inr (.inl f2))), (h4, zi k4 400 f4), (h15, zi k15 400 f15), (h16, zi k16 400 f16)] ++ plx7) H := hP
                have hD9 : va_D A ([(h0, .inr (3, mX3 h1 h8 h17 h25 h26 h27 h28 h29 (upd v0 8 z110))), (h1, .inr (10, mX10 h2 h3 h4 h5 h6 h7 v1)), (h27, zi k27 400 f_41), (h25, .inl (k25, 400, .inr (.inr (.inr (.inr (q74_ 0)))))), (h3, zi k3 400 f3), (h8, .inr (6, mX6 h9 h10 h11 h12 h13 h14 h15 h16 v8)), (h14, zi k14 400 f14), (h12, zi k12 400 f12), (h9, zi k9 1250 f9), (h10, zi k10 833 f10), (h11, zi k11 833 f11), (h13, zi k13 400 f13), (h26, zi k26 400 f_103), (h2, .inl (k2, 400, .inr (.inl f2))), (h4, zi k4 400 f4), (h15, zi k15 400 f15), (h16, zi k16 400 f16)] ++ plx7) := hD
                have hB0 : zRd h8 (q74_ 0) plx7 := by assumption
                have hB1 : zKp h8 pl0 plx7 := by first | assumption | exact zKp_rf
                have hB2 : zWtc h8 f25 pl0 f2 f3 f4 (v1 7).toInt f9 f10 f11 f12 f13 f14 (v8 8).toInt (v8 9).toInt (v8 10).toInt (v8 11).toInt f15 f16 f26 f27 (v0 8).toInt (q74_ 0) plx7 f_103 f_41 z110.toInt x1.toInt := by first | exact zWt_n (by omega) | exact zWt_y hI74_1 e_o82.symm e_pl82 e_plx_ e_f_41 (by decide) e_f_103 (by omega) (by omega) (by omega) (by omega) (by omega) (by omega) hX88_0 hX91_3 hX91_0 hX91_2 rfl rfl rfl rfl rfl rfl
                exact W.vret hx hb hr (fun t ht hW => ⟨⟨(fun i => ([z110] : List (Int32)).getD i 0), rfl, hpost, (fun _ => 0), (fun i => ([f_41, f_103] : List (Nat → Int32)).getD i (fun _ => 0)), (fun _ => (fun _ => 0)), (fun i => ([(q74_ 0)] : List (Nat → Option Nat)).getD i (fun _ => none)), plx7, hf_103, hB0, hB1, hB2, by rw [ht]; exact hP9, va_K.moved hW.alike hK, hD9⟩, hS.F ht⟩) hS.2.2 dX3_want_114
            · skip
              refine lv_ifnonnull (tgt := 74) hx hb dX3_want_51 (by decide) ?_
              refine W.widen (k := 1) (n := 9) (by decide) (by decide) ?_
              have hc : va_P (dC, dI) vwCl ([(h0, .inr (3, mX3 h1 h8 h17 h25 h26 h27 h28 h29 v0)), (h1, .inr (10, mX10 h2 h3 h4 h5 h6 h7 v1)), (h27, zi k27 400 f_41), (h25, .inl (k25, 400, .inr (.inr (.inr (.inr f25))))), (h3, zi k3 400 f3), (h8, .inr (6, mX6 h9 h10 h11 h12 h13 h14 h15 h16 v8)), (h14, zi k14 400 f14), (h12, zi k12 400 f12), (h9, zi k9 1250 f9), (h10, zi k10 833 f10), (h11, zi k11 833 f11), (h13, zi k13 400 f13), (h26, zi k26 400 f26), (h2, .inl (k2, 400, .inr (.inl f2))), (h4, zi k4 400 f4), (h15, zi k15 400 f15), (h16, zi k16 400 f16)] ++ pl0) H ∧ va_D A ([(h0, .inr (3, mX3 h1 h8 h17 h25 h26 h27 h28 h29 v0)), (h1, .inr (10, mX10 h2 h3 h4 h5 h6 h7 v1)), (h27, zi k27 400 f_41), (h25, .inl (k25, 400, .inr (.inr (.inr (.inr f25))))), (h3, zi k3 400 f3), (h8, .inr (6, mX6 h9 h10 h11 h12 h13 h14 h15 h16 v8)), (h14, zi k14 400 f14), (h12, zi k12 400 f12), (h9, zi k9 1250 f9), (h10, zi k10 833 f10), (h11, zi k11 833 f11), (h13, zi k13 400 f13), (h26, zi k26 400 f26), (h2, .inl (k2, 400, .inr (.inl f2))), (h4, zi k4 400 f4), (h15, zi k15 400 f15), (h16, zi k16 400 f16)] ++ pl0) ∧ va_S A s.heap H locs ∧ lv_has ls 2 [(0, .ref h0), (1, .int x1)] ∧ (f25 (((v0 8) : Int32)).toNatClampNeg ≠ none) ∧ (zWx h8 f25 pl0 f25 pl0 (((v0 8) : Int32)).toNatClampNeg) ∧ (zRd h8 f25 pl0) ∧ (zKp h8 pl0 pl0) := ⟨hP, hD, hS, lv_sub hl [0, 1] rfl, by first | (rw [e_f_73, va_up_self]; exact fun h => by cases h) | exact fun h => by (rw [h] at e_o50; cases e_o50), by first | exact zWx_n (by assumption) hD e_plx_ e_f_73 | exact zWx_r, by assumption, by first | assumption | exact zKp_rf⟩
              exact hJ74 H locs ls (fun _ => 0) (fun _ => 0) (fun _ => (fun _ => 0)) (fun _ => (fun _ => 0)) ⟨(fun i => ([f25] : List (Nat → Option Nat)).getD i (fun _ => none)), pl0, hc⟩
        · skip
          have b_ := zF_lt rfl zk_400 c_
          refine W.widen (k := 1) (n := 9) (by decide) (by decide) ?_
          have hpost : (0 ≤ (v0 8).toInt ∧ (v0 8).toInt ≤ 400) ∧ ((v0 8).toInt ≤ (v0 8).toInt) ∧ ((v0 8).toInt ≤ (v0 8).toInt + 1) ∧ ((v0 8).toInt = (v0 8).toInt + 1) := ⟨(by first | with_reducible assumption | exact ⟨by omega, by omega⟩), by omega, by omega, by omega⟩
          have hP9 : va_P (dC, dI) vwCl ([(h0, .inr (3, mX3 h1 h8 h17 h25 h26 h27 h28 h29 (upd v0 8 (v0 8)))), (h1, .inr (10, mX10 h2 h3 h4 h5 h6 h7 v1)), (h27, zi k27 400 f27), (h25, .inl (k25, 400, .inr (.inr (.inr (.inr f25))))), (h3, zi k3 400 f3), (h8, .inr (6, mX6 h9 h10 h11 h12 h13 h14 h15 h16 v8)), (h14, zi k14 400 f14), (h12, zi k12 400 f12), (h9, zi k9 1250 f9), (h10, zi k10 833 f10), (h11, zi k11 833 f11), (h13, zi k13 400 f13), (h26, zi k26 400 f26), (h2, .inl (k2, 400, .inr (.inl f2))), (h4, zi k4 400 f4), (h15, zi k15 400 f15), (h16, zi k16 400 f16)] ++ pl0) H := hP
          have hD9 : va_D A ([(h0, .inr (3, mX3 h1 h8 h17 h25 h26 h27 h28 h29 (upd v0 8 (v0 8)))), (h1, .inr (10, mX10 h2 h3 h4 h5 h6 h7 v1)), (h27, zi k27 400 f27), (h25, .inl (k25, 400, .inr (.inr (.inr (.inr f25))))), (h3, zi k3 400 f3), (h8, .inr (6, mX6 h9 h10 h11 h12 h13 h14 h15 h16 v8)), (h14, zi k14 400 f14), (h12, zi k12 400 f12), (h9, zi k9 1250 f9), (h10, zi k10 833 f10), (h11, zi k11 833 f11), (h13, zi k13 400 f13), (h26, zi k26 400 f26), (h2, .inl (k2, 400, .inr (.inl f2))), (h4, zi k4 400 f4), (h15, zi k15 400 f15), (h16, zi k16 400 f16)] ++ pl0) := hD
          have hB0 : zRd h8 f25 pl0 := by assumption
          have hB1 : zKp h8 pl0 pl0 := by first | assumption | exact zKp_rf
          have hB2 : zWtc h8 f25 pl0 f2 f3 f4 (v1 7).toInt f9 f10 f11 f12 f13 f14 (v8 8).toInt (v8 9).toInt (v8 10).toInt (v8 11).toInt f15 f16 f26 f27 (v0 8).toInt f25 pl0 f26 f27 (v0 8).toInt x1.toInt := by first | exact zWt_n (by omega) | exact zWt_y hI74_1 e_o82.symm e_pl82 e_plx_ e_f_41 (by decide) e_f_103 (by omega) (by omega) (by omega) (by omega) (by omega) (by omega) hX88_0 hX91_3 hX91_0 hX91_2 rfl rfl rfl rfl rfl rfl
          exact W.vret hx hb hr (fun t ht hW => ⟨⟨(fun i => ([(v0 8)] : List (Int32)).getD i 0), rfl, hpost, (fun _ => 0), (fun i => ([f27, f26] : List (Nat → Int32)).getD i (fun _ => 0)), (fun _ => (fun _ => 0)), (fun i => ([f25] : List (Nat → Option Nat)).getD i (fun _ => none)), pl0, hf26, hB0, hB1, hB2, by rw [ht]; exact hP9, va_K.moved hW.alike hK, hD9⟩, hS.F ht⟩) hS.2.2 dX3_want_34
