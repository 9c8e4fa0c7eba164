set_option maxHeartbeats 4000000 in
set_option maxRecDepth 100000 in
theorem kX6_init_0 (l : Launch) (dC : Nat → ClassId) (dI : Nat → Nat → Nat) (adK adV : Nat → Nat) (h0 : Nat) (sz : Nat) : Met l yX6_init (zw yX6_init cX6_init 1 none) { frames := 1, cells := 8, slots := 4916, locals := 20 } (zPc dC dI adK adV [.ref h0] sz [(h0, .inr (6, [.null, .null, .null, .null, .null, .null, .null, .null, .int 0, .int 0, .int 0, .int 0]))] []) (va_Qv (fun _ : Unit => True) (fun (_ : Unit) (t : State) => ∃ (q0 q1 q2 q3 q4 q5 q6 q7 : Nat) (j0 j1 j2 j3 j4 j5 j6 j7 : ClassId), va_P (dC, dI) vwCl [(h0, .inr (6, [.ref q0, .ref q1, .ref q2, .ref q3, .ref q4, .ref q5, .ref q6, .ref q7, .int 0, .int 0, .int 0, .int 0])), (q0, zi j0 1250 (fun _ => 0)), (q1, zi j1 833 (fun _ => 0)), (q2, zi j2 833 (fun _ => 0)), (q3, zi j3 400 (fun _ => 0)), (q4, zi j4 400 (fun _ => 0)), (q5, zi j5 400 (fun _ => 0)), (q6, zi j6 400 (fun _ => 0)), (q7, zi j7 400 (fun _ => 0))] t.heap ∧ va_K (dC, dI) vwCl [(j0, .int), (j1, .int), (j2, .int), (j3, .int), (j4, .int), (j5, .int), (j6, .int), (j7, .int)] t ∧ va_D (va_A [(h0, .inr (6, [.null, .null, .null, .null, .null, .null, .null, .null, .int 0, .int 0, .int 0, .int 0]))] sz) [(h0, .inr (6, [.ref q0, .ref q1, .ref q2, .ref q3, .ref q4, .ref q5, .ref q6, .ref q7, .int 0, .int 0, .int 0, .int 0])), (q0, zi j0 1250 (fun _ => 0)), (q1, zi j1 833 (fun _ => 0)), (q2, zi j2 833 (fun _ => 0)), (q3, zi j3 400 (fun _ => 0)), (q4, zi j4 400 (fun _ => 0)), (q5, zi j5 400 (fun _ => 0)), (q6, zi j6 400 (fun _ => 0)), (q7, zi j7 400 (fun _ => 0))]) (va_A [(h0, .inr (6, [.null, .null, .null, .null, .null, .null, .null, .null, .int 0, .int 0, .int 0, .int 0]))] sz)) 8 4916 (va_A [(h0, .inr (6, [.null, .null, .null, .null, .null, .null, .null, .null, .int 0, .int 0, .int 0, .int 0]))] sz) := by
  refine Met.ofW (cc := cX6_init) (maxL := 1) (ret := none) (by decide) rfl ?_
  intro p e s m args below meth c s₁ B hml hv
  obtain ⟨rfl, hsz, hP, hK, hD0, hE, hZ⟩ := hv
  have hx := B.exec
  have hb := B.bytes
  have hr := B.returns
  have hG : ∀ w ∈ zG, w.before _ s = true := fun w h => atoms_spec (ws := (zw yX6_init cX6_init 1 none)) B.pre w (List.mem_cons_of_mem _ h)
  have hown : s.vm.findClass RX6 = some m.cls := findClass_of_methodNamed B.named
  have hlocks := B.notSynchronized
  have hin : meth.name = "<init>" := (name_of_methodNamed B.named B.method).1
  subst hsz
  have hD := hD0.self (sz := s.heap.size)
  generalize hAe : va_A [(h0, .inr (6, [.null, .null, .null, .null, .null, .null, .null, .null, .int 0, .int 0, .int 0, .int 0]))] s.heap.size = A at hD hZ ⊢
  have hA : ∀ q : Nat, s.heap.size ≤ q → A q := fun q h => by rw [← hAe]; exact Or.inr h
  have hS : va_S A s.heap s.heap [] := va_S.rf
  have hl := lv_entry ([.ref h0]) (n := 1) (Nat.le_of_ble_eq_true rfl)
  rw [lg_entry_eq]
  generalize (lg_sl ([.ref h0]) ++ List.replicate (1 - (lg_sl ([.ref h0])).length) Slot.unset).toArray = ls at hl ⊢
  have hl : lv_has ls 1 [(0, .ref h0)] := hl
  refine lv_aload_n hx hb dX6_init_0 rfl (lv_at hl 0 rfl) ?_
  refine W.objInit hx hb hown (hG _ zv247) (hG _ zv161) (hG _ zv162) rfl (by rw [hml]; exact hl.1) rfl dX6_init_1 (Nat.le_of_ble_eq_true rfl) (Nat.le_of_ble_eq_true rfl) ?_
  refine W.eq (g2 := F0 m 4 ls []) rfl ?_
  refine lv_aload_n hx hb dX6_init_4 rfl (lv_at hl 0 rfl) ?_
  refine lv_sipush (v := 1250) hx hb dX6_init_5 (by decide) ?_
  refine va_newa (atype := .int) (ty := .int) (N' := 1250) (a0 := (1250, .inl (fun _ => 0))) hx hb (hG _ zv214) rfl hK hP hD hS hA (fun _ => rfl) (by decide) (by decide +kernel) (by decide +kernel) (Nat.le_of_ble_eq_true rfl) (Nat.le_of_ble_eq_true rfl) dX6_init_8 (fun q_286 k_287 H hK hP hD hS => ?_)
  have hK : va_K (dC, dI) vwCl [(k_287, .int)] s := hK
  have hP : va_P (dC, dI) vwCl [(h0, .inr (6, [.null, .null, .null, .null, .null, .null, .null, .null, .int 0, .int 0, .int 0, .int 0])), (q_286, zi k_287 1250 (fun _ => 0))] H := hP
  have hD : va_D A [(h0, .inr (6, [.null, .null, .null, .null, .null, .null, .null, .null, .int 0, .int 0, .int 0, .int 0])), (q_286, zi k_287 1250 (fun _ => 0))] := hD
  refine W.widen (k := 1) (n := 1250) (by decide) (by decide) ?_
  refine va_putF (D := (dC, dI)) (ci := 6) (v := .ref q_286) (ty := .array .int) (C := RX6) (T := TX6) (N := 12) hx hb hG zuX6 tyX6 tyX6_ok nmX6 hown hK hP hD hS 0 rfl rfl 0 (by decide) (hG _ zv248) (fun _ h9 => h9) rfl hin rfl (by decide +kernel) rfl rfl (Nat.le_of_ble_eq_true rfl) dX6_init_10 (fun H locs hP hD hS => ?_)
  have hP : va_P (dC, dI) vwCl [(h0, .inr (6, [.ref q_286, .null, .null, .null, .null, .null, .null, .null, .int 0, .int 0, .int 0, .int 0])), (q_286, zi k_287 1250 (fun _ => 0))] H := hP
  have hD : va_D A [(h0, .inr (6, [.ref q_286, .null, .null, .null, .null, .null, .null, .null, .int 0, .int 0, .int 0, .int 0])), (q_286, zi k_287 1250 (fun _ => 0))] := hD
  refine lv_aload_n hx hb dX6_init_13 rfl (lv_at hl 0 rfl) ?_
  refine lv_sipush (v := 833) hx hb dX6_init_14 (by decide) ?_
  refine va_newa (atype := .int) (ty := .int) (N' := 833) (a0 := (833, .inl (fun _ => 0))) hx hb (hG _ zv214) rfl hK hP hD hS hA (fun _ => rfl) (by decide) (by decide +kernel) (by decide +kernel) (Nat.le_of_ble_eq_true rfl) (Nat.le_of_ble_eq_true rfl) dX6_init_17 (fun q_289 k_290 H hK hP hD hS => ?_)
  have hK : va_K (dC, dI) vwCl [(k_287, .int), (k_290, .int)] s := hK
  have hP : va_P (dC, dI) vwCl [(h0, .inr (6, [.ref q_286, .null, .null, .null, .null, .null, .null, .null, .int 0, .int 0, .int 0, .int 0])), (q_286, zi k_287 1250 (fun _ => 0)), (q_289, zi k_290 833 (fun _ => 0))] H := hP
  have hD : va_D A [(h0, .inr (6, [.ref q_286, .null, .null, .null, .null, .null, .null, .null, .int 0, .int 0, .int 0, .int 0])), (q_286, zi k_287 1250 (fun _ => 0)), (q_289, zi k_290 833 (fun _ => 0))] := hD
  refine W.widen (k := 2) (n := 2083) (by decide) (by decide) ?_
  refine va_putF (D := (dC, dI)) (ci := 6) (v := .ref q_289) (ty := .array .int) (C := RX6) (T := TX6) (N := 12) hx hb hG zuX6 tyX6 tyX6_ok nmX6 hown hK hP hD hS 0 rfl rfl 1 (by decide) (hG _ zv249) (fun _ h9 => h9) rfl hin rfl (by decide +kernel) rfl rfl (Nat.le_of_ble_eq_true rfl) dX6_init_19 (fun H locs hP hD hS => ?_)
  have hP : va_P (dC, dI) vwCl [(h0, .inr (6, [.ref q_286, .ref q_289, .null, .null, .null, .null, .null, .null, .int 0, .int 0, .int 0, .int 0])), (q_286, zi k_287 1250 (fun _ => 0)), (q_289, zi k_290 833 (fun _ => 0))] H := hP
  have hD : va_D A [(h0, .inr (6, [.ref q_286, .ref q_289, .null, .null, .null, .null, .null, .null, .int 0, .int 0, .int 0, .int 0])), (q_286, zi k_287 1250 (fun _ => 0)), (q_289, zi k_290 833 (fun _ => 0))] := hD
  refine lv_aload_n hx hb dX6_init_22 rfl (lv_at hl 0 rfl) ?_
  refine lv_sipush (v := 833) hx hb dX6_init_23 (by decide) ?_
  refine va_newa (atype := .int) (ty := .int) (N' := 833) (a0 := (833, .inl (fun _ => 0))) hx hb (hG _ zv214) rfl hK hP hD hS hA (fun _ => rfl) (by decide) (by decide +kernel) (by decide +kernel) (Nat.le_of_ble_eq_true rfl) (Nat.le_of_ble_eq_true rfl) dX6_init_26 (fun q_292 k_293 H hK hP hD hS => ?_)
  have hK : va_K (dC, dI) vwCl [(k_287, .int), (k_290, .int), (k_293, .int)] s := hK
  have hP : va_P (dC, dI) vwCl [(h0, .inr (6, [.ref q_286, .ref q_289, .null, .null, .null, .null, .null, .null, .int 0, .int 0, .int 0, .int 0])), (q_286, zi k_287 1250 (fun _ => 0)), (q_289, zi k_290 833 (fun _ => 0)), (q_292, zi k_293 833 (fun _ => 0))] H := hP
  have hD : va_D A [(h0, .inr (6, [.ref q_286, .ref q_289, .null, .null, .null, .null, .null, .null, .int 0, .int 0, .int 0, .int 0])), (q_286, zi k_287 1250 (fun _ => 0)), (q_289, zi k_290 833 (fun _ => 0)), (q_292, zi k_293 833 (fun _ => 0))] := hD
  refine W.widen (k := 3) (n := 2916) (by decide) (by decide) ?_
  refine va_putF (D := (dC, dI)) (ci := 6) (v := .ref q_292) (ty := .array .int) (C := RX6) (T := TX6) (N := 12) hx hb hG zuX6 tyX6 tyX6_ok nmX6 hown hK hP hD hS 0 rfl rfl 2 (by decide) (hG _ zv250) (fun _ h9 => h9) rfl hin rfl (by decide +kernel) rfl rfl (Nat.le_of_ble_eq_true rfl) dX6_init_28 (fun H locs hP hD hS => ?_)
  have hP : va_P (dC, dI) vwCl [(h0, .inr (6, [.ref q_286, .ref q_289, .ref q_292, .null, .null, .null, .null, .null, .int 0, .int 0, .int 0, .int 0])), (q_286, zi k_287 1250 (fun _ => 0)), (q_289, zi k_290 833 (fun _ => 0)), (q_292, zi k_293 833 (fun _ => 0))] H := hP
  have hD : va_D A [(h0, .inr (6, [.ref q_286, .ref q_289, .ref q_292, .null, .null, .null, .null, .null, .int 0, .int 0, .int 0, .int 0])), (q_286, zi k_287 1250 (fun _ => 0)), (q_289, zi k_290 833 (fun _ => 0)), (q_292, zi k_293 833 (fun _ => 0))] := hD
  refine lv_aload_n hx hb dX6_init_31 rfl (lv_at hl 0 rfl) ?_
  refine lv_sipush (v := 400) hx hb dX6_init_32 (by decide) ?_
  refine va_newa (atype := .int) (ty := .int) (N' := 400) (a0 := (400, .inl (fun _ => 0))) hx hb (hG _ zv214) rfl hK hP hD hS hA (fun _ => rfl) (by decide) (by decide +kernel) (by decide +kernel) (Nat.le_of_ble_eq_true rfl) (Nat.le_of_ble_eq_true rfl) dX6_init_35 (fun q_295 k_296 H hK hP hD hS => ?_)
  have hK : va_K (dC, dI) vwCl [(k_287, .int), (k_290, .int), (k_293, .int), (k_296, .int)] s := hK
  have hP : va_P (dC, dI) vwCl [(h0, .inr (6, [.ref q_286, .ref q_289, .ref q_292, .null, .null, .null, .null, .null, .int 0, .int 0, .int 0, .int 0])), (q_286, zi k_287 1250 (fun _ => 0)), (q_289, zi k_290 833 (fun _ => 0)), (q_292, zi k_293 833 (fun _ => 0)), (q_295, zi k_296 400 (fun _ => 0))] H := hP
  have hD : va_D A [(h0, .inr (6, [.ref q_286, .ref q_289, .ref q_292, .null, .null, .null, .null, .null, .int 0, .int 0, .int 0, .int 0])), (q_286, zi k_287 1250 (fun _ => 0)), (q_289, zi k_290 833 (fun _ => 0)), (q_292, zi k_293 833 (fun _ => 0)), (q_295, zi k_296 400 (fun _ => 0))] := hD
  refine W.widen (k := 4) (n := 3316) (by decide) (by decide) ?_
  refine va_putF (D := (dC, dI)) (ci := 6) (v := .ref q_295) (ty := .array .int) (C := RX6) (T := TX6) (N := 12) hx hb hG zuX6 tyX6 tyX6_ok nmX6 hown hK hP hD hS 0 rfl rfl 3 (by decide) (hG _ zv251) (fun _ h9 => h9) rfl hin rfl (by decide +kernel) rfl rfl (Nat.le_of_ble_eq_true rfl) dX6_init_37 (fun H locs hP hD hS => ?_)
  have hP : va_P (dC, dI) vwCl [(h0, .inr (6, [.ref q_286, .ref q_289, .ref q_292, .ref q_295, .null, .null, .null, .null, .int 0, .int 0, .int 0, .int 0])), (q_286, zi k_287 1250 (fun _ => 0)), (q_289, zi k_290 833 (fun _ => 0)), (q_292, zi k_293 833 (fun _ => 0)), (q_295, zi k_296 400 (fun _ => 0))] H := hP
  have hD : va_D A [(h0, .inr (6, [.ref q_286, .ref q_289, .ref q_292, .ref q_295, .null, .null, .null, .null, .int 0, .int 0, .int 0, .int 0])), (q_286, zi k_287 1250 (fun _ => 0)), (q_289, zi k_290 833 (fun _ => 0)), (q_292, zi k_293 833 (fun _ => 0)), (q_295, zi k_296 400 (fun _ => 0))] := hD
  refine lv_aload_n hx hb dX6_init_40 rfl (lv_at hl 0 rfl) ?_
  refine lv_sipush (v := 400) hx hb dX6_init_41 (by decide) ?_
  refine va_newa (atype := .int) (ty := .int) (N' := 400) (a0 := (400, .inl (fun _ => 0))) hx hb (hG _ zv214) rfl hK hP hD hS hA (fun _ => rfl) (by decide) (by decide +kernel) (by decide +kernel) (Nat.le_of_ble_eq_true rfl) (Nat.le_of_ble_eq_true rfl) dX6_init_44 (fun q_298 k_299 H hK hP hD hS => ?_)
  have hK : va_K (dC, dI) vwCl [(k_287, .int), (k_290, .int), (k_293, .int), (k_296, .int), (k_299, .int)] s := hK
  have hP : va_P (dC, dI) vwCl [(h0, .inr (6, [.ref q_286, .ref q_289, .ref q_292, .ref q_295, .null, .null, .null, .null, .int 0, .int 0, .int 0, .int 0])), (q_286, zi k_287 1250 (fun _ => 0)), (q_289, zi k_290 833 (fun _ => 0)), (q_292, zi k_293 833 (fun _ => 0)), (q_295, zi k_296 400 (fun _ => 0)), (q_298, zi k_299 400 (fun _ => 0))] H := hP
  have hD : va_D A [(h0, .inr (6, [.ref q_286, .ref q_289, .ref q_292, .ref q_295, .null, .null, .null, .null, .int 0, .int 0, .int 0, .int 0])), (q_286, zi k_287 1250 (fun _ => 0)), (q_289, zi k_290 833 (fun _ => 0)), (q_292, zi k_293 833 (fun _ => 0)), (q_295, zi k_296 400 (fun _ => 0)), (q_298, zi k_299 400 (fun _ => 0))] := hD
  refine W.widen (k := 5) (n := 3716) (by decide) (by decide) ?_
  refine va_putF (D := (dC, dI)) (ci := 6) (v := .ref q_298) (ty := .array .int) (C := RX6) (T := TX6) (N := 12) hx hb hG zuX6 tyX6 tyX6_ok nmX6 hown hK hP hD hS 0 rfl rfl 4 (by decide) (hG _ zv252) (fun _ h9 => h9) rfl hin rfl (by decide +kernel) rfl rfl (Nat.le_of_ble_eq_true rfl) dX6_init_46 (fun H locs hP hD hS => ?_)
  have hP : va_P (dC, dI) vwCl [(h0, .inr (6, [.ref q_286, .ref q_289, .ref q_292, .ref q_295, .ref q_298, .null, .null, .null, .int 0, .int 0, .int 0, .int 0])), (q_286, zi k_287 1250 (fun _ => 0)), (q_289, zi k_290 833 (fun _ => 0)), (q_292, zi k_293 833 (fun _ => 0)), (q_295, zi k_296 400 (fun _ => 0)), (q_298, zi k_299 400 (fun _ => 0))] H := hP
  have hD : va_D A [(h0, .inr (6, [.ref q_286, .ref q_289, .ref q_292, .ref q_295, .ref q_298, .null, .null, .null, .int 0, .int 0, .int 0, .int 0])), (q_286, zi k_287 1250 (fun _ => 0)), (q_289, zi k_290 833 (fun _ => 0)), (q_292, zi k_293 833 (fun _ => 0)), (q_295, zi k_296 400 (fun _ => 0)), (q_298, zi k_299 400 (fun _ => 0))] := hD
  refine lv_aload_n hx hb dX6_init_49 rfl (lv_at hl 0 rfl) ?_
  refine lv_sipush (v := 400) hx hb dX6_init_50 (by decide) ?_
  refine va_newa (atype := .int) (ty := .int) (N' := 400) (a0 := (400, .inl (fun _ => 0))) hx hb (hG _ zv214) rfl hK hP hD hS hA (fun _ => rfl) (by decide) (by decide +kernel) (by decide +kernel) (Nat.le_of_ble_eq_true rfl) (Nat.le_of_ble_eq_true rfl) dX6_init_53 (fun q_301 k_302 H hK hP hD hS => ?_)
  have hK : va_K (dC, dI) vwCl [(k_287, .int), (k_290, .int), (k_293, .int), (k_296, .int), (k_299, .int), (k_302, .int)] s := hK
  have hP : va_P (dC, dI) vwCl [(h0, .inr (6, [.ref q_286, .ref q_289, .ref q_292, .ref q_295, .ref q_298, .null, .null, .null, .int 0, .int 0, .int 0, .int 0])), (q_286, zi k_287 1250 (fun _ => 0)), (q_289, zi k_290 833 (fun _ => 0)), (q_292, zi k_293 833 (fun _ => 0)), (q_295, zi k_296 400 (fun _ => 0)), (q_298, zi k_299 400 (fun _ => 0)), (q_301, zi k_302 400 (fun _ => 0))] H := hP
  have hD : va_D A [(h0, .inr (6, [.ref q_286, .ref q_289, .ref q_292, .ref q_295, .ref q_298, .null, .null, .null, .int 0, .int 0, .int 0, .int 0])), (q_286, zi k_287 1250 (fun _ => 0)), (q_289, zi k_290 833 (fun _ => 0)), (q_292, zi k_293 833 (fun _ => 0)), (q_295, zi k_296 400 (fun _ => 0)), (q_298, zi k_299 400 (fun _ => 0)), (q_301, zi k_302 400 (fun _ => 0))] := hD
  refine W.widen (k := 6) (n := 4116) (by decide) (by decide) ?_
  refine va_putF (D := (dC, dI)) (ci := 6) (v := .ref q_301) (ty := .array .int) (C := RX6) (T := TX6) (N := 12) hx hb hG zuX6 tyX6 tyX6_ok nmX6 hown hK hP hD hS 0 rfl rfl 5 (by decide) (hG _ zv253) (fun _ h9 => h9) rfl hin rfl (by decide +kernel) rfl rfl (Nat.le_of_ble_eq_true rfl) dX6_init_55 (fun H locs hP hD hS => ?_)
  have hP : va_P (dC, dI) vwCl [(h0, .inr (6, [.ref q_286, .ref q_289, .ref q_292, .ref q_295, .ref q_298, .ref q_301, .null, .null, .int 0, .int 0, .int 0, .int 0])), (q_286, zi k_287 1250 (fun _ => 0)), (q_289, zi k_290 833 (fun _ => 0)), (q_292, zi k_293 833 (fun _ => 0)), (q_295, zi k_296 400 (fun _ => 0)), (q_298, zi k_299 400 (fun _ => 0)), (q_301, zi k_302 400 (fun _ => 0))] H := hP
  have hD : va_D A [(h0, .inr (6, [.ref q_286, .ref q_289, .ref q_292, .ref q_295, .ref q_298, .ref q_301, .null, .null, .int 0, .int 0, .int 0, .int 0])), (q_286, zi k_287 1250 (fun _ => 0)), (q_289, zi k_290 833 (fun _ => 0)), (q_292, zi k_293 833 (fun _ => 0)), (q_295, zi k_296 400 (fun _ => 0)), (q_298, zi k_299 400 (fun _ => 0)), (q_301, zi k_302 400 (fun _ => 0))] := hD
  refine lv_aload_n hx hb dX6_init_58 rfl (lv_at hl 0 rfl) ?_
  refine lv_sipush (v := 400) hx hb dX6_init_59 (by decide) ?_
  refine va_newa (atype := .int) (ty := .int) (N' := 400) (a0 := (400, .inl (fun _ => 0))) hx hb (hG _ zv214) rfl hK hP hD hS hA (fun _ => rfl) (by decide) (by decide +kernel) (by decide +kernel) (Nat.le_of_ble_eq_true rfl) (Nat.le_of_ble_eq_true rfl) dX6_init_62 (fun q_304 k_305 H hK hP hD hS => ?_)
  have hK : va_K (dC, dI) vwCl [(k_287, .int), (k_290, .int), (k_293, .int), (k_296, .int), (k_299, .int), (k_302, .int), (k_305, .int)] s := hK
  have hP : va_P (dC, dI) vwCl [(h0, .inr (6, [.ref q_286, .ref q_289, .ref q_292, .ref q_295, .ref q_298, .ref q_301, .null, .null, .int 0, .int 0, .int 0, .int 0])), (q_286, zi k_287 1250 (fun _ => 0)), (q_289, zi k_290 833 (fun _ => 0)), (q_292, zi k_293 833 (fun _ => 0)), (q_295, zi k_296 400 (fun _ => 0)), (q_298, zi k_299 400 (fun _ => 0)), (q_301, zi k_302 400 (fun _ => 0)), (q_304, zi k_305 400 (fun _ => 0))] H := hP
  have hD : va_D A [(h0, .inr (6, [.ref q_286, .ref q_289, .ref q_292, .ref q_295, .ref q_298, .ref q_301, .null, .null, .int 0, .int 0, .int 0, .int 0])), (q_286, zi k_287 1250 (fun _ => 0)), (q_289, zi k_290 833 (fun _ => 0)), (q_292, zi k_293 833 (fun _ => 0)), (q_295, zi k_296 400 (fun _ => 0)), (q_298, zi k_299 400 (fun _ => 0)), (q_301, zi k_302 400 (fun _ => 0)), (q_304, zi k_305 400 (fun _ => 0))] := hD
  refine W.widen (k := 7) (n := 4516) (by decide) (by decide) ?_
  refine va_putF (D := (dC, dI)) (ci := 6) (v := .ref q_304) (ty := .array .int) (C := RX6) (T := TX6) (N := 12) hx hb hG zuX6 tyX6 tyX6_ok nmX6 hown hK hP hD hS 0 rfl rfl 6 (by decide) (hG _ zv254) (fun _ h9 => h9) rfl hin rfl (by decide +kernel) rfl rfl (Nat.le_of_ble_eq_true rfl) dX6_init_64 (fun H locs hP hD hS => ?_)
  have hP : va_P (dC, dI) vwCl [(h0, .inr (6, [.ref q_286, .ref q_289, .ref q_292, .ref q_295, .ref q_298, .ref q_301, .ref q_304, .null, .int 0, .int 0, .int 0, .int 0])), (q_286, zi k_287 1250 (fun _ => 0)), (q_289, zi k_290 833 (fun _ => 0)), (q_292, zi k_293 833 (fun _ => 0)), (q_295, zi k_296 400 (fun _ => 0)), (q_298, zi k_299 400 (fun _ => 0)), (q_301, zi k_302 400 (fun _ => 0)), (q_304, zi k_305 400 (fun _ => 0))] H := hP
  have hD : va_D A [(h0, .inr (6, [.ref q_286, .ref q_289, .ref q_292, .ref q_295, .ref q_298, .ref q_301, .ref q_304, .null, .int 0, .int 0, .int 0, .int 0])), (q_286, zi k_287 1250 (fun _ => 0)), (q_289, zi k_290 833 (fun _ => 0)), (q_292, zi k_293 833 (fun _ => 0)), (q_295, zi k_296 400 (fun _ => 0)), (q_298, zi k_299 400 (fun _ => 0)), (q_301, zi k_302 400 (fun _ => 0)), (q_304, zi k_305 400 (fun _ => 0))] := hD
  refine lv_aload_n hx hb dX6_init_67 rfl (lv_at hl 0 rfl) ?_
  refine lv_sipush (v := 400) hx hb dX6_init_68 (by decide) ?_
  refine va_newa (atype := .int) (ty := .int) (N' := 400) (a0 := (400, .inl (fun _ => 0))) hx hb (hG _ zv214) rfl hK hP hD hS hA (fun _ => rfl) (by decide) (by decide +kernel) (by decide +kernel) (Nat.le_of_ble_eq_true rfl) (Nat.le_of_ble_eq_true rfl) dX6_init_71 (fun q_307 k_308 H hK hP hD hS => ?_)
  have hK : va_K (dC, dI) vwCl [(k_287, .int), (k_290, .int), (k_293, .int), (k_296, .int), (k_299, .int), (k_302, .int), (k_305, .int), (k_308, .int)] s := hK
  have hP : va_P (dC, dI) vwCl [(h0, .inr (6, [.ref q_286, .ref q_289, .ref q_292, .ref q_295, .ref q_298, .ref q_301, .ref q_304, .null, .int 0, .int 0, .int 0, .int 0])), (q_286, zi k_287 1250 (fun _ => 0)), (q_289, zi k_290 833 (fun _ => 0)), (q_292, zi k_293 833 (fun _ => 0)), (q_295, zi k_296 400 (fun _ => 0)), (q_298, zi k_299 400 (fun _ => 0)), (q_301, zi k_302 400 (fun _ => 0)), (q_304, zi k_305 400 (fun _ => 0)), (q_307, zi k_308 400 (fun _ => 0))] H := hP
  have hD : va_D A [(h0, .inr (6, [.ref q_286, .ref q_289, .ref q_292, .ref q_295, .ref q_298, .ref q_301, .ref q_304, .null, .int 0, .int 0, .int 0, .int 0])), (q_286, zi k_287 1250 (fun _ => 0)), (q_289, zi k_290 833 (fun _ => 0)), (q_292, zi k_293 833 (fun _ => 0)), (q_295, zi k_296 400 (fun _ => 0)), (q_298, zi k_299 400 (fun _ => 0)), (q_301, zi k_302 400 (fun _ => 0)), (q_304, zi k_305 400 (fun _ => 0)), (q_307, zi k_308 400 (fun _ => 0))] := hD
  refine W.widen (k := 8) (n := 4916) (by decide) (by decide) ?_
  refine va_putF (D := (dC, dI)) (ci := 6) (v := .ref q_307) (ty := .array .int) (C := RX6) (T := TX6) (N := 12) hx hb hG zuX6 tyX6 tyX6_ok nmX6 hown hK hP hD hS 0 rfl rfl 7 (by decide) (hG _ zv255) (fun _ h9 => h9) rfl hin rfl (by decide +kernel) rfl rfl (Nat.le_of_ble_eq_true rfl) dX6_init_73 (fun H locs hP hD hS => ?_)
  have hP : va_P (dC, dI) vwCl [(h0, .inr (6, [.ref q_286, .ref q_289, .ref q_292, .ref q_295, .ref q_298, .ref q_301, .ref q_304, .ref q_307, .int 0, .int 0, .int 0, .int 0])), (q_286, zi k_287 1250 (fun _ => 0)), (q_289, zi k_290 833 (fun _ => 0)), (q_292, zi k_293 833 (fun _ => 0)), (q_295, zi k_296 400 (fun _ => 0)), (q_298, zi k_299 400 (fun _ => 0)), (q_301, zi k_302 400 (fun _ => 0)), (q_304, zi k_305 400 (fun _ => 0)), (q_307, zi k_308 400 (fun _ => 0))] H := hP
  have hD : va_D A [(h0, .inr (6, [.ref q_286, .ref q_289, .ref q_292, .ref q_295, .ref q_298, .ref q_301, .ref q_304, .ref q_307, .int 0, .int 0, .int 0, .int 0])), (q_286, zi k_287 1250 (fun _ => 0)), (q_289, zi k_290 833 (fun _ => 0)), (q_292, zi k_293 833 (fun _ => 0)), (q_295, zi k_296 400 (fun _ => 0)), (q_298, zi k_299 400 (fun _ => 0)), (q_301, zi k_302 400 (fun _ => 0)), (q_304, zi k_305 400 (fun _ => 0)), (q_307, zi k_308 400 (fun _ => 0))] := hD
  refine lv_aload_n hx hb dX6_init_76 rfl (lv_at hl 0 rfl) ?_
  refine lv_iconst (v := 0) hx hb dX6_init_77 (by decide) ?_
  refine va_put (D := (dC, dI)) (ci := 6) (v := .int 0) (ty := .int) (C := RX6) (T := TX6) (N := 12) hx hb hG zuX6 tyX6 tyX6_ok nmX6 hown hK hP hD hS 0 rfl rfl 8 (by decide) (hG _ zv256) (fun _ h9 => h9) rfl (by decide +kernel) rfl rfl (Nat.le_of_ble_eq_true rfl) dX6_init_78 (fun H locs hP hD hS => ?_)
  have hP : va_P (dC, dI) vwCl [(h0, .inr (6, [.ref q_286, .ref q_289, .ref q_292, .ref q_295, .ref q_298, .ref q_301, .ref q_304, .ref q_307, .int 0, .int 0, .int 0, .int 0])), (q_286, zi k_287 1250 (fun _ => 0)), (q_289, zi k_290 833 (fun _ => 0)), (q_292, zi k_293 833 (fun _ => 0)), (q_295, zi k_296 400 (fun _ => 0)), (q_298, zi k_299 400 (fun _ => 0)), (q_301, zi k_302 400 (fun _ => 0)), (q_304, zi k_305 400 (fun _ => 0)), (q_307, zi k_308 400 (fun _ => 0))] H := hP
  have hD : va_D A [(h0, .inr (6, [.ref q_286, .ref q_289, .ref q_292, .ref q_295, .ref q_298, .ref q_301, .ref q_304, .ref q_307, .int 0, .int 0, .int 0, .int 0])), (q_286, zi k_287 1250 (fun _ => 0)), (q_289, zi k_290 833 (fun _ => 0)), (q_292, zi k_293 833 (fun _ => 0)), (q_295, zi k_296 400 (fun _ => 0)), (q_298, zi k_299 400 (fun _ => 0)), (q_301, zi k_302 400 (fun _ => 0)), (q_304, zi k_305 400 (fun _ => 0)), (q_307, zi k_308 400 (fun _ => 0))] := hD
  refine lv_aload_n hx hb dX6_init_81 rfl (lv_at hl 0 rfl) ?_
  refine lv_iconst (v := 0) hx hb dX6_init_82 (by decide) ?_
  refine va_put (D := (dC, dI)) (ci := 6) (v := .int 0) (ty := .int) (C := RX6) (T := TX6) (N := 12) hx hb hG zuX6 tyX6 tyX6_ok nmX6 hown hK hP hD hS 0 rfl rfl 9 (by decide) (hG _ zv257) (fun _ h9 => h9) rfl (by decide +kernel) rfl rfl (Nat.le_of_ble_eq_true rfl) dX6_init_83 (fun H locs hP hD hS => ?_)
  have hP : va_P (dC, dI) vwCl [(h0, .inr (6, [.ref q_286, .ref q_289, .ref q_292, .ref q_295, .ref q_298, .ref q_301, .ref q_304, .ref q_307, .int 0, .int 0, .int 0, .int 0])), (q_286, zi k_287 1250 (fun _ => 0)), (q_289, zi k_290 833 (fun _ => 0)), (q_292, zi k_293 833 (fun _ => 0)), (q_295, zi k_296 400 (fun _ => 0)), (q_298, zi k_299 400 (fun _ => 0)), (q_301, zi k_302 400 (fun _ => 0)), (q_304, zi k_305 400 (fun _ => 0)), (q_307, zi k_308 400 (fun _ => 0))] H := hP
  have hD : va_D A [(h0, .inr (6, [.ref q_286, .ref q_289, .ref q_292, .ref q_295, .ref q_298, .ref q_301, .ref q_304, .ref q_307, .int 0, .int 0, .int 0, .int 0])), (q_286, zi k_287 1250 (fun _ => 0)), (q_289, zi k_290 833 (fun _ => 0)), (q_292, zi k_293 833 (fun _ => 0)), (q_295, zi k_296 400 (fun _ => 0)), (q_298, zi k_299 400 (fun _ => 0)), (q_301, zi k_302 400 (fun _ => 0)), (q_304, zi k_305 400 (fun _ => 0)), (q_307, zi k_308 400 (fun _ => 0))] := hD
  refine lv_aload_n hx hb dX6_init_86 rfl (lv_at hl 0 rfl) ?_
  refine lv_iconst (v := 0) hx hb dX6_init_87 (by decide) ?_
  refine va_put (D := (dC, dI)) (ci := 6) (v := .int 0) (ty := .int) (C := RX6) (T := TX6) (N := 12) hx hb hG zuX6 tyX6 tyX6_ok nmX6 hown hK hP hD hS 0 rfl rfl 10 (by decide) (hG _ zv258) (fun _ h9 => h9) rfl (by decide +kernel) rfl rfl (Nat.le_of_ble_eq_true rfl) dX6_init_88 (fun H locs hP hD hS => ?_)
  have hP : va_P (dC, dI) vwCl [(h0, .inr (6, [.ref q_286, .ref q_289, .ref q_292, .ref q_295, .ref q_298, .ref q_301, .ref q_304, .ref q_307, .int 0, .int 0, .int 0, .int 0])), (q_286, zi k_287 1250 (fun _ => 0)), (q_289, zi k_290 833 (fun _ => 0)), (q_292, zi k_293 833 (fun _ => 0)), (q_295, zi k_296 400 (fun _ => 0)), (q_298, zi k_299 400 (fun _ => 0)), (q_301, zi k_302 400 (fun _ => 0)), (q_304, zi k_305 400 (fun _ => 0)), (q_307, zi k_308 400 (fun _ => 0))] H := hP
  have hD : va_D A [(h0, .inr (6, [.ref q_286, .ref q_289, .ref q_292, .ref q_295, .ref q_298, .ref q_301, .ref q_304, .ref q_307, .int 0, .int 0, .int 0, .int 0])), (q_286, zi k_287 1250 (fun _ => 0)), (q_289, zi k_290 833 (fun _ => 0)), (q_292, zi k_293 833 (fun _ => 0)), (q_295, zi k_296 400 (fun _ => 0)), (q_298, zi k_299 400 (fun _ => 0)), (q_301, zi k_302 400 (fun _ => 0)), (q_304, zi k_305 400 (fun _ => 0)), (q_307, zi k_308 400 (fun _ => 0))] := hD
  refine lv_aload_n hx hb dX6_init_91 rfl (lv_at hl 0 rfl) ?_
  refine lv_iconst (v := 0) hx hb dX6_init_92 (by decide) ?_
  refine va_put (D := (dC, dI)) (ci := 6) (v := .int 0) (ty := .int) (C := RX6) (T := TX6) (N := 12) hx hb hG zuX6 tyX6 tyX6_ok nmX6 hown hK hP hD hS 0 rfl rfl 11 (by decide) (hG _ zv259) (fun _ h9 => h9) rfl (by decide +kernel) rfl rfl (Nat.le_of_ble_eq_true rfl) dX6_init_93 (fun H locs hP hD hS => ?_)
  have hP : va_P (dC, dI) vwCl [(h0, .inr (6, [.ref q_286, .ref q_289, .ref q_292, .ref q_295, .ref q_298, .ref q_301, .ref q_304, .ref q_307, .int 0, .int 0, .int 0, .int 0])), (q_286, zi k_287 1250 (fun _ => 0)), (q_289, zi k_290 833 (fun _ => 0)), (q_292, zi k_293 833 (fun _ => 0)), (q_295, zi k_296 400 (fun _ => 0)), (q_298, zi k_299 400 (fun _ => 0)), (q_301, zi k_302 400 (fun _ => 0)), (q_304, zi k_305 400 (fun _ => 0)), (q_307, zi k_308 400 (fun _ => 0))] H := hP
  have hD : va_D A [(h0, .inr (6, [.ref q_286, .ref q_289, .ref q_292, .ref q_295, .ref q_298, .ref q_301, .ref q_304, .ref q_307, .int 0, .int 0, .int 0, .int 0])), (q_286, zi k_287 1250 (fun _ => 0)), (q_289, zi k_290 833 (fun _ => 0)), (q_292, zi k_293 833 (fun _ => 0)), (q_295, zi k_296 400 (fun _ => 0)), (q_298, zi k_299 400 (fun _ => 0)), (q_301, zi k_302 400 (fun _ => 0)), (q_304, zi k_305 400 (fun _ => 0)), (q_307, zi k_308 400 (fun _ => 0))] := hD
  have hP9 := hP.sub (ws' := [(h0, .inr (6, [.ref q_286, .ref q_289, .ref q_292, .ref q_295, .ref q_298, .ref q_301, .ref q_304, .ref q_307, .int 0, .int 0, .int 0, .int 0])), (q_286, zi k_287 1250 (fun _ => 0)), (q_289, zi k_290 833 (fun _ => 0)), (q_292, zi k_293 833 (fun _ => 0)), (q_295, zi k_296 400 (fun _ => 0)), (q_298, zi k_299 400 (fun _ => 0)), (q_301, zi k_302 400 (fun _ => 0)), (q_304, zi k_305 400 (fun _ => 0)), (q_307, zi k_308 400 (fun _ => 0))]) [0, 1, 2, 3, 4, 5, 6, 7, 8] rfl
  have hD9 := hD.sub (ws' := [(h0, .inr (6, [.ref q_286, .ref q_289, .ref q_292, .ref q_295, .ref q_298, .ref q_301, .ref q_304, .ref q_307, .int 0, .int 0, .int 0, .int 0])), (q_286, zi k_287 1250 (fun _ => 0)), (q_289, zi k_290 833 (fun _ => 0)), (q_292, zi k_293 833 (fun _ => 0)), (q_295, zi k_296 400 (fun _ => 0)), (q_298, zi k_299 400 (fun _ => 0)), (q_301, zi k_302 400 (fun _ => 0)), (q_304, zi k_305 400 (fun _ => 0)), (q_307, zi k_308 400 (fun _ => 0))]) [0, 1, 2, 3, 4, 5, 6, 7, 8] (by decide) rfl
  have hK9 := hK.sub (tys' := [(k_287, .int), (k_290, .int), (k_293, .int), (k_296, .int), (k_299, .int), (k_302, .int), (k_305, .int), (k_308, .int)]) [0, 1, 2, 3, 4, 5, 6, 7] rfl
  refine W.widen (k := 8) (n := 4916) (by decide) (by decide) ?_
  exact W.vret hx hb hr (fun t ht hW => ⟨⟨(), rfl, trivial, q_286, q_289, q_292, q_295, q_298, q_301, q_304, q_307, k_287, k_290, k_293, k_296, k_299, k_302, k_305, k_308, by rw [ht]; exact hP9, va_K.moved hW.alike hK9, hD9⟩, hS.F ht⟩) hS.2.2 dX6_init_96
set_option maxHeartbeats 8000000 in
set_option maxRecDepth 100000 in
theorem sX6_taken_0 (l : Launch) (dC : Nat → ClassId) (dI : Nat → Nat → Nat) (adK adV : Nat → Nat) (h0 : Nat) (h1 : Nat) (h2 : Nat) (h3 : Nat) (h4 : Nat) (h5 : Nat) (h6 : Nat) (h7 : Nat) (h8 : Nat) (sz : Nat) (v0 : Nat → Int32) (hv0 : zR rg_Postings v0) : Met l yX6_taken (zw yX6_taken cX6_taken 1 (some .int)) { frames := 0, cells := 0, slots := 0, locals := 0 } (zPc dC dI adK adV [.ref h0] sz [(h0, .inr (6, mX6 h1 h2 h3 h4 h5 h6 h7 h8 v0))] []) (va_Qi (fun (r : Int32) (u : Nat → Int32) => (r.toInt = (v0 11).toInt)) (fun (u : Nat → Int32) (t : State) => ∃ (ww : Nat → Int64) (aa : Nat → Nat → Int32) (bb : Nat → Nat → Int64), va_P (dC, dI) vwCl [(h0, .inr (6, mX6 h1 h2 h3 h4 h5 h6 h7 h8 v0))] t.heap ∧ va_K (dC, dI) vwCl [] t ∧ va_D (va_A [(h0, .inr (6, mX6 h1 h2 h3 h4 h5 h6 h7 h8 v0))] sz) [(h0, .inr (6, mX6 h1 h2 h3 h4 h5 h6 h7 h8 v0))]) (va_A [(h0, .inr (6, mX6 h1 h2 h3 h4 h5 h6 h7 h8 v0))] sz)) 0 0 (va_A [(h0, .inr (6, mX6 h1 h2 h3 h4 h5 h6 h7 h8 v0))] sz) := by
  refine Met.ofW (cc := cX6_taken) (maxL := 1) (ret := (some .int)) (by decide) rfl ?_
  intro p e s m args below meth c s₁ B hml hv
  obtain ⟨rfl, hsz, hP, hK, hD0, hE, hZ⟩ := hv
  have hx := B.exec
  have hb := B.bytes
  have hr := B.returns
  have hG : ∀ w ∈ zG, w.before _ s = true := fun w h => atoms_spec (ws := (zw yX6_taken cX6_taken 1 (some .int))) B.pre w (List.mem_cons_of_mem _ h)
  have hown : s.vm.findClass RX6 = some m.cls := findClass_of_methodNamed B.named
  have hlocks := B.notSynchronized

  subst hsz
  have hD := hD0.self (sz := s.heap.size)
  generalize hAe : va_A [(h0, .inr (6, mX6 h1 h2 h3 h4 h5 h6 h7 h8 v0))] s.heap.size = A at hD hZ ⊢
  have hA : ∀ q : Nat, s.heap.size ≤ q → A q := fun q h => by rw [← hAe]; exact Or.inr h
  have hS : va_S A s.heap s.heap [] := va_S.rf
  have hl := lv_entry ([.ref h0]) (n := 1) (Nat.le_of_ble_eq_true rfl)
  rw [lg_entry_eq]
  generalize (lg_sl ([.ref h0]) ++ List.replicate (1 - (lg_sl ([.ref h0])).length) Slot.unset).toArray = ls at hl ⊢
  have hl : lv_has ls 1 [(0, .ref h0)] := hl
  have b_ : -2147483648 ≤ (v0 11).toInt ∧ (v0 11).toInt ≤ 2147483647 := ⟨zlo _, zhi _⟩
  refine lv_aload_n hx hb dX6_taken_0 rfl (lv_at hl 0 rfl) ?_
  refine va_get (D := (dC, dI)) (ci := 6) (v := .int (v0 11)) (C := RX6) (T := TX6) (N := 12) hx hb hG zuX6 hown hK hP 0 rfl rfl 11 (by decide) (hG _ zv259) (fun _ h9 => h9) rfl dX6_taken_1 ?_
  refine W.widen (k := 0) (n := 0) (by decide) (by decide) ?_
  have hpost : ((v0 11).toInt = (v0 11).toInt) := by rfl
  have hP9 : va_P (dC, dI) vwCl [(h0, .inr (6, mX6 h1 h2 h3 h4 h5 h6 h7 h8 v0))] s.heap := hP
  have hD9 : va_D A [(h0, .inr (6, mX6 h1 h2 h3 h4 h5 h6 h7 h8 v0))] := hD
  exact W.iret (v := (v0 11)) hx hb hr (fun t ht hW => ⟨⟨(v0 11), (fun _ => 0), rfl, hpost, (fun _ => 0), (fun _ => (fun _ => 0)), (fun _ => (fun _ => 0)), by rw [ht]; exact hP9, va_K.moved hW.alike hK, hD9⟩, hS.F ht⟩) hS.2.2 dX6_taken_4
set_option maxHeartbeats 8000000 in
set_option maxRecDepth 100000 in
theorem sJ7_fill_53178_2 (l : Launch) (dC : Nat → ClassId) (dI : Nat → Nat → Nat) (adK adV : Nat → Nat) (h0 : Nat) (k0 : ClassId) (sz : Nat) (f0 : Nat → Int32) (x1 : Int32) : Met l yJ7_fill_53178 (zw yJ7_fill_53178 cJ7_fill_53178 4 none) { frames := 0, cells := 0, slots := 0, locals := 0 } (zPc dC dI adK adV [.ref h0, .int x1] sz [(h0, zi k0 1250 f0)] [(k0, .int)]) (va_Qv (fun (u : Nat → Int32) => True) (fun (u : Nat → Int32) (t : State) => ∃ (ww : Nat → Int64) (aa : Nat → Nat → Int32) (bb : Nat → Nat → Int64), (∀ j : Nat, (j : Int) < 1250 → (aa 0) j = (x1 : Int32)) ∧ va_P (dC, dI) vwCl [(h0, zi k0 1250 (aa 0))] t.heap ∧ va_K (dC, dI) vwCl [(k0, .int)] t ∧ va_D (va_A [(h0, zi k0 1250 f0)] sz) [(h0, zi k0 1250 (aa 0))]) (va_A [(h0, zi k0 1250 f0)] sz)) 0 0 (va_A [(h0, zi k0 1250 f0)] sz) := by
  refine Met.ofW (cc := cJ7_fill_53178) (maxL := 4) (ret := none) (by decide) rfl ?_
  intro p e s m args below meth c s₁ B hml hv
  obtain ⟨rfl, hsz, hP, hK, hD0, hE, hZ⟩ := hv
  have hx := B.exec
  have hb := B.bytes
  have hr := B.returns
  have hG : ∀ w ∈ zG, w.before _ s = true := fun w h => atoms_spec (ws := (zw yJ7_fill_53178 cJ7_fill_53178 4 none)) B.pre w (List.mem_cons_of_mem _ h)
  have hown : s.vm.findClass RJ7 = some m.cls := findClass_of_methodNamed B.named
  have hlocks := B.notSynchronized

  subst hsz
  have hD := hD0.self (sz := s.heap.size)
  generalize hAe : va_A [(h0, zi k0 1250 f0)] s.heap.size = A at hD hZ ⊢
  have hA : ∀ q : Nat, s.heap.size ≤ q → A q := fun q h => by rw [← hAe]; exact Or.inr h
  have hS : va_S A s.heap s.heap [] := va_S.rf
  have hl := lv_entry ([.ref h0, .int x1]) (n := 4) (Nat.le_of_ble_eq_true rfl)
  rw [lg_entry_eq]
  generalize (lg_sl ([.ref h0, .int x1]) ++ List.replicate (4 - (lg_sl ([.ref h0, .int x1])).length) Slot.unset).toArray = ls at hl ⊢
  have hl : lv_has ls 4 [(0, .ref h0), (1, .int x1)] := hl
  have b_ := zk_0
  refine lv_iconst (v := 0) hx hb dJ7_fill_53178_0 (by decide) ?_
  refine lv_istore_n (lv' := [(2, .int 0), (0, .ref h0), (1, .int x1)]) hx hb dJ7_fill_53178_1 rfl hl (by decide) rfl (fun ls hl => ?_)
  refine lv_aload_n hx hb dJ7_fill_53178_2 rfl (lv_at hl 1 rfl) ?_
  refine va_alen (v := 1250) hx hb hK hP 0 0 rfl rfl (show Int32.ofNat 1250 = 1250 from by decide +kernel) dJ7_fill_53178_3 ?_
  refine lv_istore_n (lv' := [(3, .int 1250), (2, .int 0), (0, .ref h0), (1, .int x1)]) hx hb dJ7_fill_53178_4 rfl hl (by decide) rfl (fun ls hl => ?_)
  refine zcutL (fun u5_ => (1250 - (u5_ 0).toInt).toNat) (fun H locs ls u5_ w5_ a5_ b5_ => va_P (dC, dI) vwCl [(h0, zi k0 1250 (a5_ 0))] H ∧ va_D A [(h0, zi k0 1250 (a5_ 0))] ∧ va_S A s.heap H locs ∧ lv_has ls 4 [(0, .ref h0), (1, .int x1), (2, .int (u5_ 0)), (3, .int 1250)] ∧ (0 ≤ (u5_ 0).toInt ∧ (u5_ 0).toInt ≤ 1250) ∧ (∀ j : Nat, (j : Int) < (u5_ 0).toInt → (a5_ 0) j = (x1 : Int32))) (fun ls u5_ w5_ => F0 m 5 ls []) 0 0 ?_ (fun hJ5 => ?_)
  · skip
    intro H locs ls u5_ w5_ a5_ b5_ hc hJ5
    obtain ⟨hP, hD, hS, hl, b_, hI5_0⟩ := hc
    refine lv_iload_n hx hb dJ7_fill_53178_5 rfl (lv_at hl 2 rfl) ?_
    refine lv_iload_n hx hb dJ7_fill_53178_6 rfl (lv_at hl 3 rfl) ?_
    refine lv_icmp_ge (tgt := 20) hx hb dJ7_fill_53178_7 (by decide) (fun c_ => ?_) (fun c_ => ?_)
    · skip
      have b_ := zT_ge rfl zk_1250 c_
      refine W.widen (k := 0) (n := 0) (by decide) (by decide) ?_
      have hpost : True := trivial
      have hP9 : va_P (dC, dI) vwCl [(h0, zi k0 1250 (a5_ 0))] H := hP
      have hD9 : va_D A [(h0, zi k0 1250 (a5_ 0))] := hD
      have hB0 : ∀ j : Nat, (j : Int) < 1250 → (a5_ 0) j = (x1 : Int32) := by intro j hj; exact hI5_0 j (by omega)
      exact W.vret hx hb hr (fun t ht hW => ⟨⟨(fun _ => 0), rfl, hpost, (fun _ => 0), (fun i => ([(a5_ 0)] : List (Nat → Int32)).getD i (fun _ => 0)), (fun _ => (fun _ => 0)), hB0, by rw [ht]; exact hP9, va_K.moved hW.alike hK, hD9⟩, hS.F ht⟩) hS.2.2 dJ7_fill_53178_20
    · skip
      have b_ := zF_ge rfl zk_1250 c_
      refine lv_aload_n hx hb dJ7_fill_53178_10 rfl (lv_at hl 0 rfl) ?_
      refine lv_iload_n hx hb dJ7_fill_53178_11 rfl (lv_at hl 2 rfl) ?_
      refine lv_iload_n hx hb dJ7_fill_53178_12 rfl (lv_at hl 1 rfl) ?_
      refine va_iast hx hb hK hP hD hS 0 0 rfl rfl (zin_lit ⟨by omega, by omega⟩) dJ7_fill_53178_13 (fun H locs hP hD hS => ?_)
      obtain ⟨f_13, e_f_13⟩ : ∃ z : Nat → Int32, z = upd (a5_ 0) ((u5_ 0) : Int32).toNatClampNeg x1 := ⟨_, rfl⟩
      have hP : va_P (dC, dI) vwCl [(h0, zi k0 1250 f_13)] H := by rw [e_f_13]; exact hP
      have hD : va_D A [(h0, zi k0 1250 f_13)] := by rw [e_f_13]; exact hD
      obtain ⟨z14, e_z14⟩ : ∃ z : Int32, z = (u5_ 0) + Int32.ofInt 1 := ⟨_, rfl⟩
      have b_ := zadd (x := (u5_ 0)) (y := Int32.ofInt 1) rfl (show (Int32.ofInt 1).toInt = 1 from by decide) e_z14 (by omega) (by omega)
      refine lv_iinc (v := z14) (lv' := [(2, .int z14), (0, .ref h0), (1, .int x1), (3, .int 1250)]) hx hb dJ7_fill_53178_14 hl (k := 2) rfl e_z14.symm (by decide) rfl (fun ls hl => ?_)
      refine lv_goto (tgt := 5) hx hb dJ7_fill_53178_17 (by decide) ?_
      have b_ : -2147483648 ≤ x1.toInt ∧ x1.toInt ≤ 2147483647 := ⟨zlo _, zhi _⟩
      have hc : va_P (dC, dI) vwCl [(h0, zi k0 1250 f_13)] H ∧ va_D A [(h0, zi k0 1250 f_13)] ∧ va_S A s.heap H locs ∧ lv_has ls 4 [(0, .ref h0), (1, .int x1), (2, .int z14), (3, .int 1250)] ∧ (0 ≤ z14.toInt ∧ z14.toInt ≤ 1250) ∧ (∀ j : Nat, (j : Int) < z14.toInt → f_13 j = (x1 : Int32)) := ⟨hP, hD, hS, lv_sub hl [1, 2, 0, 3] rfl, (by first | with_reducible assumption | exact ⟨by omega, by omega⟩), by first | (intro j hj; omega) | (rw [e_f_13]; exact zfill (by assumption) (by omega) (by omega))⟩
      exact hJ5 H locs ls (fun i => ([z14] : List (Int32)).getD i 0) (fun _ => 0) (fun i => ([f_13] : List (Nat → Int32)).getD i (fun _ => 0)) (fun _ => (fun _ => 0)) hc (show (1250 - z14.toInt).toNat < (1250 - (u5_ 0).toInt).toNat from by omega)
  · skip
    have b_ : -2147483648 ≤ x1.toInt ∧ x1.toInt ≤ 2147483647 := ⟨zlo _, zhi _⟩
    have hc : va_P (dC, dI) vwCl [(h0, zi k0 1250 f0)] s.heap ∧ va_D A [(h0, zi k0 1250 f0)] ∧ va_S A s.heap s.heap [] ∧ lv_has ls 4 [(0, .ref h0), (1, .int x1), (2, .int 0), (3, .int 1250)] ∧ (0 ≤ (0 : Int32).toInt ∧ (0 : Int32).toInt ≤ 1250) ∧ (∀ j : Nat, (j : Int) < (0 : Int32).toInt → f0 j = (x1 : Int32)) := ⟨hP, hD, hS, lv_sub hl [2, 3, 1, 0] rfl, (by first | with_reducible assumption | exact ⟨by omega, by omega⟩), by first | (intro j hj; omega) | (rw [e_f_13]; exact zfill (by assumption) (by omega) (by omega))⟩
    exact hJ5 s.heap [] ls (fun i => ([0] : List (Int32)).getD i 0) (fun _ => 0) (fun i => ([f0] : List (Nat → Int32)).getD i (fun _ => 0)) (fun _ => (fun _ => 0)) hc
set_option maxHeartbeats 8000000 in
set_option maxRecDepth 100000 in
theorem sJ7_fill_53178_3 (l : Launch) (dC : Nat → ClassId) (dI : Nat → Nat → Nat) (adK adV : Nat → Nat) (h0 : Nat) (k0 : ClassId) (sz : Nat) (f0 : Nat → Int32) (x1 : Int32) : Met l yJ7_fill_53178 (zw yJ7_fill_53178 cJ7_fill_53178 4 none) { frames := 0, cells := 0, slots := 0, locals := 0 } (zPc dC dI adK adV [.ref h0, .int x1] sz [(h0, zi k0 400 f0)] [(k0, .int)]) (va_Qv (fun (u : Nat → Int32) => True) (fun (u : Nat → Int32) (t : State) => ∃ (ww : Nat → Int64) (aa : Nat → Nat → Int32) (bb : Nat → Nat → Int64), (∀ j : Nat, (j : Int) < 400 → (aa 0) j = (x1 : Int32)) ∧ va_P (dC, dI) vwCl [(h0, zi k0 400 (aa 0))] t.heap ∧ va_K (dC, dI) vwCl [(k0, .int)] t ∧ va_D (va_A [(h0, zi k0 400 f0)] sz) [(h0, zi k0 400 (aa 0))]) (va_A [(h0, zi k0 400 f0)] sz)) 0 0 (va_A [(h0, zi k0 400 f0)] sz) := by
  refine Met.ofW (cc := cJ7_fill_53178) (maxL := 4) (ret := none) (by decide) rfl ?_
  intro p e s m args below meth c s₁ B hml hv
  obtain ⟨rfl, hsz, hP, hK, hD0, hE, hZ⟩ := hv
  have hx := B.exec
  have hb := B.bytes
  have hr := B.returns
  have hG : ∀ w ∈ zG, w.before _ s = true := fun w h => atoms_spec (ws := (zw yJ7_fill_53178 cJ7_fill_53178 4 none)) B.pre w (List.mem_cons_of_mem _ h)
  have hown : s.vm.findClass RJ7 = some m.cls := findClass_of_methodNamed B.named
  have hlocks := B.notSynchronized

  subst hsz
  have hD := hD0.self (sz := s.heap.size)
  generalize hAe : va_A [(h0, zi k0 400 f0)] s.heap.size = A at hD hZ ⊢
  have hA : ∀ q : Nat, s.heap.size ≤ q → A q := fun q h => by rw [← hAe]; exact Or.inr h
  have hS : va_S A s.heap s.heap [] := va_S.rf
  have hl := lv_entry ([.ref h0, .int x1]) (n := 4) (Nat.le_of_ble_eq_true rfl)
  rw [lg_entry_eq]
  generalize (lg_sl ([.ref h0, .int x1]) ++ List.replicate (4 - (lg_sl ([.ref h0, .int x1])).length) Slot.unset).toArray = ls at hl ⊢
  have hl : lv_has ls 4 [(0, .ref h0), (1, .int x1)] := hl
  have b_ := zk_0
  refine lv_iconst (v := 0) hx hb dJ7_fill_53178_0 (by decide) ?_
  refine lv_istore_n (lv' := [(2, .int 0), (0, .ref h0), (1, .int x1)]) hx hb dJ7_fill_53178_1 rfl hl (by decide) rfl (fun ls hl => ?_)
  refine lv_aload_n hx hb dJ7_fill_53178_2 rfl (lv_at hl 1 rfl) ?_
  refine va_alen (v := 400) hx hb hK hP 0 0 rfl rfl (show Int32.ofNat 400 = 400 from by decide +kernel) dJ7_fill_53178_3 ?_
  refine lv_istore_n (lv' := [(3, .int 400), (2, .int 0), (0, .ref h0), (1, .int x1)]) hx hb dJ7_fill_53178_4 rfl hl (by decide) rfl (fun ls hl => ?_)
  refine zcutL (fun u5_ => (400 - (u5_ 0).toInt).toNat) (fun H locs ls u5_ w5_ a5_ b5_ => va_P (dC, dI) vwCl [(h0, zi k0 400 (a5_ 0))] H ∧ va_D A [(h0, zi k0 400 (a5_ 0))] ∧ va_S A s.heap H locs ∧ lv_has ls 4 [(0, .ref h0), (1, .int x1), (2, .int (u5_ 0)), (3, .int 400)] ∧ (0 ≤ (u5_ 0).toInt ∧ (u5_ 0).toInt ≤ 400) ∧ (∀ j : Nat, (j : Int) < (u5_ 0).toInt → (a5_ 0) j = (x1 : Int32))) (fun ls u5_ w5_ => F0 m 5 ls []) 0 0 ?_ (fun hJ5 => ?_)
  · skip
    intro H locs ls u5_ w5_ a5_ b5_ hc hJ5
    obtain ⟨hP, hD, hS, hl, b_, hI5_0⟩ := hc
    refine lv_iload_n hx hb dJ7_fill_53178_5 rfl (lv_at hl 2 rfl) ?_
    refine lv_iload_n hx hb dJ7_fill_53178_6 rfl (lv_at hl 3 rfl) ?_
    refine lv_icmp_ge (tgt := 20) hx hb dJ7_fill_53178_7 (by decide) (fun c_ => ?_) (fun c_ => ?_)
    · skip
      have b_ := zT_ge rfl zk_400 c_
      refine W.widen (k := 0) (n := 0) (by decide) (by decide) ?_
      have hpost : True := trivial
      have hP9 : va_P (dC, dI) vwCl [(h0, zi k0 400 (a5_ 0))] H := hP
      have hD9 : va_D A [(h0, zi k0 400 (a5_ 0))] := hD
      have hB0 : ∀ j : Nat, (j : Int) < 400 → (a5_ 0) j = (x1 : Int32) := by intro j hj; exact hI5_0 j (by omega)
      exact W.vret hx hb hr (fun t ht hW => ⟨⟨(fun _ => 0), rfl, hpost, (fun _ => 0), (fun i => ([(a5_ 0)] : List (Nat → Int32)).getD i (fun _ => 0)), (fun _ => (fun _ => 0)), hB0, by rw [ht]; exact hP9, va_K.moved hW.alike hK, hD9⟩, hS.F ht⟩) hS.2.2 dJ7_fill_53178_20
    · skip
      have b_ := zF_ge rfl zk_400 c_
      refine lv_aload_n hx hb dJ7_fill_53178_10 rfl (lv_at hl 0 rfl) ?_
      refine lv_iload_n hx hb dJ7_fill_53178_11 rfl (lv_at hl 2 rfl) ?_
      refine lv_iload_n hx hb dJ7_fill_53178_12 rfl (lv_at hl 1 rfl) ?_
      refine va_iast hx hb hK hP hD hS 0 0 rfl rfl (zin_lit ⟨by omega, by omega⟩) dJ7_fill_53178_13 (fun H locs hP hD hS => ?_)
      obtain ⟨f_13, e_f_13⟩ : ∃ z : Nat → Int32, z = upd (a5_ 0) ((u5_ 0) : Int32).toNatClampNeg x1 := ⟨_, rfl⟩
      have hP : va_P (dC, dI) vwCl [(h0, zi k0 400 f_13)] H := by rw [e_f_13]; exact hP
      have hD : va_D A [(h0, zi k0 400 f_13)] := by rw [e_f_13]; exact hD
      obtain ⟨z14, e_z14⟩ : ∃ z : Int32, z = (u5_ 0) + Int32.ofInt 1 := ⟨_, rfl⟩
      have b_ := zadd (x := (u5_ 0)) (y := Int32.ofInt 1) rfl (show (Int32.ofInt 1).toInt = 1 from by decide) e_z14 (by omega) (by omega)
      refine lv_iinc (v := z14) (lv' := [(2, .int z14), (0, .ref h0), (1, .int x1), (3, .int 400)]) hx hb dJ7_fill_53178_14 hl (k := 2) rfl e_z14.symm (by decide) rfl (fun ls hl => ?_)
      refine lv_goto (tgt := 5) hx hb dJ7_fill_53178_17 (by decide) ?_
      have b_ : -2147483648 ≤ x1.toInt ∧ x1.toInt ≤ 2147483647 := ⟨zlo _, zhi _⟩
      have hc : va_P (dC, dI) vwCl [(h0, zi k0 400 f_13)] H ∧ va_D A [(h0, zi k0 400 f_13)] ∧ va_S A s.heap H locs ∧ lv_has ls 4 [(0, .ref h0), (1, .int x1), (2, .int z14), (3, .int 400)] ∧ (0 ≤ z14.toInt ∧ z14.toInt ≤ 400) ∧ (∀ j : Nat, (j : Int) < z14.toInt → f_13 j = (x1 : Int32)) := ⟨hP, hD, hS, lv_sub hl [1, 2, 0, 3] rfl, (by first | with_reducible assumption | exact ⟨by omega, by omega⟩), by first | (intro j hj; omega) | (rw [e_f_13]; exact zfill (by assumption) (by omega) (by omega))⟩
      exact hJ5 H locs ls (fun i => ([z14] : List (Int32)).getD i 0) (fun _ => 0) (fun i => ([f_13] : List (Nat → Int32)).getD i (fun _ => 0)) (fun _ => (fun _ => 0)) hc (show (400 - z14.toInt).toNat < (400 - (u5_ 0).toInt).toNat from by omega)
  · skip
    have b_ : -2147483648 ≤ x1.toInt ∧ x1.toInt ≤ 2147483647 := ⟨zlo _, zhi _⟩
    have hc : va_P (dC, dI) vwCl [(h0, zi k0 400 f0)] s.heap ∧ va_D A [(h0, zi k0 400 f0)] ∧ va_S A s.heap s.heap [] ∧ lv_has ls 4 [(0, .ref h0), (1, .int x1), (2, .int 0), (3, .int 400)] ∧ (0 ≤ (0 : Int32).toInt ∧ (0 : Int32).toInt ≤ 400) ∧ (∀ j : Nat, (j : Int) < (0 : Int32).toInt → f0 j = (x1 : Int32)) := ⟨hP, hD, hS, lv_sub hl [2, 3, 1, 0] rfl, (by first | with_reducible assumption | exact ⟨by omega, by omega⟩), by first | (intro j hj; omega) | (rw [e_f_13]; exact zfill (by assumption) (by omega) (by omega))⟩
    exact hJ5 s.heap [] ls (fun i => ([0] : List (Int32)).getD i 0) (fun _ => 0) (fun i => ([f0] : List (Nat → Int32)).getD i (fun _ => 0)) (fun _ => (fun _ => 0)) hc
set_option maxHeartbeats 8000000 in
set_option maxRecDepth 100000 in
theorem sX6_clear_0 (l : Launch) (dC : Nat → ClassId) (dI : Nat → Nat → Nat) (adK adV : Nat → Nat) (h0 : Nat) (h1 : Nat) (h6 : Nat) (h7 : Nat) (h8 : Nat) (h2 : Nat) (h5 : Nat) (h3 : Nat) (h4 : Nat) (k1 : ClassId) (k6 : ClassId) (k7 : ClassId) (k8 : ClassId) (k2 : ClassId) (k5 : ClassId) (k3 : ClassId) (k4 : ClassId) (sz : Nat) (v0 : Nat → Int32) (f1 : Nat → Int32) (f6 : Nat → Int32) (f7 : Nat → Int32) (f8 : Nat → Int32) (f2 : Nat → Int32) (f5 : Nat → Int32) (f3 : Nat → Int32) (f4 : Nat → Int32) (hv0 : zR rg_Postings v0) (hf2 : zA 0 1250 f2) (hf5 : zA 0 832 f5) : Met l yX6_clear (zw yX6_clear cX6_clear 1 none) { frames := 1, cells := 0, slots := 0, locals := 23 } (zPc dC dI adK adV [.ref h0] sz [(h0, .inr (6, mX6 h1 h2 h3 h4 h5 h6 h7 h8 v0)), (h1, zi k1 1250 f1), (h6, zi k6 400 f6), (h7, zi k7 400 f7), (h8, zi k8 400 f8), (h2, zi k2 833 f2), (h5, zi k5 400 f5), (h3, zi k3 833 f3), (h4, zi k4 400 f4)] [(k1, .int), (k6, .int), (k7, .int), (k8, .int), (k2, .int), (k5, .int), (k3, .int), (k4, .int)]) (va_Qv (fun (u : Nat → Int32) => (0 ≤ (u 0).toInt ∧ (u 0).toInt ≤ 0) ∧ (0 ≤ (u 1).toInt ∧ (u 1).toInt ≤ 0) ∧ (0 ≤ (u 2).toInt ∧ (u 2).toInt ≤ 0) ∧ (0 ≤ (u 3).toInt ∧ (u 3).toInt ≤ 0)) (fun (u : Nat → Int32) (t : State) => ∃ (ww : Nat → Int64) (aa : Nat → Nat → Int32) (bb : Nat → Nat → Int64), (zPhi f2 f5 (aa 1) (u 1).toInt (u 0).toInt) ∧ (zPB (aa 0) f2 f3 f4 f5 (aa 1) (u 0).toInt (u 1).toInt (u 2).toInt (u 3).toInt (fun _ => [])) ∧ (∀ j : Nat, j < 400 → (aa 2) j = 0) ∧ (∀ j : Nat, j < 400 → (aa 3) j = 0) ∧ va_P (dC, dI) vwCl [(h0, .inr (6, mX6 h1 h2 h3 h4 h5 h6 h7 h8 (upd (upd (upd (upd v0 8 (u 0)) 9 (u 1)) 10 (u 2)) 11 (u 3)))), (h1, zi k1 1250 (aa 0)), (h6, zi k6 400 (aa 1)), (h7, zi k7 400 (aa 2)), (h8, zi k8 400 (aa 3)), (h2, zi k2 833 f2), (h5, zi k5 400 f5), (h3, zi k3 833 f3), (h4, zi k4 400 f4)] t.heap ∧ va_K (dC, dI) vwCl [(k1, .int), (k6, .int), (k7, .int), (k8, .int), (k2, .int), (k5, .int), (k3, .int), (k4, .int)] t ∧ va_D (va_A [(h0, .inr (6, mX6 h1 h2 h3 h4 h5 h6 h7 h8 v0)), (h1, zi k1 1250 f1), (h6, zi k6 400 f6), (h7, zi k7 400 f7), (h8, zi k8 400 f8), (h2, zi k2 833 f2), (h5, zi k5 400 f5), (h3, zi k3 833 f3), (h4, zi k4 400 f4)] sz) [(h0, .inr (6, mX6 h1 h2 h3 h4 h5 h6 h7 h8 (upd (upd (upd (upd v0 8 (u 0)) 9 (u 1)) 10 (u 2)) 11 (u 3)))), (h1, zi k1 1250 (aa 0)), (h6, zi k6 400 (aa 1)), (h7, zi k7 400 (aa 2)), (h8, zi k8 400 (aa 3)), (h2, zi k2 833 f2), (h5, zi k5 400 f5), (h3, zi k3 833 f3), (h4, zi k4 400 f4)]) (va_A [(h0, .inr (6, mX6 h1 h2 h3 h4 h5 h6 h7 h8 v0)), (h1, zi k1 1250 f1), (h6, zi k6 400 f6), (h7, zi k7 400 f7), (h8, zi k8 400 f8), (h2, zi k2 833 f2), (h5, zi k5 400 f5), (h3, zi k3 833 f3), (h4, zi k4 400 f4)] sz)) 0 0 (va_A [(h0, .inr (6, mX6 h1 h2 h3 h4 h5 h6 h7 h8 v0)), (h1, zi k1 1250 f1), (h6, zi k6 400 f6), (h7, zi k7 400 f7), (h8, zi k8 400 f8), (h2, zi k2 833 f2), (h5, zi k5 400 f5), (h3, zi k3 833 f3), (h4, zi k4 400 f4)] sz) := by
  refine Met.ofW (cc := cX6_clear) (maxL := 1) (ret := none) (by decide) rfl ?_
  intro p e s m args below meth c s₁ B hml hv
  obtain ⟨rfl, hsz, hP, hK, hD0, hE, hZ⟩ := hv
  have hx := B.exec
  have hb := B.bytes
  have hr := B.returns
  have hG : ∀ w ∈ zG, w.before _ s = true := fun w h => atoms_spec (ws := (zw yX6_clear cX6_clear 1 none)) B.pre w (List.mem_cons_of_mem _ h)
  have hown : s.vm.findClass RX6 = some m.cls := findClass_of_methodNamed B.named
  have hlocks := B.notSynchronized

  subst hsz
  have hD := hD0.self (sz := s.heap.size)
  generalize hAe : va_A [(h0, .inr (6, mX6 h1 h2 h3 h4 h5 h6 h7 h8 v0)), (h1, zi k1 1250 f1), (h6, zi k6 400 f6), (h7, zi k7 400 f7), (h8, zi k8 400 f8), (h2, zi k2 833 f2), (h5, zi k5 400 f5), (h3, zi k3 833 f3), (h4, zi k4 400 f4)] s.heap.size = A at hD hZ ⊢
  have hA : ∀ q : Nat, s.heap.size ≤ q → A q := fun q h => by rw [← hAe]; exact Or.inr h
  have hS : va_S A s.heap s.heap [] := va_S.rf
  have hl := lv_entry ([.ref h0]) (n := 1) (Nat.le_of_ble_eq_true rfl)
  rw [lg_entry_eq]
  generalize (lg_sl ([.ref h0]) ++ List.replicate (1 - (lg_sl ([.ref h0])).length) Slot.unset).toArray = ls at hl ⊢
  have hl : lv_has ls 1 [(0, .ref h0)] := hl
  have b_ := zk_0
  refine lv_aload_n hx hb dX6_clear_0 rfl (lv_at hl 0 rfl) ?_
  refine va_get (D := (dC, dI)) (ci := 6) (v := .ref h1) (C := RX6) (T := TX6) (N := 12) hx hb hG zuX6 hown hK hP 0 rfl rfl 0 (by decide) (hG _ zv248) (fun _ h9 => h9) rfl dX6_clear_1 ?_
  refine lv_iconst (v := 0) hx hb dX6_clear_4 (by decide) ?_
  have hPc := hP.sub (ws' := [(h1, zi k1 1250 f1)]) [1] rfl
  have hDc := hD.sub (ws' := [(h1, zi k1 1250 f1)]) [1] (by decide) rfl
  have hKc := hK.sub (tys' := [(k1, .int)]) [0] rfl
  have hFc := va_free (wc := [(h1, zi k1 1250 f1)]) hD hS hA [1] rfl
  refine va_callv (va_runS (As := [.ref h1, .int 0]) (rest := []) ⟨hx, hb, hml, hown, hG⟩ (sJ7_fill_53178_2 l dC dI adK adV h1 k1 s.heap.size f1 0) (va_cwS 2 hG (zgS zv896 zv471 zv141 zv472) rfl rfl rfl (by decide +kernel) ⟨Nat.le_of_ble_eq_true rfl, Nat.le_of_ble_eq_true rfl⟩) ⟨zPc_blind, zPc_pre hPc hKc hDc hE hS hFc hZ⟩ rfl rfl hl.1 rfl (lv_room (Nat.le_of_ble_eq_true rfl)) dX6_clear_5 ⟨Nat.le_of_ble_eq_true rfl, Nat.le_of_ble_eq_true rfl⟩) hS (fun q _ h => hFc q h) hFc (fun u5_ t H1 locs ht hvm hw hB hz1 hk1 hS => ?_)
  obtain ⟨w5_, a5_, b5_, hB5_0, hP1, hK1, hD1⟩ := hB
  have hB5_0 : ∀ j : Nat, (j : Int) < 1250 → (a5_ 0) j = (0 : Int32) := hB5_0
  rw [ht] at hP1
  obtain ⟨hP, hD⟩ := va_join (wr := [(h0, .inr (6, mX6 h1 h2 h3 h4 h5 h6 h7 h8 v0)), (h6, zi k6 400 f6), (h7, zi k7 400 f7), (h8, zi k8 400 f8), (h2, zi k2 833 f2), (h5, zi k5 400 f5), (h3, zi k3 833 f3), (h4, zi k4 400 f4)]) (w1 := [(h1, zi k1 1250 (a5_ 0))]) hP hD [1] [0, 2, 3, 4, 5, 6, 7, 8] rfl rfl (by decide) (by decide) hk1 hFc hP1 hD1
  have hP : va_P (dC, dI) vwCl [(h0, .inr (6, mX6 h1 h2 h3 h4 h5 h6 h7 h8 v0)), (h1, zi k1 1250 (a5_ 0)), (h6, zi k6 400 f6), (h7, zi k7 400 f7), (h8, zi k8 400 f8), (h2, zi k2 833 f2), (h5, zi k5 400 f5), (h3, zi k3 833 f3), (h4, zi k4 400 f4)] H1 := hP.sub [0, 8, 1, 2, 3, 4, 5, 6, 7] rfl
  have hD : va_D A [(h0, .inr (6, mX6 h1 h2 h3 h4 h5 h6 h7 h8 v0)), (h1, zi k1 1250 (a5_ 0)), (h6, zi k6 400 f6), (h7, zi k7 400 f7), (h8, zi k8 400 f8), (h2, zi k2 833 f2), (h5, zi k5 400 f5), (h3, zi k3 833 f3), (h4, zi k4 400 f4)] := hD.sub [0, 8, 1, 2, 3, 4, 5, 6, 7] (by decide) rfl
  generalize H1 = H at hP hS ⊢
  clear hz1
  refine lv_aload_n hx hb dX6_clear_8 rfl (lv_at hl 0 rfl) ?_
  refine va_get (D := (dC, dI)) (ci := 6) (v := .ref h6) (C := RX6) (T := TX6) (N := 12) hx hb hG zuX6 hown hK hP 0 rfl rfl 5 (by decide) (hG _ zv253) (fun _ h9 => h9) rfl dX6_clear_9 ?_
  refine lv_iconst (v := 0) hx hb dX6_clear_12 (by decide) ?_
  have hPc := hP.sub (ws' := [(h6, zi k6 400 f6)]) [2] rfl
  have hDc := hD.sub (ws' := [(h6, zi k6 400 f6)]) [2] (by decide) rfl
  have hKc := hK.sub (tys' := [(k6, .int)]) [1] rfl
  have hFc := va_free (wc := [(h6, zi k6 400 f6)]) hD hS hA [2] rfl
  refine va_callv (va_runS (As := [.ref h6, .int 0]) (rest := []) ⟨hx, hb, hml, hown, hG⟩ (sJ7_fill_53178_3 l dC dI adK adV h6 k6 H.size f6 0) (va_cwS 2 hG (zgS zv896 zv471 zv141 zv472) rfl rfl rfl (by decide +kernel) ⟨Nat.le_of_ble_eq_true rfl, Nat.le_of_ble_eq_true rfl⟩) ⟨zPc_blind, zPc_pre hPc hKc hDc hE hS hFc hZ⟩ rfl rfl hl.1 rfl (lv_room (Nat.le_of_ble_eq_true rfl)) dX6_clear_13 ⟨Nat.le_of_ble_eq_true rfl, Nat.le_of_ble_eq_true rfl⟩) hS (fun q _ h => hFc q h) hFc (fun u13_ t H1 locs ht hvm hw hB hz1 hk1 hS => ?_)
  obtain ⟨w13_, a13_, b13_, hB13_0, hP1, hK1, hD1⟩ := hB
  have hB13_0 : ∀ j : Nat, (j : Int) < 400 → (a13_ 0) j = (0 : Int32) := hB13_0
  rw [ht] at hP1
  obtain ⟨hP, hD⟩ := va_join (wr := [(h0, .inr (6, mX6 h1 h2 h3 h4 h5 h6 h7 h8 v0)), (h1, zi k1 1250 (a5_ 0)), (h7, zi k7 400 f7), (h8, zi k8 400 f8), (h2, zi k2 833 f2), (h5, zi k5 400 f5), (h3, zi k3 833 f3), (h4, zi k4 400 f4)]) (w1 := [(h6, zi k6 400 (a13_ 0))]) hP hD [2] [0, 1, 3, 4, 5, 6, 7, 8] rfl rfl (by decide) (by decide) hk1 hFc hP1 hD1
  have hP : va_P (dC, dI) vwCl [(h0, .inr (6, mX6 h1 h2 h3 h4 h5 h6 h7 h8 v0)), (h1, zi k1 1250 (a5_ 0)), (h6, zi k6 400 (a13_ 0)), (h7, zi k7 400 f7), (h8, zi k8 400 f8), (h2, zi k2 833 f2), (h5, zi k5 400 f5), (h3, zi k3 833 f3), (h4, zi k4 400 f4)] H1 := hP.sub [0, 1, 8, 2, 3, 4, 5, 6, 7] rfl
  have hD : va_D A [(h0, .inr (6, mX6 h1 h2 h3 h4 h5 h6 h7 h8 v0)), (h1, zi k1 1250 (a5_ 0)), (h6, zi k6 400 (a13_ 0)), (h7, zi k7 400 f7), (h8, zi k8 400 f8), (h2, zi k2 833 f2), (h5, zi k5 400 f5), (h3, zi k3 833 f3), (h4, zi k4 400 f4)] := hD.sub [0, 1, 8, 2, 3, 4, 5, 6, 7] (by decide) rfl
  generalize H1 = H at hP hS ⊢
  clear hz1
  refine lv_aload_n hx hb dX6_clear_16 rfl (lv_at hl 0 rfl) ?_
  refine va_get (D := (dC, dI)) (ci := 6) (v := .ref h7) (C := RX6) (T := TX6) (N := 12) hx hb hG zuX6 hown hK hP 0 rfl rfl 6 (by decide) (hG _ zv254) (fun _ h9 => h9) rfl dX6_clear_17 ?_
  refine lv_iconst (v := 0) hx hb dX6_clear_20 (by decide) ?_
  have hPc := hP.sub (ws' := [(h7, zi k7 400 f7)]) [3] rfl
  have hDc := hD.sub (ws' := [(h7, zi k7 400 f7)]) [3] (by decide) rfl
  have hKc := hK.sub (tys' := [(k7, .int)]) [2] rfl
  have hFc := va_free (wc := [(h7, zi k7 400 f7)]) hD hS hA [3] rfl
  refine va_callv (va_runS (As := [.ref h7, .int 0]) (rest := []) ⟨hx, hb, hml, hown, hG⟩ (sJ7_fill_53178_3 l dC dI adK adV h7 k7 H.size f7 0) (va_cwS 2 hG (zgS zv896 zv471 zv141 zv472) rfl rfl rfl (by decide +kernel) ⟨Nat.le_of_ble_eq_true rfl, Nat.le_of_ble_eq_true rfl⟩) ⟨zPc_blind, zPc_pre hPc hKc hDc hE hS hFc hZ⟩ rfl rfl hl.1 rfl (lv_room (Nat.le_of_ble_eq_true rfl)) dX6_clear_21 ⟨Nat.le_of_ble_eq_true rfl, Nat.le_of_ble_eq_true rfl⟩) hS (fun q _ h => hFc q h) hFc (fun u21_ t H1 locs ht hvm hw hB hz1 hk1 hS => ?_)
  obtain ⟨w21_, a21_, b21_, hB21_0, hP1, hK1, hD1⟩ := hB
  have hB21_0 : ∀ j : Nat, (j : Int) < 400 → (a21_ 0) j = (0 : Int32) := hB21_0
  rw [ht] at hP1
  obtain ⟨hP, hD⟩ := va_join (wr := [(h0, .inr (6, mX6 h1 h2 h3 h4 h5 h6 h7 h8 v0)), (h1, zi k1 1250 (a5_ 0)), (h6, zi k6 400 (a13_ 0)), (h8, zi k8 400 f8), (h2, zi k2 833 f2), (h5, zi k5 400 f5), (h3, zi k3 833 f3), (h4, zi k4 400 f4)]) (w1 := [(h7, zi k7 400 (a21_ 0))]) hP hD [3] [0, 1, 2, 4, 5, 6, 7, 8] rfl rfl (by decide) (by decide) hk1 hFc hP1 hD1
  have hP : va_P (dC, dI) vwCl [(h0, .inr (6, mX6 h1 h2 h3 h4 h5 h6 h7 h8 v0)), (h1, zi k1 1250 (a5_ 0)), (h6, zi k6 400 (a13_ 0)), (h7, zi k7 400 (a21_ 0)), (h8, zi k8 400 f8), (h2, zi k2 833 f2), (h5, zi k5 400 f5), (h3, zi k3 833 f3), (h4, zi k4 400 f4)] H1 := hP.sub [0, 1, 2, 8, 3, 4, 5, 6, 7] rfl
  have hD : va_D A [(h0, .inr (6, mX6 h1 h2 h3 h4 h5 h6 h7 h8 v0)), (h1, zi k1 1250 (a5_ 0)), (h6, zi k6 400 (a13_ 0)), (h7, zi k7 400 (a21_ 0)), (h8, zi k8 400 f8), (h2, zi k2 833 f2), (h5, zi k5 400 f5), (h3, zi k3 833 f3), (h4, zi k4 400 f4)] := hD.sub [0, 1, 2, 8, 3, 4, 5, 6, 7] (by decide) rfl
  generalize H1 = H at hP hS ⊢
  clear hz1
  refine lv_aload_n hx hb dX6_clear_24 rfl (lv_at hl 0 rfl) ?_
  refine va_get (D := (dC, dI)) (ci := 6) (v := .ref h8) (C := RX6) (T := TX6) (N := 12) hx hb hG zuX6 hown hK hP 0 rfl rfl 7 (by decide) (hG _ zv255) (fun _ h9 => h9) rfl dX6_clear_25 ?_
  refine lv_iconst (v := 0) hx hb dX6_clear_28 (by decide) ?_
  have hPc := hP.sub (ws' := [(h8, zi k8 400 f8)]) [4] rfl
  have hDc := hD.sub (ws' := [(h8, zi k8 400 f8)]) [4] (by decide) rfl
  have hKc := hK.sub (tys' := [(k8, .int)]) [3] rfl
  have hFc := va_free (wc := [(h8, zi k8 400 f8)]) hD hS hA [4] rfl
  refine va_callv (va_runS (As := [.ref h8, .int 0]) (rest := []) ⟨hx, hb, hml, hown, hG⟩ (sJ7_fill_53178_3 l dC dI adK adV h8 k8 H.size f8 0) (va_cwS 2 hG (zgS zv896 zv471 zv141 zv472) rfl rfl rfl (by decide +kernel) ⟨Nat.le_of_ble_eq_true rfl, Nat.le_of_ble_eq_true rfl⟩) ⟨zPc_blind, zPc_pre hPc hKc hDc hE hS hFc hZ⟩ rfl rfl hl.1 rfl (lv_room (Nat.le_of_ble_eq_true rfl)) dX6_clear_29 ⟨Nat.le_of_ble_eq_true rfl, Nat.le_of_ble_eq_true rfl⟩) hS (fun q _ h => hFc q h) hFc (fun u29_ t H1 locs ht hvm hw hB hz1 hk1 hS => ?_)
  obtain ⟨w29_, a29_, b29_, hB29_0, hP1, hK1, hD1⟩ := hB
  have hB29_0 : ∀ j : Nat, (j : Int) < 400 → (a29_ 0) j = (0 : Int32) := hB29_0
  rw [ht] at hP1
  obtain ⟨hP, hD⟩ := va_join (wr := [(h0, .inr (6, mX6 h1 h2 h3 h4 h5 h6 h7 h8 v0)), (h1, zi k1 1250 (a5_ 0)), (h6, zi k6 400 (a13_ 0)), (h7, zi k7 400 (a21_ 0)), (h2, zi k2 833 f2), (h5, zi k5 400 f5), (h3, zi k3 833 f3), (h4, zi k4 400 f4)]) (w1 := [(h8, zi k8 400 (a29_ 0))]) hP hD [4] [0, 1, 2, 3, 5, 6, 7, 8] rfl rfl (by decide) (by decide) hk1 hFc hP1 hD1
  have hP : va_P (dC, dI) vwCl [(h0, .inr (6, mX6 h1 h2 h3 h4 h5 h6 h7 h8 v0)), (h1, zi k1 1250 (a5_ 0)), (h6, zi k6 400 (a13_ 0)), (h7, zi k7 400 (a21_ 0)), (h8, zi k8 400 (a29_ 0)), (h2, zi k2 833 f2), (h5, zi k5 400 f5), (h3, zi k3 833 f3), (h4, zi k4 400 f4)] H1 := hP.sub [0, 1, 2, 3, 8, 4, 5, 6, 7] rfl
  have hD : va_D A [(h0, .inr (6, mX6 h1 h2 h3 h4 h5 h6 h7 h8 v0)), (h1, zi k1 1250 (a5_ 0)), (h6, zi k6 400 (a13_ 0)), (h7, zi k7 400 (a21_ 0)), (h8, zi k8 400 (a29_ 0)), (h2, zi k2 833 f2), (h5, zi k5 400 f5), (h3, zi k3 833 f3), (h4, zi k4 400 f4)] := hD.sub [0, 1, 2, 3, 8, 4, 5, 6, 7] (by decide) rfl
  generalize H1 = H at hP hS ⊢
  clear hz1
  refine lv_aload_n hx hb dX6_clear_32 rfl (lv_at hl 0 rfl) ?_
  refine lv_iconst (v := 0) hx hb dX6_clear_33 (by decide) ?_
  refine va_put (D := (dC, dI)) (ci := 6) (v := .int 0) (ty := .int) (C := RX6) (T := TX6) (N := 12) hx hb hG zuX6 tyX6 tyX6_ok nmX6 hown hK hP hD hS 0 rfl rfl 8 (by decide) (hG _ zv256) (fun _ h9 => h9) rfl (by decide +kernel) rfl rfl (Nat.le_of_ble_eq_true rfl) dX6_clear_34 (fun H locs hP hD hS => ?_)
  have hP : va_P (dC, dI) vwCl [(h0, .inr (6, mX6 h1 h2 h3 h4 h5 h6 h7 h8 (upd v0 8 0))), (h1, zi k1 1250 (a5_ 0)), (h6, zi k6 400 (a13_ 0)), (h7, zi k7 400 (a21_ 0)), (h8, zi k8 400 (a29_ 0)), (h2, zi k2 833 f2), (h5, zi k5 400 f5), (h3, zi k3 833 f3), (h4, zi k4 400 f4)] H := hP
  have hD : va_D A [(h0, .inr (6, mX6 h1 h2 h3 h4 h5 h6 h7 h8 (upd v0 8 0))), (h1, zi k1 1250 (a5_ 0)), (h6, zi k6 400 (a13_ 0)), (h7, zi k7 400 (a21_ 0)), (h8, zi k8 400 (a29_ 0)), (h2, zi k2 833 f2), (h5, zi k5 400 f5), (h3, zi k3 833 f3), (h4, zi k4 400 f4)] := hD
  refine lv_aload_n hx hb dX6_clear_37 rfl (lv_at hl 0 rfl) ?_
  refine lv_iconst (v := 0) hx hb dX6_clear_38 (by decide) ?_
  refine va_put (D := (dC, dI)) (ci := 6) (v := .int 0) (ty := .int) (C := RX6) (T := TX6) (N := 12) hx hb hG zuX6 tyX6 tyX6_ok nmX6 hown hK hP hD hS 0 rfl rfl 9 (by decide) (hG _ zv257) (fun _ h9 => h9) rfl (by decide +kernel) rfl rfl (Nat.le_of_ble_eq_true rfl) dX6_clear_39 (fun H locs hP hD hS => ?_)
  have hP : va_P (dC, dI) vwCl [(h0, .inr (6, mX6 h1 h2 h3 h4 h5 h6 h7 h8 (upd (upd v0 8 0) 9 0))), (h1, zi k1 1250 (a5_ 0)), (h6, zi k6 400 (a13_ 0)), (h7, zi k7 400 (a21_ 0)), (h8, zi k8 400 (a29_ 0)), (h2, zi k2 833 f2), (h5, zi k5 400 f5), (h3, zi k3 833 f3), (h4, zi k4 400 f4)] H := hP
  have hD : va_D A [(h0, .inr (6, mX6 h1 h2 h3 h4 h5 h6 h7 h8 (upd (upd v0 8 0) 9 0))), (h1, zi k1 1250 (a5_ 0)), (h6, zi k6 400 (a13_ 0)), (h7, zi k7 400 (a21_ 0)), (h8, zi k8 400 (a29_ 0)), (h2, zi k2 833 f2), (h5, zi k5 400 f5), (h3, zi k3 833 f3), (h4, zi k4 400 f4)] := hD
  refine lv_aload_n hx hb dX6_clear_42 rfl (lv_at hl 0 rfl) ?_
  refine lv_iconst (v := 0) hx hb dX6_clear_43 (by decide) ?_
  refine va_put (D := (dC, dI)) (ci := 6) (v := .int 0) (ty := .int) (C := RX6) (T := TX6) (N := 12) hx hb hG zuX6 tyX6 tyX6_ok nmX6 hown hK hP hD hS 0 rfl rfl 10 (by decide) (hG _ zv258) (fun _ h9 => h9) rfl (by decide +kernel) rfl rfl (Nat.le_of_ble_eq_true rfl) dX6_clear_44 (fun H locs hP hD hS => ?_)
  have hP : va_P (dC, dI) vwCl [(h0, .inr (6, mX6 h1 h2 h3 h4 h5 h6 h7 h8 (upd (upd (upd v0 8 0) 9 0) 10 0))), (h1, zi k1 1250 (a5_ 0)), (h6, zi k6 400 (a13_ 0)), (h7, zi k7 400 (a21_ 0)), (h8, zi k8 400 (a29_ 0)), (h2, zi k2 833 f2), (h5, zi k5 400 f5), (h3, zi k3 833 f3), (h4, zi k4 400 f4)] H := hP
  have hD : va_D A [(h0, .inr (6, mX6 h1 h2 h3 h4 h5 h6 h7 h8 (upd (upd (upd v0 8 0) 9 0) 10 0))), (h1, zi k1 1250 (a5_ 0)), (h6, zi k6 400 (a13_ 0)), (h7, zi k7 400 (a21_ 0)), (h8, zi k8 400 (a29_ 0)), (h2, zi k2 833 f2), (h5, zi k5 400 f5), (h3, zi k3 833 f3), (h4, zi k4 400 f4)] := hD
  refine lv_aload_n hx hb dX6_clear_47 rfl (lv_at hl 0 rfl) ?_
  refine lv_iconst (v := 0) hx hb dX6_clear_48 (by decide) ?_
  refine va_put (D := (dC, dI)) (ci := 6) (v := .int 0) (ty := .int) (C := RX6) (T := TX6) (N := 12) hx hb hG zuX6 tyX6 tyX6_ok nmX6 hown hK hP hD hS 0 rfl rfl 11 (by decide) (hG _ zv259) (fun _ h9 => h9) rfl (by decide +kernel) rfl rfl (Nat.le_of_ble_eq_true rfl) dX6_clear_49 (fun H locs hP hD hS => ?_)
  have hP : va_P (dC, dI) vwCl [(h0, .inr (6, mX6 h1 h2 h3 h4 h5 h6 h7 h8 (upd (upd (upd (upd v0 8 0) 9 0) 10 0) 11 0))), (h1, zi k1 1250 (a5_ 0)), (h6, zi k6 400 (a13_ 0)), (h7, zi k7 400 (a21_ 0)), (h8, zi k8 400 (a29_ 0)), (h2, zi k2 833 f2), (h5, zi k5 400 f5), (h3, zi k3 833 f3), (h4, zi k4 400 f4)] H := hP
  have hD : va_D A [(h0, .inr (6, mX6 h1 h2 h3 h4 h5 h6 h7 h8 (upd (upd (upd (upd v0 8 0) 9 0) 10 0) 11 0))), (h1, zi k1 1250 (a5_ 0)), (h6, zi k6 400 (a13_ 0)), (h7, zi k7 400 (a21_ 0)), (h8, zi k8 400 (a29_ 0)), (h2, zi k2 833 f2), (h5, zi k5 400 f5), (h3, zi k3 833 f3), (h4, zi k4 400 f4)] := hD
  refine W.widen (k := 0) (n := 0) (by decide) (by decide) ?_
  have hpost : (0 ≤ (0 : Int32).toInt ∧ (0 : Int32).toInt ≤ 0) ∧ (0 ≤ (0 : Int32).toInt ∧ (0 : Int32).toInt ≤ 0) ∧ (0 ≤ (0 : Int32).toInt ∧ (0 : Int32).toInt ≤ 0) ∧ (0 ≤ (0 : Int32).toInt ∧ (0 : Int32).toInt ≤ 0) := ⟨(by first | with_reducible assumption | exact ⟨by omega, by omega⟩), (by first | with_reducible assumption | exact ⟨by omega, by omega⟩), (by first | with_reducible assumption | exact ⟨by omega, by omega⟩), (by first | with_reducible assumption | exact ⟨by omega, by omega⟩)⟩
  have hP9 : va_P (dC, dI) vwCl [(h0, .inr (6, mX6 h1 h2 h3 h4 h5 h6 h7 h8 (upd (upd (upd (upd v0 8 0) 9 0) 10 0) 11 0))), (h1, zi k1 1250 (a5_ 0)), (h6, zi k6 400 (a13_ 0)), (h7, zi k7 400 (a21_ 0)), (h8, zi k8 400 (a29_ 0)), (h2, zi k2 833 f2), (h5, zi k5 400 f5), (h3, zi k3 833 f3), (h4, zi k4 400 f4)] H := hP
  have hD9 : va_D A [(h0, .inr (6, mX6 h1 h2 h3 h4 h5 h6 h7 h8 (upd (upd (upd (upd v0 8 0) 9 0) 10 0) 11 0))), (h1, zi k1 1250 (a5_ 0)), (h6, zi k6 400 (a13_ 0)), (h7, zi k7 400 (a21_ 0)), (h8, zi k8 400 (a29_ 0)), (h2, zi k2 833 f2), (h5, zi k5 400 f5), (h3, zi k3 833 f3), (h4, zi k4 400 f4)] := hD
  have hB0 : zPhi f2 f5 (a13_ 0) (0 : Int32).toInt (0 : Int32).toInt := by exact zPhi_0 (fun j hj => hB13_0 j (by omega)) (by omega)
  have hB1 : zPB (a5_ 0) f2 f3 f4 f5 (a13_ 0) (0 : Int32).toInt (0 : Int32).toInt (0 : Int32).toInt (0 : Int32).toInt (fun _ => []) := by exact zPB_0 (fun j hj => hB5_0 j (by omega)) (fun j hj => hB13_0 j (by omega)) (by decide) (by decide) (by decide) (by decide)
  have hB2 : ∀ j : Nat, j < 400 → (a21_ 0) j = 0 := by exact fun j hj => hB21_0 j (by omega)
  have hB3 : ∀ j : Nat, j < 400 → (a29_ 0) j = 0 := by exact fun j hj => hB29_0 j (by omega)
  exact W.vret hx hb hr (fun t ht hW => ⟨⟨(fun i => ([0, 0, 0, 0] : List (Int32)).getD i 0), rfl, hpost, (fun _ => 0), (fun i => ([(a5_ 0), (a13_ 0), (a21_ 0), (a29_ 0)] : List (Nat → Int32)).getD i (fun _ => 0)), (fun _ => (fun _ => 0)), hB0, hB1, hB2, hB3, by rw [ht]; exact hP9, va_K.moved hW.alike hK, hD9⟩, hS.F ht⟩) hS.2.2 dX6_clear_52
set_option maxHeartbeats 8000000 in
set_option maxRecDepth 100000 in
theorem sJ7_fill_53178_4 (l : Launch) (dC : Nat → ClassId) (dI : Nat → Nat → Nat) (adK adV : Nat → Nat) (h0 : Nat) (k0 : ClassId) (sz : Nat) (f0 : Nat → Int32) (x1 : Int32) (hf0 : zA (-1) 399 f0) (hx1 : (-1) ≤ x1.toInt ∧ x1.toInt ≤ 399) : Met l yJ7_fill_53178 (zw yJ7_fill_53178 cJ7_fill_53178 4 none) { frames := 0, cells := 0, slots := 0, locals := 0 } (zPc dC dI adK adV [.ref h0, .int x1] sz [(h0, zi k0 400 f0)] [(k0, .int)]) (va_Qv (fun (u : Nat → Int32) => True) (fun (u : Nat → Int32) (t : State) => ∃ (ww : Nat → Int64) (aa : Nat → Nat → Int32) (bb : Nat → Nat → Int64), zA (-1) 399 (aa 0) ∧ (∀ j : Nat, (j : Int) < 400 → (aa 0) j = (x1 : Int32)) ∧ va_P (dC, dI) vwCl [(h0, zi k0 400 (aa 0))] t.heap ∧ va_K (dC, dI) vwCl [(k0, .int)] t ∧ va_D (va_A [(h0, zi k0 400 f0)] sz) [(h0, zi k0 400 (aa 0))]) (va_A [(h0, zi k0 400 f0)] sz)) 0 0 (va_A [(h0, zi k0 400 f0)] sz) := by
  refine Met.ofW (cc := cJ7_fill_53178) (maxL := 4) (ret := none) (by decide) rfl ?_
  intro p e s m args below meth c s₁ B hml hv
  obtain ⟨rfl, hsz, hP, hK, hD0, hE, hZ⟩ := hv
  have hx := B.exec
  have hb := B.bytes
  have hr := B.returns
  have hG : ∀ w ∈ zG, w.before _ s = true := fun w h => atoms_spec (ws := (zw yJ7_fill_53178 cJ7_fill_53178 4 none)) B.pre w (List.mem_cons_of_mem _ h)
  have hown : s.vm.findClass RJ7 = some m.cls := findClass_of_methodNamed B.named
  have hlocks := B.notSynchronized

  subst hsz
  have hD := hD0.self (sz := s.heap.size)
  generalize hAe : va_A [(h0, zi k0 400 f0)] s.heap.size = A at hD hZ ⊢
  have hA : ∀ q : Nat, s.heap.size ≤ q → A q := fun q h => by rw [← hAe]; exact Or.inr h
  have hS : va_S A s.heap s.heap [] := va_S.rf
  have hl := lv_entry ([.ref h0, .int x1]) (n := 4) (Nat.le_of_ble_eq_true rfl)
  rw [lg_entry_eq]
  generalize (lg_sl ([.ref h0, .int x1]) ++ List.replicate (4 - (lg_sl ([.ref h0, .int x1])).length) Slot.unset).toArray = ls at hl ⊢
  have hl : lv_has ls 4 [(0, .ref h0), (1, .int x1)] := hl
  have b_ := zk_0
  refine lv_iconst (v := 0) hx hb dJ7_fill_53178_0 (by decide) ?_
  refine lv_istore_n (lv' := [(2, .int 0), (0, .ref h0), (1, .int x1)]) hx hb dJ7_fill_53178_1 rfl hl (by decide) rfl (fun ls hl => ?_)
  refine lv_aload_n hx hb dJ7_fill_53178_2 rfl (lv_at hl 1 rfl) ?_
  refine va_alen (v := 400) hx hb hK hP 0 0 rfl rfl (show Int32.ofNat 400 = 400 from by decide +kernel) dJ7_fill_53178_3 ?_
  refine lv_istore_n (lv' := [(3, .int 400), (2, .int 0), (0, .ref h0), (1, .int x1)]) hx hb dJ7_fill_53178_4 rfl hl (by decide) rfl (fun ls hl => ?_)
  refine zcutL (fun u5_ => (400 - (u5_ 0).toInt).toNat) (fun H locs ls u5_ w5_ a5_ b5_ => va_P (dC, dI) vwCl [(h0, zi k0 400 (a5_ 0))] H ∧ va_D A [(h0, zi k0 400 (a5_ 0))] ∧ va_S A s.heap H locs ∧ lv_has ls 4 [(0, .ref h0), (1, .int x1), (2, .int (u5_ 0)), (3, .int 400)] ∧ zA (-1) 399 (a5_ 0) ∧ (0 ≤ (u5_ 0).toInt ∧ (u5_ 0).toInt ≤ 400) ∧ (∀ j : Nat, (j : Int) < (u5_ 0).toInt → (a5_ 0) j = (x1 : Int32))) (fun ls u5_ w5_ => F0 m 5 ls []) 0 0 ?_ (fun hJ5 => ?_)
  · skip
    intro H locs ls u5_ w5_ a5_ b5_ hc hJ5
    obtain ⟨hP, hD, hS, hl, ha5_0, b_, hI5_0⟩ := hc
    refine lv_iload_n hx hb dJ7_fill_53178_5 rfl (lv_at hl 2 rfl) ?_
    refine lv_iload_n hx hb dJ7_fill_53178_6 rfl (lv_at hl 3 rfl) ?_
    refine lv_icmp_ge (tgt := 20) hx hb dJ7_fill_53178_7 (by decide) (fun c_ => ?_) (fun c_ => ?_)
    · skip
      have b_ := zT_ge rfl zk_400 c_
      refine W.widen (k := 0) (n := 0) (by decide) (by decide) ?_
      have hpost : True := trivial
      have hP9 : va_P (dC, dI) vwCl [(h0, zi k0 400 (a5_ 0))] H := hP
      have hD9 : va_D A [(h0, zi k0 400 (a5_ 0))] := hD
      have hB0 : ∀ j : Nat, (j : Int) < 400 → (a5_ 0) j = (x1 : Int32) := by intro j hj; exact hI5_0 j (by omega)
      exact W.vret hx hb hr (fun t ht hW => ⟨⟨(fun _ => 0), rfl, hpost, (fun _ => 0), (fun i => ([(a5_ 0)] : List (Nat → Int32)).getD i (fun _ => 0)), (fun _ => (fun _ => 0)), ha5_0, hB0, by rw [ht]; exact hP9, va_K.moved hW.alike hK, hD9⟩, hS.F ht⟩) hS.2.2 dJ7_fill_53178_20
    · skip
      have b_ := zF_ge rfl zk_400 c_
      refine lv_aload_n hx hb dJ7_fill_53178_10 rfl (lv_at hl 0 rfl) ?_
      refine lv_iload_n hx hb dJ7_fill_53178_11 rfl (lv_at hl 2 rfl) ?_
      refine lv_iload_n hx hb dJ7_fill_53178_12 rfl (lv_at hl 1 rfl) ?_
      refine va_iast hx hb hK hP hD hS 0 0 rfl rfl (zin_lit ⟨by omega, by omega⟩) dJ7_fill_53178_13 (fun H locs hP hD hS => ?_)
      obtain ⟨f_13, e_f_13⟩ : ∃ z : Nat → Int32, z = upd (a5_ 0) ((u5_ 0) : Int32).toNatClampNeg x1 := ⟨_, rfl⟩
      have hP : va_P (dC, dI) vwCl [(h0, zi k0 400 f_13)] H := by rw [e_f_13]; exact hP
      have hD : va_D A [(h0, zi k0 400 f_13)] := by rw [e_f_13]; exact hD
      have hf_13 : zA (-1) 399 f_13 := by rw [e_f_13]; exact zA_upd ha5_0 (show (-1) ≤ (x1 : Int32).toInt from by omega) (show (x1 : Int32).toInt ≤ 399 from by omega)
      obtain ⟨z14, e_z14⟩ : ∃ z : Int32, z = (u5_ 0) + Int32.ofInt 1 := ⟨_, rfl⟩
      have b_ := zadd (x := (u5_ 0)) (y := Int32.ofInt 1) rfl (show (Int32.ofInt 1).toInt = 1 from by decide) e_z14 (by omega) (by omega)
      refine lv_iinc (v := z14) (lv' := [(2, .int z14), (0, .ref h0), (1, .int x1), (3, .int 400)]) hx hb dJ7_fill_53178_14 hl (k := 2) rfl e_z14.symm (by decide) rfl (fun ls hl => ?_)
      refine lv_goto (tgt := 5) hx hb dJ7_fill_53178_17 (by decide) ?_
      have hc : va_P (dC, dI) vwCl [(h0, zi k0 400 f_13)] H ∧ va_D A [(h0, zi k0 400 f_13)] ∧ va_S A s.heap H locs ∧ lv_has ls 4 [(0, .ref h0), (1, .int x1), (2, .int z14), (3, .int 400)] ∧ zA (-1) 399 f_13 ∧ (0 ≤ z14.toInt ∧ z14.toInt ≤ 400) ∧ (∀ j : Nat, (j : Int) < z14.toInt → f_13 j = (x1 : Int32)) := ⟨hP, hD, hS, lv_sub hl [1, 2, 0, 3] rfl, hf_13, (by first | with_reducible assumption | exact ⟨by omega, by omega⟩), by first | (intro j hj; omega) | (rw [e_f_13]; exact zfill (by assumption) (by omega) (by omega))⟩
      exact hJ5 H locs ls (fun i => ([z14] : List (Int32)).getD i 0) (fun _ => 0) (fun i => ([f_13] : List (Nat → Int32)).getD i (fun _ => 0)) (fun _ => (fun _ => 0)) hc (show (400 - z14.toInt).toNat < (400 - (u5_ 0).toInt).toNat from by omega)
  · skip
    have hc : va_P (dC, dI) vwCl [(h0, zi k0 400 f0)] s.heap ∧ va_D A [(h0, zi k0 400 f0)] ∧ va_S A s.heap s.heap [] ∧ lv_has ls 4 [(0, .ref h0), (1, .int x1), (2, .int 0), (3, .int 400)] ∧ zA (-1) 399 f0 ∧ (0 ≤ (0 : Int32).toInt ∧ (0 : Int32).toInt ≤ 400) ∧ (∀ j : Nat, (j : Int) < (0 : Int32).toInt → f0 j = (x1 : Int32)) := ⟨hP, hD, hS, lv_sub hl [2, 3, 1, 0] rfl, hf0, (by first | with_reducible assumption | exact ⟨by omega, by omega⟩), by first | (intro j hj; omega) | (rw [e_f_13]; exact zfill (by assumption) (by omega) (by omega))⟩
    exact hJ5 s.heap [] ls (fun i => ([0] : List (Int32)).getD i 0) (fun _ => 0) (fun i => ([f0] : List (Nat → Int32)).getD i (fun _ => 0)) (fun _ => (fun _ => 0)) hc
set_option maxHeartbeats 8000000 in
set_option maxRecDepth 100000 in
theorem sX10_closeRanks_0 (l : Launch) (dC : Nat → ClassId) (dI : Nat → Nat → Nat) (adK adV : Nat → Nat) (h0 : Nat) (h3 : Nat) (h2 : Nat) (h1 : Nat) (h4 : Nat) (h5 : Nat) (h6 : Nat) (k3 : ClassId) (k2 : ClassId) (k1 : ClassId) (sz : Nat) (v0 : Nat → Int32) (f3 : Nat → Int32) (f2 : Nat → Int32) (f1 : Nat → Int64) (hv0 : zR rg_Words400 v0) (hf3 : zA (-1) 399 f3) (hf2 : zA 0 399 f2) : Met l yX10_closeRanks (zw yX10_closeRanks cX10_closeRanks 5 none) { frames := 1, cells := 0, slots := 0, locals := 23 } (zPc dC dI adK adV [.ref h0] sz [(h0, .inr (10, mX10 h1 h2 h3 h4 h5 h6 v0)), (h3, zi k3 400 f3), (h2, zi k2 400 f2), (h1, .inl (k1, 400, .inr (.inl f1)))] [(k3, .int), (k2, .int), (k1, .long)]) (va_Qv (fun (u : Nat → Int32) => (0 ≤ (u 0).toInt ∧ (u 0).toInt ≤ 400)) (fun (u : Nat → Int32) (t : State) => ∃ (ww : Nat → Int64) (aa : Nat → Nat → Int32) (bb : Nat → Nat → Int64), zA (-1) 399 (aa 0) ∧ zA 0 399 (aa 1) ∧ (zClo f3 f1 (bb 0) f2 (aa 1) (v0 7).toInt (u 0).toInt) ∧ (∀ j : Nat, (j : Int) < 400 → (aa 0) j = 0) ∧ va_P (dC, dI) vwCl [(h0, .inr (10, mX10 h1 h2 h3 h4 h5 h6 (upd v0 7 (u 0)))), (h3, zi k3 400 (aa 0)), (h2, zi k2 400 (aa 1)), (h1, .inl (k1, 400, .inr (.inl (bb 0))))] t.heap ∧ va_K (dC, dI) vwCl [(k3, .int), (k2, .int), (k1, .long)] t ∧ va_D (va_A [(h0, .inr (10, mX10 h1 h2 h3 h4 h5 h6 v0)), (h3, zi k3 400 f3), (h2, zi k2 400 f2), (h1, .inl (k1, 400, .inr (.inl f1)))] sz) [(h0, .inr (10, mX10 h1 h2 h3 h4 h5 h6 (upd v0 7 (u 0)))), (h3, zi k3 400 (aa 0)), (h2, zi k2 400 (aa 1)), (h1, .inl (k1, 400, .inr (.inl (bb 0))))]) (va_A [(h0, .inr (10, mX10 h1 h2 h3 h4 h5 h6 v0)), (h3, zi k3 400 f3), (h2, zi k2 400 f2), (h1, .inl (k1, 400, .inr (.inl f1)))] sz)) 0 0 (va_A [(h0, .inr (10, mX10 h1 h2 h3 h4 h5 h6 v0)), (h3, zi k3 400 f3), (h2, zi k2 400 f2), (h1, .inl (k1, 400, .inr (.inl f1)))] sz) := by
  refine Met.ofW (cc := cX10_closeRanks) (maxL := 5) (ret := none) (by decide) rfl ?_
  intro p e s m args below meth c s₁ B hml hv
  obtain ⟨rfl, hsz, hP, hK, hD0, hE, hZ⟩ := hv
  have hx := B.exec
  have hb := B.bytes
  have hr := B.returns
  have hG : ∀ w ∈ zG, w.before _ s = true := fun w h => atoms_spec (ws := (zw yX10_closeRanks cX10_closeRanks 5 none)) B.pre w (List.mem_cons_of_mem _ h)
  have hown : s.vm.findClass RX10 = some m.cls := findClass_of_methodNamed B.named
  have hlocks := B.notSynchronized

  subst hsz
  have hD := hD0.self (sz := s.heap.size)
  generalize hAe : va_A [(h0, .inr (10, mX10 h1 h2 h3 h4 h5 h6 v0)), (h3, zi k3 400 f3), (h2, zi k2 400 f2), (h1, .inl (k1, 400, .inr (.inl f1)))] s.heap.size = A at hD hZ ⊢
  have hA : ∀ q : Nat, s.heap.size ≤ q → A q := fun q h => by rw [← hAe]; exact Or.inr h
  have hS : va_S A s.heap s.heap [] := va_S.rf
  have hl := lv_entry ([.ref h0]) (n := 5) (Nat.le_of_ble_eq_true rfl)
  rw [lg_entry_eq]
  generalize (lg_sl ([.ref h0]) ++ List.replicate (5 - (lg_sl ([.ref h0])).length) Slot.unset).toArray = ls at hl ⊢
  have hl : lv_has ls 5 [(0, .ref h0)] := hl
  have b_ := zk_0
  have b_ : 0 ≤ (v0 7).toInt ∧ (v0 7).toInt ≤ 400 := hv0 7
  refine lv_iconst (v := 0) hx hb dX10_closeRanks_0 (by decide) ?_
  refine lv_istore_n (lv' := [(1, .int 0), (0, .ref h0)]) hx hb dX10_closeRanks_1 rfl hl (by decide) rfl (fun ls hl => ?_)
  refine lv_iconst (v := 0) hx hb dX10_closeRanks_2 (by decide) ?_
  refine lv_istore_n (lv' := [(2, .int 0), (1, .int 0), (0, .ref h0)]) hx hb dX10_closeRanks_3 rfl hl (by decide) rfl (fun ls hl => ?_)
  refine zcutL (fun u4_ => (400 - (u4_ 1).toInt).toNat) (fun H locs ls u4_ w4_ a4_ b4_ => va_P (dC, dI) vwCl [(h0, .inr (10, mX10 h1 h2 h3 h4 h5 h6 v0)), (h3, zi k3 400 (a4_ 0)), (h2, zi k2 400 f2), (h1, .inl (k1, 400, .inr (.inl f1)))] H ∧ va_D A [(h0, .inr (10, mX10 h1 h2 h3 h4 h5 h6 v0)), (h3, zi k3 400 (a4_ 0)), (h2, zi k2 400 f2), (h1, .inl (k1, 400, .inr (.inl f1)))] ∧ va_S A s.heap H locs ∧ lv_has ls 5 [(0, .ref h0), (1, .int (u4_ 0)), (2, .int (u4_ 1))] ∧ zA (-1) 399 (a4_ 0) ∧ (0 ≤ (u4_ 0).toInt ∧ (u4_ 0).toInt ≤ 400) ∧ (0 ≤ (u4_ 1).toInt ∧ (u4_ 1).toInt ≤ 400) ∧ ((u4_ 0).toInt ≤ (u4_ 1).toInt) ∧ ((u4_ 1).toInt ≤ (v0 7).toInt) ∧ (zCl1 f3 (a4_ 0) (u4_ 0).toInt (u4_ 1).toInt)) (fun ls u4_ w4_ => F0 m 4 ls []) 0 0 ?_ (fun hJ4 => ?_)
  · skip
    intro H locs ls u4_ w4_ a4_ b4_ hc hJ4
    obtain ⟨hP, hD, hS, hl, ha4_0, b_, b_, b_, b_, hI4_2⟩ := hc
    refine lv_iload_n hx hb dX10_closeRanks_4 rfl (lv_at hl 2 rfl) ?_
    refine lv_aload_n hx hb dX10_closeRanks_5 rfl (lv_at hl 0 rfl) ?_
    refine va_get (D := (dC, dI)) (ci := 10) (v := .int (v0 7)) (C := RX10) (T := TX10) (N := 8) hx hb hG zuX10 hown hK hP 0 rfl rfl 7 (by decide) (hG _ zv196) (fun _ h9 => h9) rfl dX10_closeRanks_6 ?_
    refine lv_icmp_ge (tgt := 38) hx hb dX10_closeRanks_9 (by decide) (fun c_ => ?_) (fun c_ => ?_)
    · skip
      have b_ := zT_ge rfl rfl c_
      refine lv_iconst (v := 0) hx hb dX10_closeRanks_38 (by decide) ?_
      refine lv_istore_n (lv' := [(2, .int 0), (0, .ref h0), (1, .int (u4_ 0))]) hx hb dX10_closeRanks_39 rfl hl (by decide) rfl (fun ls hl => ?_)
      refine lv_iconst (v := 0) hx hb dX10_closeRanks_40 (by decide) ?_
      refine lv_istore_n (lv' := [(3, .int 0), (2, .int 0), (0, .ref h0), (1, .int (u4_ 0))]) hx hb dX10_closeRanks_41 rfl hl (by decide) rfl (fun ls hl => ?_)
      refine zcutL (fun u42_ => (400 - (u42_ 1).toInt).toNat) (fun H locs ls u42_ w42_ a42_ b42_ => va_P (dC, dI) vwCl [(h0, .inr (10, mX10 h1 h2 h3 h4 h5 h6 v0)), (h3, zi k3 400 (a4_ 0)), (h2, zi k2 400 (a42_ 0)), (h1, .inl (k1, 400, .inr (.inl (b42_ 0))))] H ∧ va_D A [(h0, .inr (10, mX10 h1 h2 h3 h4 h5 h6 v0)), (h3, zi k3 400 (a4_ 0)), (h2, zi k2 400 (a42_ 0)), (h1, .inl (k1, 400, .inr (.inl (b42_ 0))))] ∧ va_S A s.heap H locs ∧ lv_has ls 5 [(0, .ref h0), (1, .int (u4_ 0)), (2, .int (u42_ 0)), (3, .int (u42_ 1))] ∧ zA 0 399 (a42_ 0) ∧ (0 ≤ (u42_ 0).toInt ∧ (u42_ 0).toInt ≤ 400) ∧ (0 ≤ (u42_ 1).toInt ∧ (u42_ 1).toInt ≤ 400) ∧ ((u42_ 0).toInt ≤ (u42_ 1).toInt) ∧ ((u42_ 1).toInt ≤ (v0 7).toInt) ∧ (zCl1 f3 (a4_ 0) (u4_ 0).toInt (v0 7).toInt) ∧ (zCl2 (a4_ 0) f1 (b42_ 0) f2 (a42_ 0) (u42_ 0).toInt (u42_ 1).toInt)) (fun ls u42_ w42_ => F0 m 42 ls []) 0 0 ?_ (fun hJ42 => ?_)
      · skip
        intro H locs ls u42_ w42_ a42_ b42_ hc hJ42
        obtain ⟨hP, hD, hS, hl, ha42_0, b_, b_, b_, b_, hI42_2, hI42_3⟩ := hc
        refine lv_iload_n hx hb dX10_closeRanks_42 rfl (lv_at hl 3 rfl) ?_
        refine lv_aload_n hx hb dX10_closeRanks_43 rfl (lv_at hl 0 rfl) ?_
        refine va_get (D := (dC, dI)) (ci := 10) (v := .int (v0 7)) (C := RX10) (T := TX10) (N := 8) hx hb hG zuX10 hown hK hP 0 rfl rfl 7 (by decide) (hG _ zv196) (fun _ h9 => h9) rfl dX10_closeRanks_44 ?_
        refine lv_icmp_ge (tgt := 98) hx hb dX10_closeRanks_47 (by decide) (fun c_ => ?_) (fun c_ => ?_)
        · skip
          have b_ := zT_ge rfl rfl c_
          refine lv_aload_n hx hb dX10_closeRanks_98 rfl (lv_at hl 0 rfl) ?_
          refine va_get (D := (dC, dI)) (ci := 10) (v := .ref h3) (C := RX10) (T := TX10) (N := 8) hx hb hG zuX10 hown hK hP 0 rfl rfl 3 (by decide) (hG _ zv192) (fun _ h9 => h9) rfl dX10_closeRanks_99 ?_
          refine lv_iconst (v := 0) hx hb dX10_closeRanks_102 (by decide) ?_
          have hPc := hP.sub (ws' := [(h3, zi k3 400 (a4_ 0))]) [1] rfl
          have hDc := hD.sub (ws' := [(h3, zi k3 400 (a4_ 0))]) [1] (by decide) rfl
          have hKc := hK.sub (tys' := [(k3, .int)]) [0] rfl
          have hFc := va_free (wc := [(h3, zi k3 400 (a4_ 0))]) hD hS hA [1] rfl
          refine va_callv (va_runS (As := [.ref h3, .int 0]) (rest := []) ⟨hx, hb, hml, hown, hG⟩ (sJ7_fill_53178_4 l dC dI adK adV h3 k3 H.size (a4_ 0) 0 ha4_0 ⟨show ((-1) : Int) ≤ (0 : Int32).toInt from by decide, show (0 : Int32).toInt ≤ (399 : Int) from by decide⟩) (va_cwS 2 hG (zgS zv825 zv471 zv141 zv472) rfl rfl rfl (by decide +kernel) ⟨Nat.le_of_ble_eq_true rfl, Nat.le_of_ble_eq_true rfl⟩) ⟨zPc_blind, zPc_pre hPc hKc hDc hE hS hFc hZ⟩ rfl rfl hl.1 rfl (lv_room (Nat.le_of_ble_eq_true rfl)) dX10_closeRanks_103 ⟨Nat.le_of_ble_eq_true rfl, Nat.le_of_ble_eq_true rfl⟩) hS (fun q _ h => hFc q h) hFc (fun u103_ t H1 locs ht hvm hw hB hz1 hk1 hS => ?_)
          obtain ⟨w103_, a103_, b103_, ha103_0, hB103_0, hP1, hK1, hD1⟩ := hB
          have hB103_0 : ∀ j : Nat, (j : Int) < 400 → (a103_ 0) j = (0 : Int32) := hB103_0
          rw [ht] at hP1
          obtain ⟨hP, hD⟩ := va_join (wr := [(h0, .inr (10, mX10 h1 h2 h3 h4 h5 h6 v0)), (h2, zi k2 400 (a42_ 0)), (h1, .inl (k1, 400, .inr (.inl (b42_ 0))))]) (w1 := [(h3, zi k3 400 (a103_ 0))]) hP hD [1] [0, 2, 3] rfl rfl (by decide) (by decide) hk1 hFc hP1 hD1
          have hP : va_P (dC, dI) vwCl [(h0, .inr (10, mX10 h1 h2 h3 h4 h5 h6 v0)), (h3, zi k3 400 (a103_ 0)), (h2, zi k2 400 (a42_ 0)), (h1, .inl (k1, 400, .inr (.inl (b42_ 0))))] H1 := hP.sub [0, 3, 1, 2] rfl
          have hD : va_D A [(h0, .inr (10, mX10 h1 h2 h3 h4 h5 h6 v0)), (h3, zi k3 400 (a103_ 0)), (h2, zi k2 400 (a42_ 0)), (h1, .inl (k1, 400, .inr (.inl (b42_ 0))))] := hD.sub [0, 3, 1, 2] (by decide) rfl
          generalize H1 = H at hP hS ⊢
          clear hz1
          refine lv_aload_n hx hb dX10_closeRanks_106 rfl (lv_at hl 0 rfl) ?_
          refine lv_iload_n hx hb dX10_closeRanks_107 rfl (lv_at hl 1 rfl) ?_
          refine va_put (D := (dC, dI)) (ci := 10) (v := .int (u4_ 0)) (ty := .int) (C := RX10) (T := TX10) (N := 8) hx hb hG zuX10 tyX10 tyX10_ok nmX10 hown hK hP hD hS 0 rfl rfl 7 (by decide) (hG _ zv196) (fun _ h9 => h9) rfl (by decide +kernel) rfl rfl (Nat.le_of_ble_eq_true rfl) dX10_closeRanks_108 (fun H locs hP hD hS => ?_)
          have hP : va_P (dC, dI) vwCl [(h0, .inr (10, mX10 h1 h2 h3 h4 h5 h6 (upd v0 7 (u4_ 0)))), (h3, zi k3 400 (a103_ 0)), (h2, zi k2 400 (a42_ 0)), (h1, .inl (k1, 400, .inr (.inl (b42_ 0))))] H := hP
          have hD : va_D A [(h0, .inr (10, mX10 h1 h2 h3 h4 h5 h6 (upd v0 7 (u4_ 0)))), (h3, zi k3 400 (a103_ 0)), (h2, zi k2 400 (a42_ 0)), (h1, .inl (k1, 400, .inr (.inl (b42_ 0))))] := hD
          refine W.widen (k := 0) (n := 0) (by decide) (by decide) ?_
          have hpost : (0 ≤ (u4_ 0).toInt ∧ (u4_ 0).toInt ≤ 400) := (by first | with_reducible assumption | exact ⟨by omega, by omega⟩)
          have hP9 : va_P (dC, dI) vwCl [(h0, .inr (10, mX10 h1 h2 h3 h4 h5 h6 (upd v0 7 (u4_ 0)))), (h3, zi k3 400 (a103_ 0)), (h2, zi k2 400 (a42_ 0)), (h1, .inl (k1, 400, .inr (.inl (b42_ 0))))] H := hP
          have hD9 : va_D A [(h0, .inr (10, mX10 h1 h2 h3 h4 h5 h6 (upd v0 7 (u4_ 0)))), (h3, zi k3 400 (a103_ 0)), (h2, zi k2 400 (a42_ 0)), (h1, .inl (k1, 400, .inr (.inl (b42_ 0))))] := hD
          have hB0 : zClo f3 f1 (b42_ 0) f2 (a42_ 0) (v0 7).toInt (u4_ 0).toInt := by exact ⟨_, _, hI42_2, zCl2_e hI42_3 (by omega)⟩
          have hB1 : ∀ j : Nat, (j : Int) < 400 → (a103_ 0) j = 0 := by exact hB103_0
          exact W.vret hx hb hr (fun t ht hW => ⟨⟨(fun i => ([(u4_ 0)] : List (Int32)).getD i 0), rfl, hpost, (fun _ => 0), (fun i => ([(a103_ 0), (a42_ 0)] : List (Nat → Int32)).getD i (fun _ => 0)), (fun i => ([(b42_ 0)] : List (Nat → Int64)).getD i (fun _ => 0)), ha103_0, ha42_0, hB0, hB1, by rw [ht]; exact hP9, va_K.moved hW.alike hK, hD9⟩, hS.F ht⟩) hS.2.2 dX10_closeRanks_111
        · skip
          have b_ := zF_ge rfl rfl c_
          refine lv_aload_n hx hb dX10_closeRanks_50 rfl (lv_at hl 0 rfl) ?_
          refine va_get (D := (dC, dI)) (ci := 10) (v := .ref h3) (C := RX10) (T := TX10) (N := 8) hx hb hG zuX10 hown hK hP 0 rfl rfl 3 (by decide) (hG _ zv192) (fun _ h9 => h9) rfl dX10_closeRanks_51 ?_
          refine lv_aload_n hx hb dX10_closeRanks_54 rfl (lv_at hl 0 rfl) ?_
          refine va_get (D := (dC, dI)) (ci := 10) (v := .ref h2) (C := RX10) (T := TX10) (N := 8) hx hb hG zuX10 hown hK hP 0 rfl rfl 2 (by decide) (hG _ zv191) (fun _ h9 => h9) rfl dX10_closeRanks_55 ?_
          refine lv_iload_n hx hb dX10_closeRanks_58 rfl (lv_at hl 3 rfl) ?_
          refine va_iald hx hb hK hP 2 1 rfl rfl (zin_lit ⟨by omega, by omega⟩) dX10_closeRanks_59 ?_
          refine lv_topi (fun z59 e_z59 => ?_)
          have b_ : 0 ≤ z59.toInt ∧ z59.toInt ≤ 399 := by rw [e_z59]; exact ha42_0 _
          refine va_iald hx hb hK hP 1 0 rfl rfl (zin_lit ⟨by omega, by omega⟩) dX10_closeRanks_60 ?_
          refine lv_topi (fun z60 e_z60 => ?_)
          have b_ : (-1) ≤ z60.toInt ∧ z60.toInt ≤ 399 := by rw [e_z60]; exact ha4_0 _
          refine lv_istore (lv' := [(4, .int z60), (0, .ref h0), (1, .int (u4_ 0)), (2, .int (u42_ 0)), (3, .int (u42_ 1))]) hx hb dX10_closeRanks_61 hl (by decide) rfl (fun ls hl => ?_)
          refine lv_iload hx hb dX10_closeRanks_63 (lv_at hl 0 rfl) ?_
          refine lv_iconst (v := (-1)) hx hb dX10_closeRanks_65 (by decide) ?_
          refine lv_icmp_eq (tgt := 92) hx hb dX10_closeRanks_66 (by decide) (fun c_ => ?_) (fun c_ => ?_)
          · skip
            have b_ := zT_eq rfl zk_m1 c_
            obtain ⟨z92, e_z92⟩ : ∃ z : Int32, z = (u42_ 1) + Int32.ofInt 1 := ⟨_, rfl⟩
            have b_ := zadd (x := (u42_ 1)) (y := Int32.ofInt 1) rfl (show (Int32.ofInt 1).toInt = 1 from by decide) e_z92 (by omega) (by omega)
            refine lv_iinc (v := z92) (lv' := [(3, .int z92), (4, .int z60), (0, .ref h0), (1, .int (u4_ 0)), (2, .int (u42_ 0))]) hx hb dX10_closeRanks_92 hl (k := 4) rfl e_z92.symm (by decide) rfl (fun ls hl => ?_)
            refine lv_goto (tgt := 42) hx hb dX10_closeRanks_95 (by decide) ?_
            have hc : va_P (dC, dI) vwCl [(h0, .inr (10, mX10 h1 h2 h3 h4 h5 h6 v0)), (h3, zi k3 400 (a4_ 0)), (h2, zi k2 400 (a42_ 0)), (h1, .inl (k1, 400, .inr (.inl (b42_ 0))))] H ∧ va_D A [(h0, .inr (10, mX10 h1 h2 h3 h4 h5 h6 v0)), (h3, zi k3 400 (a4_ 0)), (h2, zi k2 400 (a42_ 0)), (h1, .inl (k1, 400, .inr (.inl (b42_ 0))))] ∧ va_S A s.heap H locs ∧ lv_has ls 5 [(0, .ref h0), (1, .int (u4_ 0)), (2, .int (u42_ 0)), (3, .int z92)] ∧ zA 0 399 (a42_ 0) ∧ (0 ≤ (u42_ 0).toInt ∧ (u42_ 0).toInt ≤ 400) ∧ (0 ≤ z92.toInt ∧ z92.toInt ≤ 400) ∧ ((u42_ 0).toInt ≤ z92.toInt) ∧ (z92.toInt ≤ (v0 7).toInt) ∧ (zCl1 f3 (a4_ 0) (u4_ 0).toInt (v0 7).toInt) ∧ (zCl2 (a4_ 0) f1 (b42_ 0) f2 (a42_ 0) (u42_ 0).toInt z92.toInt) := ⟨hP, hD, hS, lv_sub hl [2, 3, 4, 0] rfl, ha42_0, (by first | with_reducible assumption | exact ⟨by omega, by omega⟩), (by first | with_reducible assumption | exact ⟨by omega, by omega⟩), by omega, by omega, by first | assumption | exact zCl1_e hI4_2 rfl (by omega), by first | exact zCl2_0 (by decide) (by decide) | exact zCl2_a hI42_3 e_z59 e_z60 (by omega) (by omega) (by omega) | (rw [e_f_80, e_f_88]; exact zCl2_b hI42_3 e_z59 e_z60 e_y_79 (by omega) (by omega) (by omega) (by omega))⟩
            exact hJ42 H locs ls (fun i => ([(u42_ 0), z92] : List (Int32)).getD i 0) (fun _ => 0) (fun i => ([(a42_ 0)] : List (Nat → Int32)).getD i (fun _ => 0)) (fun i => ([(b42_ 0)] : List (Nat → Int64)).getD i (fun _ => 0)) hc (show (400 - z92.toInt).toNat < (400 - (u42_ 1).toInt).toNat from by omega)
          · skip
            have b_ := zF_eq rfl zk_m1 c_
            refine lv_aload_n hx hb dX10_closeRanks_69 rfl (lv_at hl 1 rfl) ?_
            refine va_get (D := (dC, dI)) (ci := 10) (v := .ref h1) (C := RX10) (T := TX10) (N := 8) hx hb hG zuX10 hown hK hP 0 rfl rfl 1 (by decide) (hG _ zv190) (fun _ h9 => h9) rfl dX10_closeRanks_70 ?_
            refine lv_iload_n hx hb dX10_closeRanks_73 rfl (lv_at hl 3 rfl) ?_
            refine lv_aload_n hx hb dX10_closeRanks_74 rfl (lv_at hl 1 rfl) ?_
            refine va_get (D := (dC, dI)) (ci := 10) (v := .ref h1) (C := RX10) (T := TX10) (N := 8) hx hb hG zuX10 hown hK hP 0 rfl rfl 1 (by decide) (hG _ zv190) (fun _ h9 => h9) rfl dX10_closeRanks_75 ?_
            refine lv_iload_n hx hb dX10_closeRanks_78 rfl (lv_at hl 4 rfl) ?_
            refine va_lald hx hb hK hP 3 2 rfl rfl (zin_lit ⟨by omega, by omega⟩) dX10_closeRanks_79 ?_
            refine lv_topl (fun y_79 e_y_79 => ?_)
            refine va_last hx hb hK hP hD hS 3 2 rfl rfl (zin_lit ⟨by omega, by omega⟩) dX10_closeRanks_80 (fun H locs hP hD hS => ?_)
            obtain ⟨f_80, e_f_80⟩ : ∃ z : Nat → Int64, z = vp_updL (b42_ 0) ((u42_ 0) : Int32).toNatClampNeg y_79 := ⟨_, rfl⟩
            have hP : va_P (dC, dI) vwCl [(h0, .inr (10, mX10 h1 h2 h3 h4 h5 h6 v0)), (h3, zi k3 400 (a4_ 0)), (h2, zi k2 400 (a42_ 0)), (h1, .inl (k1, 400, .inr (.inl f_80)))] H := by rw [e_f_80]; exact hP
            have hD : va_D A [(h0, .inr (10, mX10 h1 h2 h3 h4 h5 h6 v0)), (h3, zi k3 400 (a4_ 0)), (h2, zi k2 400 (a42_ 0)), (h1, .inl (k1, 400, .inr (.inl f_80)))] := by rw [e_f_80]; exact hD
            refine lv_aload_n hx hb dX10_closeRanks_81 rfl (lv_at hl 1 rfl) ?_
            refine va_get (D := (dC, dI)) (ci := 10) (v := .ref h2) (C := RX10) (T := TX10) (N := 8) hx hb hG zuX10 hown hK hP 0 rfl rfl 2 (by decide) (hG _ zv191) (fun _ h9 => h9) rfl dX10_closeRanks_82 ?_
            refine lv_iload_n hx hb dX10_closeRanks_85 rfl (lv_at hl 3 rfl) ?_
            refine lv_iload hx hb dX10_closeRanks_86 (lv_at hl 0 rfl) ?_
            refine va_iast hx hb hK hP hD hS 2 1 rfl rfl (zin_lit ⟨by omega, by omega⟩) dX10_closeRanks_88 (fun H locs hP hD hS => ?_)
            obtain ⟨f_88, e_f_88⟩ : ∃ z : Nat → Int32, z = upd (a42_ 0) ((u42_ 0) : Int32).toNatClampNeg z60 := ⟨_, rfl⟩
            have hP : va_P (dC, dI) vwCl [(h0, .inr (10, mX10 h1 h2 h3 h4 h5 h6 v0)), (h3, zi k3 400 (a4_ 0)), (h2, zi k2 400 f_88), (h1, .inl (k1, 400, .inr (.inl f_80)))] H := by rw [e_f_88]; exact hP
            have hD : va_D A [(h0, .inr (10, mX10 h1 h2 h3 h4 h5 h6 v0)), (h3, zi k3 400 (a4_ 0)), (h2, zi k2 400 f_88), (h1, .inl (k1, 400, .inr (.inl f_80)))] := by rw [e_f_88]; exact hD
            have hf_88 : zA 0 399 f_88 := by rw [e_f_88]; exact zA_upd ha42_0 (show 0 ≤ (z60 : Int32).toInt from by omega) (show (z60 : Int32).toInt ≤ 399 from by omega)
            obtain ⟨z89, e_z89⟩ : ∃ z : Int32, z = (u42_ 0) + Int32.ofInt 1 := ⟨_, rfl⟩
            have b_ := zadd (x := (u42_ 0)) (y := Int32.ofInt 1) rfl (show (Int32.ofInt 1).toInt = 1 from by decide) e_z89 (by omega) (by omega)
            refine lv_iinc (v := z89) (lv' := [(2, .int z89), (4, .int z60), (0, .ref h0), (1, .int (u4_ 0)), (3, .int (u42_ 1))]) hx hb dX10_closeRanks_89 hl (k := 3) rfl e_z89.symm (by decide) rfl (fun ls hl => ?_)
            obtain ⟨z92, e_z92⟩ : ∃ z : Int32, z = (u42_ 1) + Int32.ofInt 1 := ⟨_, rfl⟩
            have b_ := zadd (x := (u42_ 1)) (y := Int32.ofInt 1) rfl (show (Int32.ofInt 1).toInt = 1 from by decide) e_z92 (by omega) (by omega)
            refine lv_iinc (v := z92) (lv' := [(3, .int z92), (2, .int z89), (4, .int z60), (0, .ref h0), (1, .int (u4_ 0))]) hx hb dX10_closeRanks_92 hl (k := 4) rfl e_z92.symm (by decide) rfl (fun ls hl => ?_)
            refine lv_goto (tgt := 42) hx hb dX10_closeRanks_95 (by decide) ?_
            have hc : va_P (dC, dI) vwCl [(h0, .inr (10, mX10 h1 h2 h3 h4 h5 h6 v0)), (h3, zi k3 400 (a4_ 0)), (h2, zi k2 400 f_88), (h1, .inl (k1, 400, .inr (.inl f_80)))] H ∧ va_D A [(h0, .inr (10, mX10 h1 h2 h3 h4 h5 h6 v0)), (h3, zi k3 400 (a4_ 0)), (h2, zi k2 400 f_88), (h1, .inl (k1, 400, .inr (.inl f_80)))] ∧ va_S A s.heap H locs ∧ lv_has ls 5 [(0, .ref h0), (1, .int (u4_ 0)), (2, .int z89), (3, .int z92)] ∧ zA 0 399 f_88 ∧ (0 ≤ z89.toInt ∧ z89.toInt ≤ 400) ∧ (0 ≤ z92.toInt ∧ z92.toInt ≤ 400) ∧ (z89.toInt ≤ z92.toInt) ∧ (z92.toInt ≤ (v0 7).toInt) ∧ (zCl1 f3 (a4_ 0) (u4_ 0).toInt (v0 7).toInt) ∧ (zCl2 (a4_ 0) f1 f_80 f2 f_88 z89.toInt z92.toInt) := ⟨hP, hD, hS, lv_sub hl [3, 4, 1, 0] rfl, hf_88, (by first | with_reducible assumption | exact ⟨by omega, by omega⟩), (by first | with_reducible assumption | exact ⟨by omega, by omega⟩), by omega, by omega, by first | assumption | exact zCl1_e hI4_2 rfl (by omega), by first | exact zCl2_0 (by decide) (by decide) | exact zCl2_a hI42_3 e_z59 e_z60 (by omega) (by omega) (by omega) | (rw [e_f_80, e_f_88]; exact zCl2_b hI42_3 e_z59 e_z60 e_y_79 (by omega) (by omega) (by omega) (by omega))⟩
            exact hJ42 H locs ls (fun i => ([z89, z92] : List (Int32)).getD i 0) (fun _ => 0) (fun i => ([f_88] : List (Nat → Int32)).getD i (fun _ => 0)) (fun i => ([f_80] : List (Nat → Int64)).getD i (fun _ => 0)) hc (show (400 - z92.toInt).toNat < (400 - (u42_ 1).toInt).toNat from by omega)
      · skip
        have hc : va_P (dC, dI) vwCl [(h0, .inr (10, mX10 h1 h2 h3 h4 h5 h6 v0)), (h3, zi k3 400 (a4_ 0)), (h2, zi k2 400 f2), (h1, .inl (k1, 400, .inr (.inl f1)))] H ∧ va_D A [(h0, .inr (10, mX10 h1 h2 h3 h4 h5 h6 v0)), (h3, zi k3 400 (a4_ 0)), (h2, zi k2 400 f2), (h1, .inl (k1, 400, .inr (.inl f1)))] ∧ va_S A s.heap H locs ∧ lv_has ls 5 [(0, .ref h0), (1, .int (u4_ 0)), (2, .int 0), (3, .int 0)] ∧ zA 0 399 f2 ∧ (0 ≤ (0 : Int32).toInt ∧ (0 : Int32).toInt ≤ 400) ∧ (0 ≤ (0 : Int32).toInt ∧ (0 : Int32).toInt ≤ 400) ∧ ((0 : Int32).toInt ≤ (0 : Int32).toInt) ∧ ((0 : Int32).toInt ≤ (v0 7).toInt) ∧ (zCl1 f3 (a4_ 0) (u4_ 0).toInt (v0 7).toInt) ∧ (zCl2 (a4_ 0) f1 f1 f2 f2 (0 : Int32).toInt (0 : Int32).toInt) := ⟨hP, hD, hS, lv_sub hl [2, 3, 1, 0] rfl, hf2, (by first | with_reducible assumption | exact ⟨by omega, by omega⟩), (by first | with_reducible assumption | exact ⟨by omega, by omega⟩), by omega, by omega, by first | assumption | exact zCl1_e hI4_2 rfl (by omega), by first | exact zCl2_0 (by decide) (by decide) | exact zCl2_a hI42_3 e_z59 e_z60 (by omega) (by omega) (by omega) | (rw [e_f_80, e_f_88]; exact zCl2_b hI42_3 e_z59 e_z60 e_y_79 (by omega) (by omega) (by omega) (by omega))⟩
        exact hJ42 H locs ls (fun i => ([0, 0] : List (Int32)).getD i 0) (fun _ => 0) (fun i => ([f2] : List (Nat → Int32)).getD i (fun _ => 0)) (fun i => ([f1] : List (Nat → Int64)).getD i (fun _ => 0)) hc
    · skip
      have b_ := zF_ge rfl rfl c_
      refine lv_aload_n hx hb dX10_closeRanks_12 rfl (lv_at hl 0 rfl) ?_
      refine va_get (D := (dC, dI)) (ci := 10) (v := .ref h3) (C := RX10) (T := TX10) (N := 8) hx hb hG zuX10 hown hK hP 0 rfl rfl 3 (by decide) (hG _ zv192) (fun _ h9 => h9) rfl dX10_closeRanks_13 ?_
      refine lv_iload_n hx hb dX10_closeRanks_16 rfl (lv_at hl 2 rfl) ?_
      refine va_iald hx hb hK hP 1 0 rfl rfl (zin_lit ⟨by omega, by omega⟩) dX10_closeRanks_17 ?_
      refine lv_topi (fun z17 e_z17 => ?_)
      have b_ : (-1) ≤ z17.toInt ∧ z17.toInt ≤ 399 := by rw [e_z17]; exact ha4_0 _
      refine lv_iconst (v := (-1)) hx hb dX10_closeRanks_18 (by decide) ?_
      refine lv_icmp_eq (tgt := 32) hx hb dX10_closeRanks_19 (by decide) (fun c_ => ?_) (fun c_ => ?_)
      · skip
        have b_ := zT_eq rfl zk_m1 c_
        obtain ⟨z32, e_z32⟩ : ∃ z : Int32, z = (u4_ 1) + Int32.ofInt 1 := ⟨_, rfl⟩
        have b_ := zadd (x := (u4_ 1)) (y := Int32.ofInt 1) rfl (show (Int32.ofInt 1).toInt = 1 from by decide) e_z32 (by omega) (by omega)
        refine lv_iinc (v := z32) (lv' := [(2, .int z32), (0, .ref h0), (1, .int (u4_ 0))]) hx hb dX10_closeRanks_32 hl (k := 2) rfl e_z32.symm (by decide) rfl (fun ls hl => ?_)
        refine lv_goto (tgt := 4) hx hb dX10_closeRanks_35 (by decide) ?_
        have hc : va_P (dC, dI) vwCl [(h0, .inr (10, mX10 h1 h2 h3 h4 h5 h6 v0)), (h3, zi k3 400 (a4_ 0)), (h2, zi k2 400 f2), (h1, .inl (k1, 400, .inr (.inl f1)))] H ∧ va_D A [(h0, .inr (10, mX10 h1 h2 h3 h4 h5 h6 v0)), (h3, zi k3 400 (a4_ 0)), (h2, zi k2 400 f2), (h1, .inl (k1, 400, .inr (.inl f1)))] ∧ va_S A s.heap H locs ∧ lv_has ls 5 [(0, .ref h0), (1, .int (u4_ 0)), (2, .int z32)] ∧ zA (-1) 399 (a4_ 0) ∧ (0 ≤ (u4_ 0).toInt ∧ (u4_ 0).toInt ≤ 400) ∧ (0 ≤ z32.toInt ∧ z32.toInt ≤ 400) ∧ ((u4_ 0).toInt ≤ z32.toInt) ∧ (z32.toInt ≤ (v0 7).toInt) ∧ (zCl1 f3 (a4_ 0) (u4_ 0).toInt z32.toInt) := ⟨hP, hD, hS, lv_sub hl [1, 2, 0] rfl, ha4_0, (by first | with_reducible assumption | exact ⟨by omega, by omega⟩), (by first | with_reducible assumption | exact ⟨by omega, by omega⟩), by omega, by omega, by first | exact zCl1_0 (by decide) (by decide) | exact zCl1_a hI4_2 e_z17 (by omega) (by omega) (by omega) | (rw [e_f_28]; exact zCl1_b hI4_2 e_z17 (by omega) rfl (by omega) (by omega) (by omega))⟩
        exact hJ4 H locs ls (fun i => ([(u4_ 0), z32] : List (Int32)).getD i 0) (fun _ => 0) (fun i => ([(a4_ 0)] : List (Nat → Int32)).getD i (fun _ => 0)) (fun _ => (fun _ => 0)) hc (show (400 - z32.toInt).toNat < (400 - (u4_ 1).toInt).toNat from by omega)
      · skip
        have b_ := zF_eq rfl zk_m1 c_
        refine lv_aload_n hx hb dX10_closeRanks_22 rfl (lv_at hl 0 rfl) ?_
        refine va_get (D := (dC, dI)) (ci := 10) (v := .ref h3) (C := RX10) (T := TX10) (N := 8) hx hb hG zuX10 hown hK hP 0 rfl rfl 3 (by decide) (hG _ zv192) (fun _ h9 => h9) rfl dX10_closeRanks_23 ?_
        refine lv_iload_n hx hb dX10_closeRanks_26 rfl (lv_at hl 2 rfl) ?_
        refine lv_iload_n hx hb dX10_closeRanks_27 rfl (lv_at hl 1 rfl) ?_
        refine va_iast hx hb hK hP hD hS 1 0 rfl rfl (zin_lit ⟨by omega, by omega⟩) dX10_closeRanks_28 (fun H locs hP hD hS => ?_)
        obtain ⟨f_28, e_f_28⟩ : ∃ z : Nat → Int32, z = upd (a4_ 0) ((u4_ 1) : Int32).toNatClampNeg (u4_ 0) := ⟨_, rfl⟩
        have hP : va_P (dC, dI) vwCl [(h0, .inr (10, mX10 h1 h2 h3 h4 h5 h6 v0)), (h3, zi k3 400 f_28), (h2, zi k2 400 f2), (h1, .inl (k1, 400, .inr (.inl f1)))] H := by rw [e_f_28]; exact hP
        have hD : va_D A [(h0, .inr (10, mX10 h1 h2 h3 h4 h5 h6 v0)), (h3, zi k3 400 f_28), (h2, zi k2 400 f2), (h1, .inl (k1, 400, .inr (.inl f1)))] := by rw [e_f_28]; exact hD
        have hf_28 : zA (-1) 399 f_28 := by rw [e_f_28]; exact zA_upd ha4_0 (show (-1) ≤ ((u4_ 0) : Int32).toInt from by omega) (show ((u4_ 0) : Int32).toInt ≤ 399 from by omega)
        obtain ⟨z29, e_z29⟩ : ∃ z : Int32, z = (u4_ 0) + Int32.ofInt 1 := ⟨_, rfl⟩
        have b_ := zadd (x := (u4_ 0)) (y := Int32.ofInt 1) rfl (show (Int32.ofInt 1).toInt = 1 from by decide) e_z29 (by omega) (by omega)
        refine lv_iinc (v := z29) (lv' := [(1, .int z29), (0, .ref h0), (2, .int (u4_ 1))]) hx hb dX10_closeRanks_29 hl (k := 1) rfl e_z29.symm (by decide) rfl (fun ls hl => ?_)
        obtain ⟨z32, e_z32⟩ : ∃ z : Int32, z = (u4_ 1) + Int32.ofInt 1 := ⟨_, rfl⟩
        have b_ := zadd (x := (u4_ 1)) (y := Int32.ofInt 1) rfl (show (Int32.ofInt 1).toInt = 1 from by decide) e_z32 (by omega) (by omega)
        refine lv_iinc (v := z32) (lv' := [(2, .int z32), (1, .int z29), (0, .ref h0)]) hx hb dX10_closeRanks_32 hl (k := 2) rfl e_z32.symm (by decide) rfl (fun ls hl => ?_)
        refine lv_goto (tgt := 4) hx hb dX10_closeRanks_35 (by decide) ?_
        have hc : va_P (dC, dI) vwCl [(h0, .inr (10, mX10 h1 h2 h3 h4 h5 h6 v0)), (h3, zi k3 400 f_28), (h2, zi k2 400 f2), (h1, .inl (k1, 400, .inr (.inl f1)))] H ∧ va_D A [(h0, .inr (10, mX10 h1 h2 h3 h4 h5 h6 v0)), (h3, zi k3 400 f_28), (h2, zi k2 400 f2), (h1, .inl (k1, 400, .inr (.inl f1)))] ∧ va_S A s.heap H locs ∧ lv_has ls 5 [(0, .ref h0), (1, .int z29), (2, .int z32)] ∧ zA (-1) 399 f_28 ∧ (0 ≤ z29.toInt ∧ z29.toInt ≤ 400) ∧ (0 ≤ z32.toInt ∧ z32.toInt ≤ 400) ∧ (z29.toInt ≤ z32.toInt) ∧ (z32.toInt ≤ (v0 7).toInt) ∧ (zCl1 f3 f_28 z29.toInt z32.toInt) := ⟨hP, hD, hS, lv_sub hl [2, 1, 0] rfl, hf_28, (by first | with_reducible assumption | exact ⟨by omega, by omega⟩), (by first | with_reducible assumption | exact ⟨by omega, by omega⟩), by omega, by omega, by first | exact zCl1_0 (by decide) (by decide) | exact zCl1_a hI4_2 e_z17 (by omega) (by omega) (by omega) | (rw [e_f_28]; exact zCl1_b hI4_2 e_z17 (by omega) rfl (by omega) (by omega) (by omega))⟩
        exact hJ4 H locs ls (fun i => ([z29, z32] : List (Int32)).getD i 0) (fun _ => 0) (fun i => ([f_28] : List (Nat → Int32)).getD i (fun _ => 0)) (fun _ => (fun _ => 0)) hc (show (400 - z32.toInt).toNat < (400 - (u4_ 1).toInt).toNat from by omega)
  · skip
    have hc : va_P (dC, dI) vwCl [(h0, .inr (10, mX10 h1 h2 h3 h4 h5 h6 v0)), (h3, zi k3 400 f3), (h2, zi k2 400 f2), (h1, .inl (k1, 400, .inr (.inl f1)))] s.heap ∧ va_D A [(h0, .inr (10, mX10 h1 h2 h3 h4 h5 h6 v0)), (h3, zi k3 400 f3), (h2, zi k2 400 f2), (h1, .inl (k1, 400, .inr (.inl f1)))] ∧ va_S A s.heap s.heap [] ∧ lv_has ls 5 [(0, .ref h0), (1, .int 0), (2, .int 0)] ∧ zA (-1) 399 f3 ∧ (0 ≤ (0 : Int32).toInt ∧ (0 : Int32).toInt ≤ 400) ∧ (0 ≤ (0 : Int32).toInt ∧ (0 : Int32).toInt ≤ 400) ∧ ((0 : Int32).toInt ≤ (0 : Int32).toInt) ∧ ((0 : Int32).toInt ≤ (v0 7).toInt) ∧ (zCl1 f3 f3 (0 : Int32).toInt (0 : Int32).toInt) := ⟨hP, hD, hS, lv_sub hl [2, 1, 0] rfl, hf3, (by first | with_reducible assumption | exact ⟨by omega, by omega⟩), (by first | with_reducible assumption | exact ⟨by omega, by omega⟩), by omega, by omega, by first | exact zCl1_0 (by decide) (by decide) | exact zCl1_a hI4_2 e_z17 (by omega) (by omega) (by omega) | (rw [e_f_28]; exact zCl1_b hI4_2 e_z17 (by omega) rfl (by omega) (by omega) (by omega))⟩
    exact hJ4 s.heap [] ls (fun i => ([0, 0] : List (Int32)).getD i 0) (fun _ => 0) (fun i => ([f3] : List (Nat → Int32)).getD i (fun _ => 0)) (fun _ => (fun _ => 0)) hc
set_option maxHeartbeats 8000000 in
set_option maxRecDepth 100000 in
theorem sX6_copyFrom_0 (l : Launch) (dC : Nat → ClassId) (dI : Nat → Nat → Nat) (adK adV : Nat → Nat) (h9 : Nat) (h0 : Nat) (h1 : Nat) (h10 : Nat) (h11 : Nat) (h2 : Nat) (h12 : Nat) (h3 : Nat) (h13 : Nat) (h4 : Nat) (h14 : Nat) (h5 : Nat) (h15 : Nat) (h6 : Nat) (h16 : Nat) (h7 : Nat) (h17 : Nat) (h8 : Nat) (k1 : ClassId) (k10 : ClassId) (k11 : ClassId) (k2 : ClassId) (k12 : ClassId) (k3 : ClassId) (k13 : ClassId) (k4 : ClassId) (k14 : ClassId) (k5 : ClassId) (k15 : ClassId) (k6 : ClassId) (k16 : ClassId) (k7 : ClassId) (k17 : ClassId) (k8 : ClassId) (sz : Nat) (v9 : Nat → Int32) (v0 : Nat → Int32) (f1 : Nat → Int32) (f10 : Nat → Int32) (f11 : Nat → Int32) (f2 : Nat → Int32) (f12 : Nat → Int32) (f3 : Nat → Int32) (f13 : Nat → Int32) (f4 : Nat → Int32) (f14 : Nat → Int32) (f5 : Nat → Int32) (f15 : Nat → Int32) (f6 : Nat → Int32) (f16 : Nat → Int32) (f7 : Nat → Int32) (f17 : Nat → Int32) (f8 : Nat → Int32) (hv9 : zR rg_Postings v9) (hv0 : zR rg_Postings v0) (hf11 : zA 0 1250 f11) (hf2 : zA 0 1250 f2) (hf14 : zA 0 832 f14) (hf5 : zA 0 832 f5) (hp0_ : zPhi f11 f14 f15 (v9 9).toInt (v9 8).toInt) : Met l yX6_copyFrom (zw yX6_copyFrom cX6_copyFrom 2 none) { frames := 1, cells := 0, slots := 0, locals := 100 } (zPc dC dI adK adV [.ref h0, .ref h9] sz [(h9, .inr (6, mX6 h10 h11 h12 h13 h14 h15 h16 h17 v9)), (h0, .inr (6, mX6 h1 h2 h3 h4 h5 h6 h7 h8 v0)), (h1, zi k1 1250 f1), (h10, zi k10 1250 f10), (h11, zi k11 833 f11), (h2, zi k2 833 f2), (h12, zi k12 833 f12), (h3, zi k3 833 f3), (h13, zi k13 400 f13), (h4, zi k4 400 f4), (h14, zi k14 400 f14), (h5, zi k5 400 f5), (h15, zi k15 400 f15), (h6, zi k6 400 f6), (h16, zi k16 400 f16), (h7, zi k7 400 f7), (h17, zi k17 400 f17), (h8, zi k8 400 f8)] [(k1, .int), (k10, .int), (k11, .int), (k2, .int), (k12, .int), (k3, .int), (k13, .int), (k4, .int), (k14, .int), (k5, .int), (k15, .int), (k6, .int), (k16, .int), (k7, .int), (k17, .int), (k8, .int)]) (va_Qv (fun (u : Nat → Int32) => (0 ≤ (u 0).toInt ∧ (u 0).toInt ≤ 833) ∧ (0 ≤ (u 1).toInt ∧ (u 1).toInt ≤ 1250)) (fun (u : Nat → Int32) (t : State) => ∃ (ww : Nat → Int64) (aa : Nat → Nat → Int32) (bb : Nat → Nat → Int64), zA 0 1250 (aa 1) ∧ zA 0 832 (aa 4) ∧ (zPhi (aa 1) (aa 4) (aa 5) (u 1).toInt (u 0).toInt) ∧ (∀ B : Nat → List Bool, zPB f10 f11 f12 f13 f14 f15 (v9 8).toInt (v9 9).toInt (v9 10).toInt (v9 11).toInt B → zPB (aa 0) (aa 1) (aa 2) (aa 3) (aa 4) (aa 5) (u 0).toInt (u 1).toInt (u 2).toInt (u 3).toInt B) ∧ (∀ j : Nat, j < 400 → (aa 6) j = f16 j) ∧ (∀ j : Nat, j < 400 → (aa 7) j = f17 j) ∧ va_P (dC, dI) vwCl [(h9, .inr (6, mX6 h10 h11 h12 h13 h14 h15 h16 h17 v9)), (h0, .inr (6, mX6 h1 h2 h3 h4 h5 h6 h7 h8 (upd (upd (upd (upd v0 8 (u 0)) 9 (u 1)) 10 (u 2)) 11 (u 3)))), (h1, zi k1 1250 (aa 0)), (h10, zi k10 1250 f10), (h11, zi k11 833 f11), (h2, zi k2 833 (aa 1)), (h12, zi k12 833 f12), (h3, zi k3 833 (aa 2)), (h13, zi k13 400 f13), (h4, zi k4 400 (aa 3)), (h14, zi k14 400 f14), (h5, zi k5 400 (aa 4)), (h15, zi k15 400 f15), (h6, zi k6 400 (aa 5)), (h16, zi k16 400 f16), (h7, zi k7 400 (aa 6)), (h17, zi k17 400 f17), (h8, zi k8 400 (aa 7))] t.heap ∧ va_K (dC, dI) vwCl [(k1, .int), (k10, .int), (k11, .int), (k2, .int), (k12, .int), (k3, .int), (k13, .int), (k4, .int), (k14, .int), (k5, .int), (k15, .int), (k6, .int), (k16, .int), (k7, .int), (k17, .int), (k8, .int)] t ∧ va_D (va_A [(h9, .inr (6, mX6 h10 h11 h12 h13 h14 h15 h16 h17 v9)), (h0, .inr (6, mX6 h1 h2 h3 h4 h5 h6 h7 h8 v0)), (h1, zi k1 1250 f1), (h10, zi k10 1250 f10), (h11, zi k11 833 f11), (h2, zi k2 833 f2), (h12, zi k12 833 f12), (h3, zi k3 833 f3), (h13, zi k13 400 f13), (h4, zi k4 400 f4), (h14, zi k14 400 f14), (h5, zi k5 400 f5), (h15, zi k15 400 f15), (h6, zi k6 400 f6), (h16, zi k16 400 f16), (h7, zi k7 400 f7), (h17, zi k17 400 f17), (h8, zi k8 400 f8)] sz) [(h9, .inr (6, mX6 h10 h11 h12 h13 h14 h15 h16 h17 v9)), (h0, .inr (6, mX6 h1 h2 h3 h4 h5 h6 h7 h8 (upd (upd (upd (upd v0 8 (u 0)) 9 (u 1)) 10 (u 2)) 11 (u 3)))), (h1, zi k1 1250 (aa 0)), (h10, zi k10 1250 f10), (h11, zi k11 833 f11), (h2, zi k2 833 (aa 1)), (h12, zi k12 833 f12), (h3, zi k3 833 (aa 2)), (h13, zi k13 400 f13), (h4, zi k4 400 (aa 3)), (h14, zi k14 400 f14), (h5, zi k5 400 (aa 4)), (h15, zi k15 400 f15), (h6, zi k6 400 (aa 5)), (h16, zi k16 400 f16), (h7, zi k7 400 (aa 6)), (h17, zi k17 400 f17), (h8, zi k8 400 (aa 7))]) (va_A [(h9, .inr (6, mX6 h10 h11 h12 h13 h14 h15 h16 h17 v9)), (h0, .inr (6, mX6 h1 h2 h3 h4 h5 h6 h7 h8 v0)), (h1, zi k1 1250 f1), (h10, zi k10 1250 f10), (h11, zi k11 833 f11), (h2, zi k2 833 f2), (h12, zi k12 833 f12), (h3, zi k3 833 f3), (h13, zi k13 400 f13), (h4, zi k4 400 f4), (h14, zi k14 400 f14), (h5, zi k5 400 f5), (h15, zi k15 400 f15), (h6, zi k6 400 f6), (h16, zi k16 400 f16), (h7, zi k7 400 f7), (h17, zi k17 400 f17), (h8, zi k8 400 f8)] sz)) 0 0 (va_A [(h9, .inr (6, mX6 h10 h11 h12 h13 h14 h15 h16 h17 v9)), (h0, .inr (6, mX6 h1 h2 h3 h4 h5 h6 h7 h8 v0)), (h1, zi k1 1250 f1), (h10, zi k10 1250 f10), (h11, zi k11 833 f11), (h2, zi k2 833 f2), (h12, zi k12 833 f12), (h3, zi k3 833 f3), (h13, zi k13 400 f13), (h4, zi k4 400 f4), (h14, zi k14 400 f14), (h5, zi k5 400 f5), (h15, zi k15 400 f15), (h6, zi k6 400 f6), (h16, zi k16 400 f16), (h7, zi k7 400 f7), (h17, zi k17 400 f17), (h8, zi k8 400 f8)] sz) := by
  refine Met.ofW (cc := cX6_copyFrom) (maxL := 2) (ret := none) (by decide) rfl ?_
  intro p e s m args below meth c s₁ B hml hv
  obtain ⟨rfl, hsz, hP, hK, hD0, hE, hZ⟩ := hv
  have hx := B.exec
  have hb := B.bytes
  have hr := B.returns
  have hG : ∀ w ∈ zG, w.before _ s = true := fun w h => atoms_spec (ws := (zw yX6_copyFrom cX6_copyFrom 2 none)) B.pre w (List.mem_cons_of_mem _ h)
  have hown : s.vm.findClass RX6 = some m.cls := findClass_of_methodNamed B.named
  have hlocks := B.notSynchronized

  subst hsz
  have hD := hD0.self (sz := s.heap.size)
  generalize hAe : va_A [(h9, .inr (6, mX6 h10 h11 h12 h13 h14 h15 h16 h17 v9)), (h0, .inr (6, mX6 h1 h2 h3 h4 h5 h6 h7 h8 v0)), (h1, zi k1 1250 f1), (h10, zi k10 1250 f10), (h11, zi k11 833 f11), (h2, zi k2 833 f2), (h12, zi k12 833 f12), (h3, zi k3 833 f3), (h13, zi k13 400 f13), (h4, zi k4 400 f4), (h14, zi k14 400 f14), (h5, zi k5 400 f5), (h15, zi k15 400 f15), (h6, zi k6 400 f6), (h16, zi k16 400 f16), (h7, zi k7 400 f7), (h17, zi k17 400 f17), (h8, zi k8 400 f8)] s.heap.size = A at hD hZ ⊢
  have hA : ∀ q : Nat, s.heap.size ≤ q → A q := fun q h => by rw [← hAe]; exact Or.inr h
  have hS : va_S A s.heap s.heap [] := va_S.rf
  have hl := lv_entry ([.ref h0, .ref h9]) (n := 2) (Nat.le_of_ble_eq_true rfl)
  rw [lg_entry_eq]
  generalize (lg_sl ([.ref h0, .ref h9]) ++ List.replicate (2 - (lg_sl ([.ref h0, .ref h9])).length) Slot.unset).toArray = ls at hl ⊢
  have hl : lv_has ls 2 [(0, .ref h0), (1, .ref h9)] := hl
  have b_ : 0 ≤ (v9 9).toInt ∧ (v9 9).toInt ≤ 1250 := hv9 9
  have b_ : 0 ≤ (v9 8).toInt ∧ (v9 8).toInt ≤ 833 := hv9 8
  refine lv_aload_n hx hb dX6_copyFrom_0 rfl (lv_at hl 1 rfl) ?_
  refine va_get (D := (dC, dI)) (ci := 6) (v := .ref h10) (C := RX6) (T := TX6) (N := 12) hx hb hG zuX6 hown hK hP 0 rfl rfl 0 (by decide) (hG _ zv248) (fun _ h9 => h9) rfl dX6_copyFrom_1 ?_
  refine lv_iconst (v := 0) hx hb dX6_copyFrom_4 (by decide) ?_
  refine lv_aload_n hx hb dX6_copyFrom_5 rfl (lv_at hl 0 rfl) ?_
  refine va_get (D := (dC, dI)) (ci := 6) (v := .ref h1) (C := RX6) (T := TX6) (N := 12) hx hb hG zuX6 hown hK hP 1 rfl rfl 0 (by decide) (hG _ zv248) (fun _ h9 => h9) rfl dX6_copyFrom_6 ?_
  refine lv_iconst (v := 0) hx hb dX6_copyFrom_9 (by decide) ?_
  refine lv_aload_n hx hb dX6_copyFrom_10 rfl (lv_at hl 0 rfl) ?_
  refine va_get (D := (dC, dI)) (ci := 6) (v := .ref h1) (C := RX6) (T := TX6) (N := 12) hx hb hG zuX6 hown hK hP 1 rfl rfl 0 (by decide) (hG _ zv248) (fun _ h9 => h9) rfl dX6_copyFrom_11 ?_
  refine va_alen (v := 1250) hx hb hK hP 2 0 rfl rfl (show Int32.ofNat 1250 = 1250 from by decide +kernel) dX6_copyFrom_14 ?_
  refine va_copyi (ty := .int) hx hb (by rw [hml]; exact hl.1.symm) hown (hG _ zv951) (hG _ zv762) (hG _ zv761) (hG _ zv150) hK hP hD hS 3 2 1 0 rfl rfl rfl rfl rfl (by decide) (by decide) (by decide) (zcl zk_0 zk_1250 (by omega) (by omega) (by omega)) (zcl zk_0 zk_1250 (by omega) (by omega) (by omega)) (fun _ _ => rfl) (Nat.le_of_ble_eq_true rfl) (Nat.le_of_ble_eq_true rfl) dX6_copyFrom_15 (fun H locs hP hD hS => ?_)
  obtain ⟨f_15, e_f_15⟩ : ∃ z : Nat → Int32, z = va_cpy f10 f1 (0 : Int32).toNatClampNeg (0 : Int32).toNatClampNeg (1250 : Int32).toNatClampNeg := ⟨_, rfl⟩
  have hP : va_P (dC, dI) vwCl [(h9, .inr (6, mX6 h10 h11 h12 h13 h14 h15 h16 h17 v9)), (h0, .inr (6, mX6 h1 h2 h3 h4 h5 h6 h7 h8 v0)), (h1, zi k1 1250 f_15), (h10, zi k10 1250 f10), (h11, zi k11 833 f11), (h2, zi k2 833 f2), (h12, zi k12 833 f12), (h3, zi k3 833 f3), (h13, zi k13 400 f13), (h4, zi k4 400 f4), (h14, zi k14 400 f14), (h5, zi k5 400 f5), (h15, zi k15 400 f15), (h6, zi k6 400 f6), (h16, zi k16 400 f16), (h7, zi k7 400 f7), (h17, zi k17 400 f17), (h8, zi k8 400 f8)] H := by rw [e_f_15]; exact hP
  have hD : va_D A [(h9, .inr (6, mX6 h10 h11 h12 h13 h14 h15 h16 h17 v9)), (h0, .inr (6, mX6 h1 h2 h3 h4 h5 h6 h7 h8 v0)), (h1, zi k1 1250 f_15), (h10, zi k10 1250 f10), (h11, zi k11 833 f11), (h2, zi k2 833 f2), (h12, zi k12 833 f12), (h3, zi k3 833 f3), (h13, zi k13 400 f13), (h4, zi k4 400 f4), (h14, zi k14 400 f14), (h5, zi k5 400 f5), (h15, zi k15 400 f15), (h6, zi k6 400 f6), (h16, zi k16 400 f16), (h7, zi k7 400 f7), (h17, zi k17 400 f17), (h8, zi k8 400 f8)] := by rw [e_f_15]; exact hD
  refine lv_aload_n hx hb dX6_copyFrom_18 rfl (lv_at hl 1 rfl) ?_
  refine va_get (D := (dC, dI)) (ci := 6) (v := .ref h11) (C := RX6) (T := TX6) (N := 12) hx hb hG zuX6 hown hK hP 0 rfl rfl 1 (by decide) (hG _ zv249) (fun _ h9 => h9) rfl dX6_copyFrom_19 ?_
  refine lv_iconst (v := 0) hx hb dX6_copyFrom_22 (by decide) ?_
  refine lv_aload_n hx hb dX6_copyFrom_23 rfl (lv_at hl 0 rfl) ?_
  refine va_get (D := (dC, dI)) (ci := 6) (v := .ref h2) (C := RX6) (T := TX6) (N := 12) hx hb hG zuX6 hown hK hP 1 rfl rfl 1 (by decide) (hG _ zv249) (fun _ h9 => h9) rfl dX6_copyFrom_24 ?_
  refine lv_iconst (v := 0) hx hb dX6_copyFrom_27 (by decide) ?_
  refine lv_sipush (v := 833) hx hb dX6_copyFrom_28 (by decide) ?_
  refine va_copyi (ty := .int) hx hb (by rw [hml]; exact hl.1.symm) hown (hG _ zv951) (hG _ zv762) (hG _ zv761) (hG _ zv150) hK hP hD hS 4 5 2 3 rfl rfl rfl rfl rfl (by decide) (by decide) (by decide) (zcl zk_0 zk_833 (by omega) (by omega) (by omega)) (zcl zk_0 zk_833 (by omega) (by omega) (by omega)) (fun _ _ => rfl) (Nat.le_of_ble_eq_true rfl) (Nat.le_of_ble_eq_true rfl) dX6_copyFrom_31 (fun H locs hP hD hS => ?_)
  obtain ⟨f_31, e_f_31⟩ : ∃ z : Nat → Int32, z = va_cpy f11 f2 (0 : Int32).toNatClampNeg (0 : Int32).toNatClampNeg (833 : Int32).toNatClampNeg := ⟨_, rfl⟩
  have hP : va_P (dC, dI) vwCl [(h9, .inr (6, mX6 h10 h11 h12 h13 h14 h15 h16 h17 v9)), (h0, .inr (6, mX6 h1 h2 h3 h4 h5 h6 h7 h8 v0)), (h1, zi k1 1250 f_15), (h10, zi k10 1250 f10), (h11, zi k11 833 f11), (h2, zi k2 833 f_31), (h12, zi k12 833 f12), (h3, zi k3 833 f3), (h13, zi k13 400 f13), (h4, zi k4 400 f4), (h14, zi k14 400 f14), (h5, zi k5 400 f5), (h15, zi k15 400 f15), (h6, zi k6 400 f6), (h16, zi k16 400 f16), (h7, zi k7 400 f7), (h17, zi k17 400 f17), (h8, zi k8 400 f8)] H := by rw [e_f_31]; exact hP
  have hD : va_D A [(h9, .inr (6, mX6 h10 h11 h12 h13 h14 h15 h16 h17 v9)), (h0, .inr (6, mX6 h1 h2 h3 h4 h5 h6 h7 h8 v0)), (h1, zi k1 1250 f_15), (h10, zi k10 1250 f10), (h11, zi k11 833 f11), (h2, zi k2 833 f_31), (h12, zi k12 833 f12), (h3, zi k3 833 f3), (h13, zi k13 400 f13), (h4, zi k4 400 f4), (h14, zi k14 400 f14), (h5, zi k5 400 f5), (h15, zi k15 400 f15), (h6, zi k6 400 f6), (h16, zi k16 400 f16), (h7, zi k7 400 f7), (h17, zi k17 400 f17), (h8, zi k8 400 f8)] := by rw [e_f_31]; exact hD
  have hf_31 : zA 0 1250 f_31 := by rw [e_f_31]; exact zA_cpy hf11 hf2
  refine lv_aload_n hx hb dX6_copyFrom_34 rfl (lv_at hl 1 rfl) ?_
  refine va_get (D := (dC, dI)) (ci := 6) (v := .ref h12) (C := RX6) (T := TX6) (N := 12) hx hb hG zuX6 hown hK hP 0 rfl rfl 2 (by decide) (hG _ zv250) (fun _ h9 => h9) rfl dX6_copyFrom_35 ?_
  refine lv_iconst (v := 0) hx hb dX6_copyFrom_38 (by decide) ?_
  refine lv_aload_n hx hb dX6_copyFrom_39 rfl (lv_at hl 0 rfl) ?_
  refine va_get (D := (dC, dI)) (ci := 6) (v := .ref h3) (C := RX6) (T := TX6) (N := 12) hx hb hG zuX6 hown hK hP 1 rfl rfl 2 (by decide) (hG _ zv250) (fun _ h9 => h9) rfl dX6_copyFrom_40 ?_
  refine lv_iconst (v := 0) hx hb dX6_copyFrom_43 (by decide) ?_
  refine lv_sipush (v := 833) hx hb dX6_copyFrom_44 (by decide) ?_
  refine va_copyi (ty := .int) hx hb (by rw [hml]; exact hl.1.symm) hown (hG _ zv951) (hG _ zv762) (hG _ zv761) (hG _ zv150) hK hP hD hS 6 7 4 5 rfl rfl rfl rfl rfl (by decide) (by decide) (by decide) (zcl zk_0 zk_833 (by omega) (by omega) (by omega)) (zcl zk_0 zk_833 (by omega) (by omega) (by omega)) (fun _ _ => rfl) (Nat.le_of_ble_eq_true rfl) (Nat.le_of_ble_eq_true rfl) dX6_copyFrom_47 (fun H locs hP hD hS => ?_)
  obtain ⟨f_47, e_f_47⟩ : ∃ z : Nat → Int32, z = va_cpy f12 f3 (0 : Int32).toNatClampNeg (0 : Int32).toNatClampNeg (833 : Int32).toNatClampNeg := ⟨_, rfl⟩
  have hP : va_P (dC, dI) vwCl [(h9, .inr (6, mX6 h10 h11 h12 h13 h14 h15 h16 h17 v9)), (h0, .inr (6, mX6 h1 h2 h3 h4 h5 h6 h7 h8 v0)), (h1, zi k1 1250 f_15), (h10, zi k10 1250 f10), (h11, zi k11 833 f11), (h2, zi k2 833 f_31), (h12, zi k12 833 f12), (h3, zi k3 833 f_47), (h13, zi k13 400 f13), (h4, zi k4 400 f4), (h14, zi k14 400 f14), (h5, zi k5 400 f5), (h15, zi k15 400 f15), (h6, zi k6 400 f6), (h16, zi k16 400 f16), (h7, zi k7 400 f7), (h17, zi k17 400 f17), (h8, zi k8 400 f8)] H := by rw [e_f_47]; exact hP
  have hD : va_D A [(h9, .inr (6, mX6 h10 h11 h12 h13 h14 h15 h16 h17 v9)), (h0, .inr (6, mX6 h1 h2 h3 h4 h5 h6 h7 h8 v0)), (h1, zi k1 1250 f_15), (h10, zi k10 1250 f10), (h11, zi k11 833 f11), (h2, zi k2 833 f_31), (h12, zi k12 833 f12), (h3, zi k3 833 f_47), (h13, zi k13 400 f13), (h4, zi k4 400 f4), (h14, zi k14 400 f14), (h5, zi k5 400 f5), (h15, zi k15 400 f15), (h6, zi k6 400 f6), (h16, zi k16 400 f16), (h7, zi k7 400 f7), (h17, zi k17 400 f17), (h8, zi k8 400 f8)] := by rw [e_f_47]; exact hD
  refine lv_aload_n hx hb dX6_copyFrom_50 rfl (lv_at hl 1 rfl) ?_
  refine va_get (D := (dC, dI)) (ci := 6) (v := .ref h13) (C := RX6) (T := TX6) (N := 12) hx hb hG zuX6 hown hK hP 0 rfl rfl 3 (by decide) (hG _ zv251) (fun _ h9 => h9) rfl dX6_copyFrom_51 ?_
  refine lv_iconst (v := 0) hx hb dX6_copyFrom_54 (by decide) ?_
  refine lv_aload_n hx hb dX6_copyFrom_55 rfl (lv_at hl 0 rfl) ?_
  refine va_get (D := (dC, dI)) (ci := 6) (v := .ref h4) (C := RX6) (T := TX6) (N := 12) hx hb hG zuX6 hown hK hP 1 rfl rfl 3 (by decide) (hG _ zv251) (fun _ h9 => h9) rfl dX6_copyFrom_56 ?_
  refine lv_iconst (v := 0) hx hb dX6_copyFrom_59 (by decide) ?_
  refine lv_sipush (v := 400) hx hb dX6_copyFrom_60 (by decide) ?_
  refine va_copyi (ty := .int) hx hb (by rw [hml]; exact hl.1.symm) hown (hG _ zv951) (hG _ zv762) (hG _ zv761) (hG _ zv150) hK hP hD hS 8 9 6 7 rfl rfl rfl rfl rfl (by decide) (by decide) (by decide) (zcl zk_0 zk_400 (by omega) (by omega) (by omega)) (zcl zk_0 zk_400 (by omega) (by omega) (by omega)) (fun _ _ => rfl) (Nat.le_of_ble_eq_true rfl) (Nat.le_of_ble_eq_true rfl) dX6_copyFrom_63 (fun H locs hP hD hS => ?_)
  obtain ⟨f_63, e_f_63⟩ : ∃ z : Nat → Int32, z = va_cpy f13 f4 (0 : Int32).toNatClampNeg (0 : Int32).toNatClampNeg (400 : Int32).toNatClampNeg := ⟨_, rfl⟩
  have hP : va_P (dC, dI) vwCl [(h9, .inr (6, mX6 h10 h11 h12 h13 h14 h15 h16 h17 v9)), (h0, .inr (6, mX6 h1 h2 h3 h4 h5 h6 h7 h8 v0)), (h1, zi k1 1250 f_15), (h10, zi k10 1250 f10), (h11, zi k11 833 f11), (h2, zi k2 833 f_31), (h12, zi k12 833 f12), (h3, zi k3 833 f_47), (h13, zi k13 400 f13), (h4, zi k4 400 f_63), (h14, zi k14 400 f14), (h5, zi k5 400 f5), (h15, zi k15 400 f15), (h6, zi k6 400 f6), (h16, zi k16 400 f16), (h7, zi k7 400 f7), (h17, zi k17 400 f17), (h8, zi k8 400 f8)] H := by rw [e_f_63]; exact hP
  have hD : va_D A [(h9, .inr (6, mX6 h10 h11 h12 h13 h14 h15 h16 h17 v9)), (h0, .inr (6, mX6 h1 h2 h3 h4 h5 h6 h7 h8 v0)), (h1, zi k1 1250 f_15), (h10, zi k10 1250 f10), (h11, zi k11 833 f11), (h2, zi k2 833 f_31), (h12, zi k12 833 f12), (h3, zi k3 833 f_47), (h13, zi k13 400 f13), (h4, zi k4 400 f_63), (h14, zi k14 400 f14), (h5, zi k5 400 f5), (h15, zi k15 400 f15), (h6, zi k6 400 f6), (h16, zi k16 400 f16), (h7, zi k7 400 f7), (h17, zi k17 400 f17), (h8, zi k8 400 f8)] := by rw [e_f_63]; exact hD
  refine lv_aload_n hx hb dX6_copyFrom_66 rfl (lv_at hl 1 rfl) ?_
  refine va_get (D := (dC, dI)) (ci := 6) (v := .ref h14) (C := RX6) (T := TX6) (N := 12) hx hb hG zuX6 hown hK hP 0 rfl rfl 4 (by decide) (hG _ zv252) (fun _ h9 => h9) rfl dX6_copyFrom_67 ?_
  refine lv_iconst (v := 0) hx hb dX6_copyFrom_70 (by decide) ?_
  refine lv_aload_n hx hb dX6_copyFrom_71 rfl (lv_at hl 0 rfl) ?_
  refine va_get (D := (dC, dI)) (ci := 6) (v := .ref h5) (C := RX6) (T := TX6) (N := 12) hx hb hG zuX6 hown hK hP 1 rfl rfl 4 (by decide) (hG _ zv252) (fun _ h9 => h9) rfl dX6_copyFrom_72 ?_
  refine lv_iconst (v := 0) hx hb dX6_copyFrom_75 (by decide) ?_
  refine lv_sipush (v := 400) hx hb dX6_copyFrom_76 (by decide) ?_
  refine va_copyi (ty := .int) hx hb (by rw [hml]; exact hl.1.symm) hown (hG _ zv951) (hG _ zv762) (hG _ zv761) (hG _ zv150) hK hP hD hS 10 11 8 9 rfl rfl rfl rfl rfl (by decide) (by decide) (by decide) (zcl zk_0 zk_400 (by omega) (by omega) (by omega)) (zcl zk_0 zk_400 (by omega) (by omega) (by omega)) (fun _ _ => rfl) (Nat.le_of_ble_eq_true rfl) (Nat.le_of_ble_eq_true rfl) dX6_copyFrom_79 (fun H locs hP hD hS => ?_)
  obtain ⟨f_79, e_f_79⟩ : ∃ z : Nat → Int32, z = va_cpy f14 f5 (0 : Int32).toNatClampNeg (0 : Int32).toNatClampNeg (400 : Int32).toNatClampNeg := ⟨_, rfl⟩
  have hP : va_P (dC, dI) vwCl [(h9, .inr (6, mX6 h10 h11 h12 h13 h14 h15 h16 h17 v9)), (h0, .inr (6, mX6 h1 h2 h3 h4 h5 h6 h7 h8 v0)), (h1, zi k1 1250 f_15), (h10, zi k10 1250 f10), (h11, zi k11 833 f11), (h2, zi k2 833 f_31), (h12, zi k12 833 f12), (h3, zi k3 833 f_47), (h13, zi k13 400 f13), (h4, zi k4 400 f_63), (h14, zi k14 400 f14), (h5, zi k5 400 f_79), (h15, zi k15 400 f15), (h6, zi k6 400 f6), (h16, zi k16 400 f16), (h7, zi k7 400 f7), (h17, zi k17 400 f17), (h8, zi k8 400 f8)] H := by rw [e_f_79]; exact hP
  have hD : va_D A [(h9, .inr (6, mX6 h10 h11 h12 h13 h14 h15 h16 h17 v9)), (h0, .inr (6, mX6 h1 h2 h3 h4 h5 h6 h7 h8 v0)), (h1, zi k1 1250 f_15), (h10, zi k10 1250 f10), (h11, zi k11 833 f11), (h2, zi k2 833 f_31), (h12, zi k12 833 f12), (h3, zi k3 833 f_47), (h13, zi k13 400 f13), (h4, zi k4 400 f_63), (h14, zi k14 400 f14), (h5, zi k5 400 f_79), (h15, zi k15 400 f15), (h6, zi k6 400 f6), (h16, zi k16 400 f16), (h7, zi k7 400 f7), (h17, zi k17 400 f17), (h8, zi k8 400 f8)] := by rw [e_f_79]; exact hD
  have hf_79 : zA 0 832 f_79 := by rw [e_f_79]; exact zA_cpy hf14 hf5
  refine lv_aload_n hx hb dX6_copyFrom_82 rfl (lv_at hl 1 rfl) ?_
  refine va_get (D := (dC, dI)) (ci := 6) (v := .ref h15) (C := RX6) (T := TX6) (N := 12) hx hb hG zuX6 hown hK hP 0 rfl rfl 5 (by decide) (hG _ zv253) (fun _ h9 => h9) rfl dX6_copyFrom_83 ?_
  refine lv_iconst (v := 0) hx hb dX6_copyFrom_86 (by decide) ?_
  refine lv_aload_n hx hb dX6_copyFrom_87 rfl (lv_at hl 0 rfl) ?_
  refine va_get (D := (dC, dI)) (ci := 6) (v := .ref h6) (C := RX6) (T := TX6) (N := 12) hx hb hG zuX6 hown hK hP 1 rfl rfl 5 (by decide) (hG _ zv253) (fun _ h9 => h9) rfl dX6_copyFrom_88 ?_
  refine lv_iconst (v := 0) hx hb dX6_copyFrom_91 (by decide) ?_
  refine lv_sipush (v := 400) hx hb dX6_copyFrom_92 (by decide) ?_
  refine va_copyi (ty := .int) hx hb (by rw [hml]; exact hl.1.symm) hown (hG _ zv951) (hG _ zv762) (hG _ zv761) (hG _ zv150) hK hP hD hS 12 13 10 11 rfl rfl rfl rfl rfl (by decide) (by decide) (by decide) (zcl zk_0 zk_400 (by omega) (by omega) (by omega)) (zcl zk_0 zk_400 (by omega) (by omega) (by omega)) (fun _ _ => rfl) (Nat.le_of_ble_eq_true rfl) (Nat.le_of_ble_eq_true rfl) dX6_copyFrom_95 (fun H locs hP hD hS => ?_)
  obtain ⟨f_95, e_f_95⟩ : ∃ z : Nat → Int32, z = va_cpy f15 f6 (0 : Int32).toNatClampNeg (0 : Int32).toNatClampNeg (400 : Int32).toNatClampNeg := ⟨_, rfl⟩
  have hP : va_P (dC, dI) vwCl [(h9, .inr (6, mX6 h10 h11 h12 h13 h14 h15 h16 h17 v9)), (h0, .inr (6, mX6 h1 h2 h3 h4 h5 h6 h7 h8 v0)), (h1, zi k1 1250 f_15), (h10, zi k10 1250 f10), (h11, zi k11 833 f11), (h2, zi k2 833 f_31), (h12, zi k12 833 f12), (h3, zi k3 833 f_47), (h13, zi k13 400 f13), (h4, zi k4 400 f_63), (h14, zi k14 400 f14), (h5, zi k5 400 f_79), (h15, zi k15 400 f15), (h6, zi k6 400 f_95), (h16, zi k16 400 f16), (h7, zi k7 400 f7), (h17, zi k17 400 f17), (h8, zi k8 400 f8)] H := by rw [e_f_95]; exact hP
  have hD : va_D A [(h9, .inr (6, mX6 h10 h11 h12 h13 h14 h15 h16 h17 v9)), (h0, .inr (6, mX6 h1 h2 h3 h4 h5 h6 h7 h8 v0)), (h1, zi k1 1250 f_15), (h10, zi k10 1250 f10), (h11, zi k11 833 f11), (h2, zi k2 833 f_31), (h12, zi k12 833 f12), (h3, zi k3 833 f_47), (h13, zi k13 400 f13), (h4, zi k4 400 f_63), (h14, zi k14 400 f14), (h5, zi k5 400 f_79), (h15, zi k15 400 f15), (h6, zi k6 400 f_95), (h16, zi k16 400 f16), (h7, zi k7 400 f7), (h17, zi k17 400 f17), (h8, zi k8 400 f8)] := by rw [e_f_95]; exact hD
  refine lv_aload_n hx hb dX6_copyFrom_98 rfl (lv_at hl 1 rfl) ?_
  refine va_get (D := (dC, dI)) (ci := 6) (v := .ref h16) (C := RX6) (T := TX6) (N := 12) hx hb hG zuX6 hown hK hP 0 rfl rfl 6 (by decide) (hG _ zv254) (fun _ h9 => h9) rfl dX6_copyFrom_99 ?_
  refine lv_iconst (v := 0) hx hb dX6_copyFrom_102 (by decide) ?_
  refine lv_aload_n hx hb dX6_copyFrom_103 rfl (lv_at hl 0 rfl) ?_
  refine va_get (D := (dC, dI)) (ci := 6) (v := .ref h7) (C := RX6) (T := TX6) (N := 12) hx hb hG zuX6 hown hK hP 1 rfl rfl 6 (by decide) (hG _ zv254) (fun _ h9 => h9) rfl dX6_copyFrom_104 ?_
  refine lv_iconst (v := 0) hx hb dX6_copyFrom_107 (by decide) ?_
  refine lv_sipush (v := 400) hx hb dX6_copyFrom_108 (by decide) ?_
  refine va_copyi (ty := .int) hx hb (by rw [hml]; exact hl.1.symm) hown (hG _ zv951) (hG _ zv762) (hG _ zv761) (hG _ zv150) hK hP hD hS 14 15 12 13 rfl rfl rfl rfl rfl (by decide) (by decide) (by decide) (zcl zk_0 zk_400 (by omega) (by omega) (by omega)) (zcl zk_0 zk_400 (by omega) (by omega) (by omega)) (fun _ _ => rfl) (Nat.le_of_ble_eq_true rfl) (Nat.le_of_ble_eq_true rfl) dX6_copyFrom_111 (fun H locs hP hD hS => ?_)
  obtain ⟨f_111, e_f_111⟩ : ∃ z : Nat → Int32, z = va_cpy f16 f7 (0 : Int32).toNatClampNeg (0 : Int32).toNatClampNeg (400 : Int32).toNatClampNeg := ⟨_, rfl⟩
  have hP : va_P (dC, dI) vwCl [(h9, .inr (6, mX6 h10 h11 h12 h13 h14 h15 h16 h17 v9)), (h0, .inr (6, mX6 h1 h2 h3 h4 h5 h6 h7 h8 v0)), (h1, zi k1 1250 f_15), (h10, zi k10 1250 f10), (h11, zi k11 833 f11), (h2, zi k2 833 f_31), (h12, zi k12 833 f12), (h3, zi k3 833 f_47), (h13, zi k13 400 f13), (h4, zi k4 400 f_63), (h14, zi k14 400 f14), (h5, zi k5 400 f_79), (h15, zi k15 400 f15), (h6, zi k6 400 f_95), (h16, zi k16 400 f16), (h7, zi k7 400 f_111), (h17, zi k17 400 f17), (h8, zi k8 400 f8)] H := by rw [e_f_111]; exact hP
  have hD : va_D A [(h9, .inr (6, mX6 h10 h11 h12 h13 h14 h15 h16 h17 v9)), (h0, .inr (6, mX6 h1 h2 h3 h4 h5 h6 h7 h8 v0)), (h1, zi k1 1250 f_15), (h10, zi k10 1250 f10), (h11, zi k11 833 f11), (h2, zi k2 833 f_31), (h12, zi k12 833 f12), (h3, zi k3 833 f_47), (h13, zi k13 400 f13), (h4, zi k4 400 f_63), (h14, zi k14 400 f14), (h5, zi k5 400 f_79), (h15, zi k15 400 f15), (h6, zi k6 400 f_95), (h16, zi k16 400 f16), (h7, zi k7 400 f_111), (h17, zi k17 400 f17), (h8, zi k8 400 f8)] := by rw [e_f_111]; exact hD
  refine lv_aload_n hx hb dX6_copyFrom_114 rfl (lv_at hl 1 rfl) ?_
  refine va_get (D := (dC, dI)) (ci := 6) (v := .ref h17) (C := RX6) (T := TX6) (N := 12) hx hb hG zuX6 hown hK hP 0 rfl rfl 7 (by decide) (hG _ zv255) (fun _ h9 => h9) rfl dX6_copyFrom_115 ?_
  refine lv_iconst (v := 0) hx hb dX6_copyFrom_118 (by decide) ?_
  refine lv_aload_n hx hb dX6_copyFrom_119 rfl (lv_at hl 0 rfl) ?_
  refine va_get (D := (dC, dI)) (ci := 6) (v := .ref h8) (C := RX6) (T := TX6) (N := 12) hx hb hG zuX6 hown hK hP 1 rfl rfl 7 (by decide) (hG _ zv255) (fun _ h9 => h9) rfl dX6_copyFrom_120 ?_
  refine lv_iconst (v := 0) hx hb dX6_copyFrom_123 (by decide) ?_
  refine lv_sipush (v := 400) hx hb dX6_copyFrom_124 (by decide) ?_
  refine va_copyi (ty := .int) hx hb (by rw [hml]; exact hl.1.symm) hown (hG _ zv951) (hG _ zv762) (hG _ zv761) (hG _ zv150) hK hP hD hS 16 17 14 15 rfl rfl rfl rfl rfl (by decide) (by decide) (by decide) (zcl zk_0 zk_400 (by omega) (by omega) (by omega)) (zcl zk_0 zk_400 (by omega) (by omega) (by omega)) (fun _ _ => rfl) (Nat.le_of_ble_eq_true rfl) (Nat.le_of_ble_eq_true rfl) dX6_copyFrom_127 (fun H locs hP hD hS => ?_)
  obtain ⟨f_127, e_f_127⟩ : ∃ z : Nat → Int32, z = va_cpy f17 f8 (0 : Int32).toNatClampNeg (0 : Int32).toNatClampNeg (400 : Int32).toNatClampNeg := ⟨_, rfl⟩
  have hP : va_P (dC, dI) vwCl [(h9, .inr (6, mX6 h10 h11 h12 h13 h14 h15 h16 h17 v9)), (h0, .inr (6, mX6 h1 h2 h3 h4 h5 h6 h7 h8 v0)), (h1, zi k1 1250 f_15), (h10, zi k10 1250 f10), (h11, zi k11 833 f11), (h2, zi k2 833 f_31), (h12, zi k12 833 f12), (h3, zi k3 833 f_47), (h13, zi k13 400 f13), (h4, zi k4 400 f_63), (h14, zi k14 400 f14), (h5, zi k5 400 f_79), (h15, zi k15 400 f15), (h6, zi k6 400 f_95), (h16, zi k16 400 f16), (h7, zi k7 400 f_111), (h17, zi k17 400 f17), (h8, zi k8 400 f_127)] H := by rw [e_f_127]; exact hP
  have hD : va_D A [(h9, .inr (6, mX6 h10 h11 h12 h13 h14 h15 h16 h17 v9)), (h0, .inr (6, mX6 h1 h2 h3 h4 h5 h6 h7 h8 v0)), (h1, zi k1 1250 f_15), (h10, zi k10 1250 f10), (h11, zi k11 833 f11), (h2, zi k2 833 f_31), (h12, zi k12 833 f12), (h3, zi k3 833 f_47), (h13, zi k13 400 f13), (h4, zi k4 400 f_63), (h14, zi k14 400 f14), (h5, zi k5 400 f_79), (h15, zi k15 400 f15), (h6, zi k6 400 f_95), (h16, zi k16 400 f16), (h7, zi k7 400 f_111), (h17, zi k17 400 f17), (h8, zi k8 400 f_127)] := by rw [e_f_127]; exact hD
  refine lv_aload_n hx hb dX6_copyFrom_130 rfl (lv_at hl 0 rfl) ?_
  refine lv_aload_n hx hb dX6_copyFrom_131 rfl (lv_at hl 1 rfl) ?_
  refine va_get (D := (dC, dI)) (ci := 6) (v := .int (v9 8)) (C := RX6) (T := TX6) (N := 12) hx hb hG zuX6 hown hK hP 0 rfl rfl 8 (by decide) (hG _ zv256) (fun _ h9 => h9) rfl dX6_copyFrom_132 ?_
  refine va_put (D := (dC, dI)) (ci := 6) (v := .int (v9 8)) (ty := .int) (C := RX6) (T := TX6) (N := 12) hx hb hG zuX6 tyX6 tyX6_ok nmX6 hown hK hP hD hS 1 rfl rfl 8 (by decide) (hG _ zv256) (fun _ h9 => h9) rfl (by decide +kernel) rfl rfl (Nat.le_of_ble_eq_true rfl) dX6_copyFrom_135 (fun H locs hP hD hS => ?_)
  have hP : va_P (dC, dI) vwCl [(h9, .inr (6, mX6 h10 h11 h12 h13 h14 h15 h16 h17 v9)), (h0, .inr (6, mX6 h1 h2 h3 h4 h5 h6 h7 h8 (upd v0 8 (v9 8)))), (h1, zi k1 1250 f_15), (h10, zi k10 1250 f10), (h11, zi k11 833 f11), (h2, zi k2 833 f_31), (h12, zi k12 833 f12), (h3, zi k3 833 f_47), (h13, zi k13 400 f13), (h4, zi k4 400 f_63), (h14, zi k14 400 f14), (h5, zi k5 400 f_79), (h15, zi k15 400 f15), (h6, zi k6 400 f_95), (h16, zi k16 400 f16), (h7, zi k7 400 f_111), (h17, zi k17 400 f17), (h8, zi k8 400 f_127)] H := hP
  have hD : va_D A [(h9, .inr (6, mX6 h10 h11 h12 h13 h14 h15 h16 h17 v9)), (h0, .inr (6, mX6 h1 h2 h3 h4 h5 h6 h7 h8 (upd v0 8 (v9 8)))), (h1, zi k1 1250 f_15), (h10, zi k10 1250 f10), (h11, zi k11 833 f11), (h2, zi k2 833 f_31), (h12, zi k12 833 f12), (h3, zi k3 833 f_47), (h13, zi k13 400 f13), (h4, zi k4 400 f_63), (h14, zi k14 400 f14), (h5, zi k5 400 f_79), (h15, zi k15 400 f15), (h6, zi k6 400 f_95), (h16, zi k16 400 f16), (h7, zi k7 400 f_111), (h17, zi k17 400 f17), (h8, zi k8 400 f_127)] := hD
  refine lv_aload_n hx hb dX6_copyFrom_138 rfl (lv_at hl 0 rfl) ?_
  refine lv_aload_n hx hb dX6_copyFrom_139 rfl (lv_at hl 1 rfl) ?_
  refine va_get (D := (dC, dI)) (ci := 6) (v := .int (v9 9)) (C := RX6) (T := TX6) (N := 12) hx hb hG zuX6 hown hK hP 0 rfl rfl 9 (by decide) (hG _ zv257) (fun _ h9 => h9) rfl dX6_copyFrom_140 ?_
  refine va_put (D := (dC, dI)) (ci := 6) (v := .int (v9 9)) (ty := .int) (C := RX6) (T := TX6) (N := 12) hx hb hG zuX6 tyX6 tyX6_ok nmX6 hown hK hP hD hS 1 rfl rfl 9 (by decide) (hG _ zv257) (fun _ h9 => h9) rfl (by decide +kernel) rfl rfl (Nat.le_of_ble_eq_true rfl) dX6_copyFrom_143 (fun H locs hP hD hS => ?_)
  have hP : va_P (dC, dI) vwCl [(h9, .inr (6, mX6 h10 h11 h12 h13 h14 h15 h16 h17 v9)), (h0, .inr (6, mX6 h1 h2 h3 h4 h5 h6 h7 h8 (upd (upd v0 8 (v9 8)) 9 (v9 9)))), (h1, zi k1 1250 f_15), (h10, zi k10 1250 f10), (h11, zi k11 833 f11), (h2, zi k2 833 f_31), (h12, zi k12 833 f12), (h3, zi k3 833 f_47), (h13, zi k13 400 f13), (h4, zi k4 400 f_63), (h14, zi k14 400 f14), (h5, zi k5 400 f_79), (h15, zi k15 400 f15), (h6, zi k6 400 f_95), (h16, zi k16 400 f16), (h7, zi k7 400 f_111), (h17, zi k17 400 f17), (h8, zi k8 400 f_127)] H := hP
  have hD : va_D A [(h9, .inr (6, mX6 h10 h11 h12 h13 h14 h15 h16 h17 v9)), (h0, .inr (6, mX6 h1 h2 h3 h4 h5 h6 h7 h8 (upd (upd v0 8 (v9 8)) 9 (v9 9)))), (h1, zi k1 1250 f_15), (h10, zi k10 1250 f10), (h11, zi k11 833 f11), (h2, zi k2 833 f_31), (h12, zi k12 833 f12), (h3, zi k3 833 f_47), (h13, zi k13 400 f13), (h4, zi k4 400 f_63), (h14, zi k14 400 f14), (h5, zi k5 400 f_79), (h15, zi k15 400 f15), (h6, zi k6 400 f_95), (h16, zi k16 400 f16), (h7, zi k7 400 f_111), (h17, zi k17 400 f17), (h8, zi k8 400 f_127)] := hD
  refine lv_aload_n hx hb dX6_copyFrom_146 rfl (lv_at hl 0 rfl) ?_
  refine lv_aload_n hx hb dX6_copyFrom_147 rfl (lv_at hl 1 rfl) ?_
  refine va_get (D := (dC, dI)) (ci := 6) (v := .int (v9 10)) (C := RX6) (T := TX6) (N := 12) hx hb hG zuX6 hown hK hP 0 rfl rfl 10 (by decide) (hG _ zv258) (fun _ h9 => h9) rfl dX6_copyFrom_148 ?_
  refine va_put (D := (dC, dI)) (ci := 6) (v := .int (v9 10)) (ty := .int) (C := RX6) (T := TX6) (N := 12) hx hb hG zuX6 tyX6 tyX6_ok nmX6 hown hK hP hD hS 1 rfl rfl 10 (by decide) (hG _ zv258) (fun _ h9 => h9) rfl (by decide +kernel) rfl rfl (Nat.le_of_ble_eq_true rfl) dX6_copyFrom_151 (fun H locs hP hD hS => ?_)
  have hP : va_P (dC, dI) vwCl [(h9, .inr (6, mX6 h10 h11 h12 h13 h14 h15 h16 h17 v9)), (h0, .inr (6, mX6 h1 h2 h3 h4 h5 h6 h7 h8 (upd (upd (upd v0 8 (v9 8)) 9 (v9 9)) 10 (v9 10)))), (h1, zi k1 1250 f_15), (h10, zi k10 1250 f10), (h11, zi k11 833 f11), (h2, zi k2 833 f_31), (h12, zi k12 833 f12), (h3, zi k3 833 f_47), (h13, zi k13 400 f13), (h4, zi k4 400 f_63), (h14, zi k14 400 f14), (h5, zi k5 400 f_79), (h15, zi k15 400 f15), (h6, zi k6 400 f_95), (h16, zi k16 400 f16), (h7, zi k7 400 f_111), (h17, zi k17 400 f17), (h8, zi k8 400 f_127)] H := hP
  have hD : va_D A [(h9, .inr (6, mX6 h10 h11 h12 h13 h14 h15 h16 h17 v9)), (h0, .inr (6, mX6 h1 h2 h3 h4 h5 h6 h7 h8 (upd (upd (upd v0 8 (v9 8)) 9 (v9 9)) 10 (v9 10)))), (h1, zi k1 1250 f_15), (h10, zi k10 1250 f10), (h11, zi k11 833 f11), (h2, zi k2 833 f_31), (h12, zi k12 833 f12), (h3, zi k3 833 f_47), (h13, zi k13 400 f13), (h4, zi k4 400 f_63), (h14, zi k14 400 f14), (h5, zi k5 400 f_79), (h15, zi k15 400 f15), (h6, zi k6 400 f_95), (h16, zi k16 400 f16), (h7, zi k7 400 f_111), (h17, zi k17 400 f17), (h8, zi k8 400 f_127)] := hD
  refine lv_aload_n hx hb dX6_copyFrom_154 rfl (lv_at hl 0 rfl) ?_
  refine lv_aload_n hx hb dX6_copyFrom_155 rfl (lv_at hl 1 rfl) ?_
  refine va_get (D := (dC, dI)) (ci := 6) (v := .int (v9 11)) (C := RX6) (T := TX6) (N := 12) hx hb hG zuX6 hown hK hP 0 rfl rfl 11 (by decide) (hG _ zv259) (fun _ h9 => h9) rfl dX6_copyFrom_156 ?_
  refine va_put (D := (dC, dI)) (ci := 6) (v := .int (v9 11)) (ty := .int) (C := RX6) (T := TX6) (N := 12) hx hb hG zuX6 tyX6 tyX6_ok nmX6 hown hK hP hD hS 1 rfl rfl 11 (by decide) (hG _ zv259) (fun _ h9 => h9) rfl (by decide +kernel) rfl rfl (Nat.le_of_ble_eq_true rfl) dX6_copyFrom_159 (fun H locs hP hD hS => ?_)
  have hP : va_P (dC, dI) vwCl [(h9, .inr (6, mX6 h10 h11 h12 h13 h14 h15 h16 h17 v9)), (h0, .inr (6, mX6 h1 h2 h3 h4 h5 h6 h7 h8 (upd (upd (upd (upd v0 8 (v9 8)) 9 (v9 9)) 10 (v9 10)) 11 (v9 11)))), (h1, zi k1 1250 f_15), (h10, zi k10 1250 f10), (h11, zi k11 833 f11), (h2, zi k2 833 f_31), (h12, zi k12 833 f12), (h3, zi k3 833 f_47), (h13, zi k13 400 f13), (h4, zi k4 400 f_63), (h14, zi k14 400 f14), (h5, zi k5 400 f_79), (h15, zi k15 400 f15), (h6, zi k6 400 f_95), (h16, zi k16 400 f16), (h7, zi k7 400 f_111), (h17, zi k17 400 f17), (h8, zi k8 400 f_127)] H := hP
  have hD : va_D A [(h9, .inr (6, mX6 h10 h11 h12 h13 h14 h15 h16 h17 v9)), (h0, .inr (6, mX6 h1 h2 h3 h4 h5 h6 h7 h8 (upd (upd (upd (upd v0 8 (v9 8)) 9 (v9 9)) 10 (v9 10)) 11 (v9 11)))), (h1, zi k1 1250 f_15), (h10, zi k10 1250 f10), (h11, zi k11 833 f11), (h2, zi k2 833 f_31), (h12, zi k12 833 f12), (h3, zi k3 833 f_47), (h13, zi k13 400 f13), (h4, zi k4 400 f_63), (h14, zi k14 400 f14), (h5, zi k5 400 f_79), (h15, zi k15 400 f15), (h6, zi k6 400 f_95), (h16, zi k16 400 f16), (h7, zi k7 400 f_111), (h17, zi k17 400 f17), (h8, zi k8 400 f_127)] := hD
  have hphi : zPhi f_31 f_79 f_95 (v9 9).toInt (v9 8).toInt := zPhi_c hp0_ hf14 (fun j hj => by rw [e_f_31]; exact (show va_cpy f11 f2 0 0 833 j = f11 j from zcpy_at hj)) (fun j hj => by rw [e_f_79]; exact (show va_cpy f14 f5 0 0 400 j = f14 j from zcpy_at hj)) (fun j hj => by rw [e_f_95]; exact (show va_cpy f15 f6 0 0 400 j = f15 j from zcpy_at hj))
  have hcc : ∀ B : Nat → List Bool, zPB f10 f11 f12 f13 f14 f15 (v9 8).toInt (v9 9).toInt (v9 10).toInt (v9 11).toInt B → zPB f_15 f_31 f_47 f_63 f_79 f_95 (v9 8).toInt (v9 9).toInt (v9 10).toInt (v9 11).toInt B := fun B h => zPB_c h (by omega) (by omega) (fun j hj => by rw [e_f_15]; exact (show va_cpy f10 f1 0 0 1250 j = f10 j from zcpy_at hj)) (fun j hj => by rw [e_f_31]; exact (show va_cpy f11 f2 0 0 833 j = f11 j from zcpy_at hj)) (fun j hj => by rw [e_f_47]; exact (show va_cpy f12 f3 0 0 833 j = f12 j from zcpy_at hj)) (fun j hj => by rw [e_f_63]; exact (show va_cpy f13 f4 0 0 400 j = f13 j from zcpy_at hj)) (fun j hj => by rw [e_f_79]; exact (show va_cpy f14 f5 0 0 400 j = f14 j from zcpy_at hj)) (fun j hj => by rw [e_f_95]; exact (show va_cpy f15 f6 0 0 400 j = f15 j from zcpy_at hj)) rfl rfl rfl rfl
  have hc6 : ∀ j : Nat, j < 400 → f_111 j = f16 j := fun j hj => by rw [e_f_111]; exact (show va_cpy f16 f7 0 0 400 j = f16 j from zcpy_at hj)
  have hc7 : ∀ j : Nat, j < 400 → f_127 j = f17 j := fun j hj => by rw [e_f_127]; exact (show va_cpy f17 f8 0 0 400 j = f17 j from zcpy_at hj)
  refine W.widen (k := 0) (n := 0) (by decide) (by decide) ?_
  have b_ : -2147483648 ≤ (v9 10).toInt ∧ (v9 10).toInt ≤ 2147483647 := ⟨zlo _, zhi _⟩
  have b_ : -2147483648 ≤ (v9 11).toInt ∧ (v9 11).toInt ≤ 2147483647 := ⟨zlo _, zhi _⟩
  have hpost : (0 ≤ (v9 8).toInt ∧ (v9 8).toInt ≤ 833) ∧ (0 ≤ (v9 9).toInt ∧ (v9 9).toInt ≤ 1250) := ⟨(by first | with_reducible assumption | exact ⟨by omega, by omega⟩), (by first | with_reducible assumption | exact ⟨by omega, by omega⟩)⟩
  have hP9 : va_P (dC, dI) vwCl [(h9, .inr (6, mX6 h10 h11 h12 h13 h14 h15 h16 h17 v9)), (h0, .inr (6, mX6 h1 h2 h3 h4 h5 h6 h7 h8 (upd (upd (upd (upd v0 8 (v9 8)) 9 (v9 9)) 10 (v9 10)) 11 (v9 11)))), (h1, zi k1 1250 f_15), (h10, zi k10 1250 f10), (h11, zi k11 833 f11), (h2, zi k2 833 f_31), (h12, zi k12 833 f12), (h3, zi k3 833 f_47), (h13, zi k13 400 f13), (h4, zi k4 400 f_63), (h14, zi k14 400 f14), (h5, zi k5 400 f_79), (h15, zi k15 400 f15), (h6, zi k6 400 f_95), (h16, zi k16 400 f16), (h7, zi k7 400 f_111), (h17, zi k17 400 f17), (h8, zi k8 400 f_127)] H := hP
  have hD9 : va_D A [(h9, .inr (6, mX6 h10 h11 h12 h13 h14 h15 h16 h17 v9)), (h0, .inr (6, mX6 h1 h2 h3 h4 h5 h6 h7 h8 (upd (upd (upd (upd v0 8 (v9 8)) 9 (v9 9)) 10 (v9 10)) 11 (v9 11)))), (h1, zi k1 1250 f_15), (h10, zi k10 1250 f10), (h11, zi k11 833 f11), (h2, zi k2 833 f_31), (h12, zi k12 833 f12), (h3, zi k3 833 f_47), (h13, zi k13 400 f13), (h4, zi k4 400 f_63), (h14, zi k14 400 f14), (h5, zi k5 400 f_79), (h15, zi k15 400 f15), (h6, zi k6 400 f_95), (h16, zi k16 400 f16), (h7, zi k7 400 f_111), (h17, zi k17 400 f17), (h8, zi k8 400 f_127)] := hD
  have hB0 : zPhi f_31 f_79 f_95 (v9 9).toInt (v9 8).toInt := by assumption
  have hB1 : ∀ B : Nat → List Bool, zPB f10 f11 f12 f13 f14 f15 (v9 8).toInt (v9 9).toInt (v9 10).toInt (v9 11).toInt B → zPB f_15 f_31 f_47 f_63 f_79 f_95 (v9 8).toInt (v9 9).toInt (v9 10).toInt (v9 11).toInt B := by exact hcc
  have hB2 : ∀ j : Nat, j < 400 → f_111 j = f16 j := by exact hc6
  have hB3 : ∀ j : Nat, j < 400 → f_127 j = f17 j := by exact hc7
  exact W.vret hx hb hr (fun t ht hW => ⟨⟨(fun i => ([(v9 8), (v9 9), (v9 10), (v9 11)] : List (Int32)).getD i 0), rfl, hpost, (fun _ => 0), (fun i => ([f_15, f_31, f_47, f_63, f_79, f_95, f_111, f_127] : List (Nat → Int32)).getD i (fun _ => 0)), (fun _ => (fun _ => 0)), hf_31, hf_79, hB0, hB1, hB2, hB3, by rw [ht]; exact hP9, va_K.moved hW.alike hK, hD9⟩, hS.F ht⟩) hS.2.2 dX6_copyFrom_162
set_option maxHeartbeats 8000000 in
set_option maxRecDepth 100000 in
theorem sX6_latestOf_0 (l : Launch) (dC : Nat → ClassId) (dI : Nat → Nat → Nat) (adK adV : Nat → Nat) (h0 : Nat) (h8 : Nat) (h1 : Nat) (h2 : Nat) (h3 : Nat) (h4 : Nat) (h5 : Nat) (h6 : Nat) (h7 : Nat) (k8 : ClassId) (sz : Nat) (v0 : Nat → Int32) (f8 : Nat → Int32) (x1 : Int32) (hv0 : zR rg_Postings v0) : Met l yX6_latestOf (zw yX6_latestOf cX6_latestOf 2 (some .int)) { frames := 1, cells := 0, slots := 0, locals := 20 } (zPc dC dI adK adV [.ref h0, .int x1] sz [(h0, .inr (6, mX6 h1 h2 h3 h4 h5 h6 h7 h8 v0)), (h8, zi k8 400 f8)] [(k8, .int)]) (va_Qi (fun (r : Int32) (u : Nat → Int32) => (zW (0 ≤ x1.toInt → x1.toInt ≤ 399 → 0 ≤ (f8 ((x1 : Int32)).toNatClampNeg).toInt → r.toInt = (f8 ((x1 : Int32)).toNatClampNeg).toInt - 1))) (fun (u : Nat → Int32) (t : State) => ∃ (ww : Nat → Int64) (aa : Nat → Nat → Int32) (bb : Nat → Nat → Int64), va_P (dC, dI) vwCl [(h0, .inr (6, mX6 h1 h2 h3 h4 h5 h6 h7 h8 v0)), (h8, zi k8 400 f8)] t.heap ∧ va_K (dC, dI) vwCl [(k8, .int)] t ∧ va_D (va_A [(h0, .inr (6, mX6 h1 h2 h3 h4 h5 h6 h7 h8 v0)), (h8, zi k8 400 f8)] sz) [(h0, .inr (6, mX6 h1 h2 h3 h4 h5 h6 h7 h8 v0)), (h8, zi k8 400 f8)]) (va_A [(h0, .inr (6, mX6 h1 h2 h3 h4 h5 h6 h7 h8 v0)), (h8, zi k8 400 f8)] sz)) 0 0 (va_A [(h0, .inr (6, mX6 h1 h2 h3 h4 h5 h6 h7 h8 v0)), (h8, zi k8 400 f8)] sz) := by
  refine Met.ofW (cc := cX6_latestOf) (maxL := 2) (ret := (some .int)) (by decide) rfl ?_
  intro p e s m args below meth c s₁ B hml hv
  obtain ⟨rfl, hsz, hP, hK, hD0, hE, hZ⟩ := hv
  have hx := B.exec
  have hb := B.bytes
  have hr := B.returns
  have hG : ∀ w ∈ zG, w.before _ s = true := fun w h => atoms_spec (ws := (zw yX6_latestOf cX6_latestOf 2 (some .int))) B.pre w (List.mem_cons_of_mem _ h)
  have hown : s.vm.findClass RX6 = some m.cls := findClass_of_methodNamed B.named
  have hlocks := B.notSynchronized

  subst hsz
  have hD := hD0.self (sz := s.heap.size)
  generalize hAe : va_A [(h0, .inr (6, mX6 h1 h2 h3 h4 h5 h6 h7 h8 v0)), (h8, zi k8 400 f8)] s.heap.size = A at hD hZ ⊢
  have hA : ∀ q : Nat, s.heap.size ≤ q → A q := fun q h => by rw [← hAe]; exact Or.inr h
  have hS : va_S A s.heap s.heap [] := va_S.rf
  have hl := lv_entry ([.ref h0, .int x1]) (n := 2) (Nat.le_of_ble_eq_true rfl)
  rw [lg_entry_eq]
  generalize (lg_sl ([.ref h0, .int x1]) ++ List.replicate (2 - (lg_sl ([.ref h0, .int x1])).length) Slot.unset).toArray = ls at hl ⊢
  have hl : lv_has ls 2 [(0, .ref h0), (1, .int x1)] := hl
  have b_ := zk_m1
  refine lv_iload_n hx hb dX6_latestOf_0 rfl (lv_at hl 1 rfl) ?_
  have hPc := hP.sub (ws' := []) [] rfl
  have hDc := hD.sub (ws' := []) [] (by decide) rfl
  have hKc := hK.sub (tys' := []) [] rfl
  have hFc := va_free (wc := []) hD hS hA [] rfl
  refine va_calli (va_runS (As := [.int x1]) (rest := []) ⟨hx, hb, hml, hown, hG⟩ (sX6_isId_0 l dC dI adK adV s.heap.size x1) (va_cwS 1 hG (zgS zv775 zv776 zv133 zv777) rfl rfl rfl (by decide +kernel) ⟨Nat.le_of_ble_eq_true rfl, Nat.le_of_ble_eq_true rfl⟩) ⟨zPc_blind, zPc_pre hPc hKc hDc hE hS hFc hZ⟩ rfl rfl hl.1 rfl (lv_room (Nat.le_of_ble_eq_true rfl)) dX6_latestOf_1 ⟨Nat.le_of_ble_eq_true rfl, Nat.le_of_ble_eq_true rfl⟩) hS (fun q _ h => hFc q h) hFc (fun r1_ u1_ t H1 locs ht hvm hw hB hz1 hk1 hS => ?_)
  replace hw : (0 ≤ r1_.toInt ∧ r1_.toInt ≤ 1) ∧ (r1_.toInt = 1 → (0 ≤ x1.toInt ∧ x1.toInt ≤ 399)) ∧ (r1_.toInt = 0 → x1.toInt < 0 ∨ 399 < x1.toInt) := hw
  obtain ⟨b_, hX1_0, hX1_1⟩ := hw
  obtain ⟨w1_, a1_, b1_, hP1, hK1, hD1⟩ := hB
  rw [ht] at hP1
  obtain ⟨hP, hD⟩ := va_join (wr := [(h0, .inr (6, mX6 h1 h2 h3 h4 h5 h6 h7 h8 v0)), (h8, zi k8 400 f8)]) (w1 := []) hP hD [] [0, 1] rfl rfl (by decide) (by decide) hk1 hFc hP1 hD1
  have hP : va_P (dC, dI) vwCl [(h0, .inr (6, mX6 h1 h2 h3 h4 h5 h6 h7 h8 v0)), (h8, zi k8 400 f8)] H1 := hP.sub [0, 1] rfl
  have hD : va_D A [(h0, .inr (6, mX6 h1 h2 h3 h4 h5 h6 h7 h8 v0)), (h8, zi k8 400 f8)] := hD.sub [0, 1] (by decide) rfl
  generalize H1 = H at hP hS ⊢
  clear hz1
  refine lv_if_eq (tgt := 18) hx hb dX6_latestOf_4 (by decide) (fun c_ => ?_) (fun c_ => ?_)
  · skip
    have b_ := zT_eq rfl zk_0 c_
    refine lv_iconst (v := (-1)) hx hb dX6_latestOf_18 (by decide) ?_
    refine W.widen (k := 0) (n := 0) (by decide) (by decide) ?_
    have hpost : (zW (0 ≤ x1.toInt → x1.toInt ≤ 399 → 0 ≤ (f8 ((x1 : Int32)).toNatClampNeg).toInt → ((-1) : Int32).toInt = (f8 ((x1 : Int32)).toNatClampNeg).toInt - 1)) := by first | (intro _ _ q3; rw [← e_z12] at q3 ⊢; exact zsub rfl zk_1 e_z14 (by omega) (by omega)) | (intro q1 q2; omega)
    have hP9 : va_P (dC, dI) vwCl [(h0, .inr (6, mX6 h1 h2 h3 h4 h5 h6 h7 h8 v0)), (h8, zi k8 400 f8)] H := hP
    have hD9 : va_D A [(h0, .inr (6, mX6 h1 h2 h3 h4 h5 h6 h7 h8 v0)), (h8, zi k8 400 f8)] := hD
    exact W.iret (v := (-1)) hx hb hr (fun t ht hW => ⟨⟨(-1), (fun _ => 0), rfl, hpost, (fun _ => 0), (fun _ => (fun _ => 0)), (fun _ => (fun _ => 0)), by rw [ht]; exact hP9, va_K.moved hW.alike hK, hD9⟩, hS.F ht⟩) hS.2.2 dX6_latestOf_19
  · skip
    have b_ := zF_eq rfl zk_0 c_
    refine lv_aload_n hx hb dX6_latestOf_7 rfl (lv_at hl 0 rfl) ?_
    refine va_get (D := (dC, dI)) (ci := 6) (v := .ref h8) (C := RX6) (T := TX6) (N := 12) hx hb hG zuX6 hown hK hP 0 rfl rfl 7 (by decide) (hG _ zv255) (fun _ h9 => h9) rfl dX6_latestOf_8 ?_
    refine lv_iload_n hx hb dX6_latestOf_11 rfl (lv_at hl 1 rfl) ?_
    refine va_iald hx hb hK hP 1 0 rfl rfl (zin_lit ⟨by omega, by omega⟩) dX6_latestOf_12 ?_
    refine lv_topi (fun z12 e_z12 => ?_)
    refine lv_iconst (v := 1) hx hb dX6_latestOf_13 (by decide) ?_
    have b_ : -2147483648 ≤ z12.toInt ∧ z12.toInt ≤ 2147483647 := ⟨zlo _, zhi _⟩
    refine lv_isub hx hb dX6_latestOf_14 ?_
    refine lv_topi (fun z14 e_z14 => ?_)
    refine lv_goto (tgt := 19) hx hb dX6_latestOf_15 (by decide) ?_
    refine W.widen (k := 0) (n := 0) (by decide) (by decide) ?_
    have b_ : -2147483648 ≤ z14.toInt ∧ z14.toInt ≤ 2147483647 := ⟨zlo _, zhi _⟩
    have hpost : (zW (0 ≤ x1.toInt → x1.toInt ≤ 399 → 0 ≤ (f8 ((x1 : Int32)).toNatClampNeg).toInt → z14.toInt = (f8 ((x1 : Int32)).toNatClampNeg).toInt - 1)) := by first | (intro _ _ q3; rw [← e_z12] at q3 ⊢; exact zsub rfl zk_1 e_z14 (by omega) (by omega)) | (intro q1 q2; omega)
    have hP9 : va_P (dC, dI) vwCl [(h0, .inr (6, mX6 h1 h2 h3 h4 h5 h6 h7 h8 v0)), (h8, zi k8 400 f8)] H := hP
    have hD9 : va_D A [(h0, .inr (6, mX6 h1 h2 h3 h4 h5 h6 h7 h8 v0)), (h8, zi k8 400 f8)] := hD
    exact W.iret (v := z14) hx hb hr (fun t ht hW => ⟨⟨z14, (fun _ => 0), rfl, hpost, (fun _ => 0), (fun _ => (fun _ => 0)), (fun _ => (fun _ => 0)), by rw [ht]; exact hP9, va_K.moved hW.alike hK, hD9⟩, hS.F ht⟩) hS.2.2 dX6_latestOf_19
set_option maxHeartbeats 8000000 in
set_option maxRecDepth 100000 in
theorem sX6_chunkOf_0 (l : Launch) (dC : Nat → ClassId) (dI : Nat → Nat → Nat) (adK adV : Nat → Nat) (sz : Nat) (x0 : Int32) : Met l yX6_chunkOf (zw yX6_chunkOf cX6_chunkOf 1 (some .int)) { frames := 0, cells := 0, slots := 0, locals := 0 } (zPc dC dI adK adV [.int x0] sz [] []) (va_Qi (fun (r : Int32) (u : Nat → Int32) => (0 ≤ r.toInt ∧ r.toInt ≤ 8388610) ∧ (0 ≤ x0.toInt → zCk x0.toInt r.toInt)) (fun (u : Nat → Int32) (t : State) => ∃ (ww : Nat → Int64) (aa : Nat → Nat → Int32) (bb : Nat → Nat → Int64), va_P (dC, dI) vwCl [] t.heap ∧ va_K (dC, dI) vwCl [] t ∧ va_D (va_A [] sz) []) (va_A [] sz)) 0 0 (va_A [] sz) := by
  refine Met.ofW (cc := cX6_chunkOf) (maxL := 1) (ret := (some .int)) (by decide) rfl ?_
  intro p e s m args below meth c s₁ B hml hv
  obtain ⟨rfl, hsz, hP, hK, hD0, hE, hZ⟩ := hv
  have hx := B.exec
  have hb := B.bytes
  have hr := B.returns
  have hG : ∀ w ∈ zG, w.before _ s = true := fun w h => atoms_spec (ws := (zw yX6_chunkOf cX6_chunkOf 1 (some .int))) B.pre w (List.mem_cons_of_mem _ h)
  have hown : s.vm.findClass RX6 = some m.cls := findClass_of_methodNamed B.named
  have hlocks := B.notSynchronized

  subst hsz
  have hD := hD0.self (sz := s.heap.size)
  generalize hAe : va_A [] s.heap.size = A at hD hZ ⊢
  have hA : ∀ q : Nat, s.heap.size ≤ q → A q := fun q h => by rw [← hAe]; exact Or.inr h
  have hS : va_S A s.heap s.heap [] := va_S.rf
  have hl := lv_entry ([.int x0]) (n := 1) (Nat.le_of_ble_eq_true rfl)
  rw [lg_entry_eq]
  generalize (lg_sl ([.int x0]) ++ List.replicate (1 - (lg_sl ([.int x0])).length) Slot.unset).toArray = ls at hl ⊢
  have hl : lv_has ls 1 [(0, .int x0)] := hl
  have b_ := zk_0
  have b_ := zk_1
  have b_ := zk_2
  refine lv_iload_n hx hb dX6_chunkOf_0 rfl (lv_at hl 0 rfl) ?_
  refine lv_bipush (v := 96) hx hb dX6_chunkOf_1 (by decide) ?_
  have b_ : -2147483648 ≤ x0.toInt ∧ x0.toInt ≤ 2147483647 := ⟨zlo _, zhi _⟩
  refine lv_icmp_ge (tgt := 18) hx hb dX6_chunkOf_3 (by decide) (fun c_ => ?_) (fun c_ => ?_)
  · skip
    have b_ := zT_ge rfl zk_96 c_
    refine lv_iload_n hx hb dX6_chunkOf_18 rfl (lv_at hl 0 rfl) ?_
    refine lv_sipush (v := 224) hx hb dX6_chunkOf_19 (by decide) ?_
    refine lv_icmp_ge (tgt := 29) hx hb dX6_chunkOf_22 (by decide) (fun c_ => ?_) (fun c_ => ?_)
    · skip
      have b_ := zT_ge rfl zk_224 c_
      refine lv_iconst (v := 3) hx hb dX6_chunkOf_29 (by decide) ?_
      refine lv_iload_n hx hb dX6_chunkOf_30 rfl (lv_at hl 0 rfl) ?_
      refine lv_sipush (v := 224) hx hb dX6_chunkOf_31 (by decide) ?_
      refine lv_isub hx hb dX6_chunkOf_34 ?_
      refine lv_topi (fun z34 e_z34 => ?_)
      have b_ := zsub rfl zk_224 e_z34 (by omega) (by omega)
      refine lv_sipush (v := 256) hx hb dX6_chunkOf_35 (by decide) ?_
      refine lv_idiv hx hb dX6_chunkOf_38 (by decide) ?_
      refine lv_topi (fun z38 e_z38 => ?_)
      have b_ := zdiv rfl zk_256 e_z38 (by omega) (by decide)
      refine lv_iadd hx hb dX6_chunkOf_39 ?_
      refine lv_topi (fun z39 e_z39 => ?_)
      have b_ := zadd zk_3 rfl e_z39 (by omega) (by omega)
      refine W.widen (k := 0) (n := 0) (by decide) (by decide) ?_
      have hpost : (0 ≤ z39.toInt ∧ z39.toInt ≤ 8388610) ∧ (0 ≤ x0.toInt → zCk x0.toInt z39.toInt) := ⟨(by first | with_reducible assumption | exact ⟨by omega, by omega⟩), by intro _; unfold zCk; omega⟩
      have hP9 : va_P (dC, dI) vwCl [] s.heap := hP
      have hD9 : va_D A [] := hD
      exact W.iret (v := z39) hx hb hr (fun t ht hW => ⟨⟨z39, (fun _ => 0), rfl, hpost, (fun _ => 0), (fun _ => (fun _ => 0)), (fun _ => (fun _ => 0)), by rw [ht]; exact hP9, va_K.moved hW.alike hK, hD9⟩, hS.F ht⟩) hS.2.2 dX6_chunkOf_40
    · skip
      have b_ := zF_ge rfl zk_224 c_
      refine lv_iconst (v := 2) hx hb dX6_chunkOf_25 (by decide) ?_
      refine lv_goto (tgt := 40) hx hb dX6_chunkOf_26 (by decide) ?_
      refine W.widen (k := 0) (n := 0) (by decide) (by decide) ?_
      have hpost : (0 ≤ (2 : Int32).toInt ∧ (2 : Int32).toInt ≤ 8388610) ∧ (0 ≤ x0.toInt → zCk x0.toInt (2 : Int32).toInt) := ⟨(by first | with_reducible assumption | exact ⟨by omega, by omega⟩), by intro _; unfold zCk; omega⟩
      have hP9 : va_P (dC, dI) vwCl [] s.heap := hP
      have hD9 : va_D A [] := hD
      exact W.iret (v := 2) hx hb hr (fun t ht hW => ⟨⟨2, (fun _ => 0), rfl, hpost, (fun _ => 0), (fun _ => (fun _ => 0)), (fun _ => (fun _ => 0)), by rw [ht]; exact hP9, va_K.moved hW.alike hK, hD9⟩, hS.F ht⟩) hS.2.2 dX6_chunkOf_40
  · skip
    have b_ := zF_ge rfl zk_96 c_
    refine lv_iload_n hx hb dX6_chunkOf_6 rfl (lv_at hl 0 rfl) ?_
    refine lv_bipush (v := 32) hx hb dX6_chunkOf_7 (by decide) ?_
    refine lv_icmp_ge (tgt := 16) hx hb dX6_chunkOf_9 (by decide) (fun c_ => ?_) (fun c_ => ?_)
    · skip
      have b_ := zT_ge rfl zk_32 c_
      refine lv_iconst (v := 1) hx hb dX6_chunkOf_16 (by decide) ?_
      refine W.widen (k := 0) (n := 0) (by decide) (by decide) ?_
      have hpost : (0 ≤ (1 : Int32).toInt ∧ (1 : Int32).toInt ≤ 8388610) ∧ (0 ≤ x0.toInt → zCk x0.toInt (1 : Int32).toInt) := ⟨(by first | with_reducible assumption | exact ⟨by omega, by omega⟩), by intro _; unfold zCk; omega⟩
      have hP9 : va_P (dC, dI) vwCl [] s.heap := hP
      have hD9 : va_D A [] := hD
      exact W.iret (v := 1) hx hb hr (fun t ht hW => ⟨⟨1, (fun _ => 0), rfl, hpost, (fun _ => 0), (fun _ => (fun _ => 0)), (fun _ => (fun _ => 0)), by rw [ht]; exact hP9, va_K.moved hW.alike hK, hD9⟩, hS.F ht⟩) hS.2.2 dX6_chunkOf_17
    · skip
      have b_ := zF_ge rfl zk_32 c_
      refine lv_iconst (v := 0) hx hb dX6_chunkOf_12 (by decide) ?_
      refine lv_goto (tgt := 17) hx hb dX6_chunkOf_13 (by decide) ?_
      refine W.widen (k := 0) (n := 0) (by decide) (by decide) ?_
      have hpost : (0 ≤ (0 : Int32).toInt ∧ (0 : Int32).toInt ≤ 8388610) ∧ (0 ≤ x0.toInt → zCk x0.toInt (0 : Int32).toInt) := ⟨(by first | with_reducible assumption | exact ⟨by omega, by omega⟩), by intro _; unfold zCk; omega⟩
      have hP9 : va_P (dC, dI) vwCl [] s.heap := hP
      have hD9 : va_D A [] := hD
      exact W.iret (v := 0) hx hb hr (fun t ht hW => ⟨⟨0, (fun _ => 0), rfl, hpost, (fun _ => 0), (fun _ => (fun _ => 0)), (fun _ => (fun _ => 0)), by rw [ht]; exact hP9, va_K.moved hW.alike hK, hD9⟩, hS.F ht⟩) hS.2.2 dX6_chunkOf_17
set_option maxHeartbeats 8000000 in
set_option maxRecDepth 100000 in
theorem sX6_roomOf_0 (l : Launch) (dC : Nat → ClassId) (dI : Nat → Nat → Nat) (adK adV : Nat → Nat) (sz : Nat) (x0 : Int32) : Met l yX6_roomOf (zw yX6_roomOf cX6_roomOf 1 (some .int)) { frames := 0, cells := 0, slots := 0, locals := 0 } (zPc dC dI adK adV [.int x0] sz [] []) (va_Qi (fun (r : Int32) (u : Nat → Int32) => (0 ≤ x0.toInt → x0.toInt ≤ 1000 → zRo x0.toInt r.toInt)) (fun (u : Nat → Int32) (t : State) => ∃ (ww : Nat → Int64) (aa : Nat → Nat → Int32) (bb : Nat → Nat → Int64), va_P (dC, dI) vwCl [] t.heap ∧ va_K (dC, dI) vwCl [] t ∧ va_D (va_A [] sz) []) (va_A [] sz)) 0 0 (va_A [] sz) := by
  refine Met.ofW (cc := cX6_roomOf) (maxL := 1) (ret := (some .int)) (by decide) rfl ?_
  intro p e s m args below meth c s₁ B hml hv
  obtain ⟨rfl, hsz, hP, hK, hD0, hE, hZ⟩ := hv
  have hx := B.exec
  have hb := B.bytes
  have hr := B.returns
  have hG : ∀ w ∈ zG, w.before _ s = true := fun w h => atoms_spec (ws := (zw yX6_roomOf cX6_roomOf 1 (some .int))) B.pre w (List.mem_cons_of_mem _ h)
  have hown : s.vm.findClass RX6 = some m.cls := findClass_of_methodNamed B.named
  have hlocks := B.notSynchronized

  subst hsz
  have hD := hD0.self (sz := s.heap.size)
  generalize hAe : va_A [] s.heap.size = A at hD hZ ⊢
  have hA : ∀ q : Nat, s.heap.size ≤ q → A q := fun q h => by rw [← hAe]; exact Or.inr h
  have hS : va_S A s.heap s.heap [] := va_S.rf
  have hl := lv_entry ([.int x0]) (n := 1) (Nat.le_of_ble_eq_true rfl)
  rw [lg_entry_eq]
  generalize (lg_sl ([.int x0]) ++ List.replicate (1 - (lg_sl ([.int x0])).length) Slot.unset).toArray = ls at hl ⊢
  have hl : lv_has ls 1 [(0, .int x0)] := hl
  refine lv_iload_n hx hb dX6_roomOf_0 rfl (lv_at hl 0 rfl) ?_
  refine lv_iconst (v := 3) hx hb dX6_roomOf_1 (by decide) ?_
  have b_ : -2147483648 ≤ x0.toInt ∧ x0.toInt ≤ 2147483647 := ⟨zlo _, zhi _⟩
  refine lv_icmp_gt (tgt := 15) hx hb dX6_roomOf_2 (by decide) (fun c_ => ?_) (fun c_ => ?_)
  · skip
    have b_ := zT_gt rfl zk_3 c_
    refine lv_sipush (v := 224) hx hb dX6_roomOf_15 (by decide) ?_
    refine lv_sipush (v := 256) hx hb dX6_roomOf_18 (by decide) ?_
    refine lv_iload_n hx hb dX6_roomOf_21 rfl (lv_at hl 0 rfl) ?_
    refine lv_iconst (v := 3) hx hb dX6_roomOf_22 (by decide) ?_
    refine lv_isub hx hb dX6_roomOf_23 ?_
    refine lv_topi (fun z23 e_z23 => ?_)
    have b_ := zsub rfl zk_3 e_z23 (by omega) (by omega)
    refine lv_imul hx hb dX6_roomOf_24 ?_
    refine lv_topi (fun z24 e_z24 => ?_)
    have b_ : x0.toInt ≤ 1000 → z24.toInt = 256 * (x0.toInt - 3) := fun h => by have q := zmul zk_256 rfl e_z24 (by omega) (by omega); omega
    have b_ : -2147483648 ≤ z24.toInt ∧ z24.toInt ≤ 2147483647 := ⟨zlo _, zhi _⟩
    refine lv_iadd hx hb dX6_roomOf_25 ?_
    refine lv_topi (fun z25 e_z25 => ?_)
    have b_ : x0.toInt ≤ 1000 → z25.toInt = 224 + z24.toInt := fun h => zadd zk_224 rfl e_z25 (by omega) (by omega)
    refine W.widen (k := 0) (n := 0) (by decide) (by decide) ?_
    have b_ : -2147483648 ≤ z25.toInt ∧ z25.toInt ≤ 2147483647 := ⟨zlo _, zhi _⟩
    have hpost : (0 ≤ x0.toInt → x0.toInt ≤ 1000 → zRo x0.toInt z25.toInt) := by intro _ _; unfold zRo; omega
    have hP9 : va_P (dC, dI) vwCl [] s.heap := hP
    have hD9 : va_D A [] := hD
    exact W.iret (v := z25) hx hb hr (fun t ht hW => ⟨⟨z25, (fun _ => 0), rfl, hpost, (fun _ => 0), (fun _ => (fun _ => 0)), (fun _ => (fun _ => 0)), by rw [ht]; exact hP9, va_K.moved hW.alike hK, hD9⟩, hS.F ht⟩) hS.2.2 dX6_roomOf_26
  · skip
    have b_ := zF_gt rfl zk_3 c_
    refine lv_bipush (v := 32) hx hb dX6_roomOf_5 (by decide) ?_
    refine lv_iload_n hx hb dX6_roomOf_7 rfl (lv_at hl 0 rfl) ?_
    refine lv_ishl hx hb dX6_roomOf_8 ?_
    refine lv_topi (fun z8 e_z8 => ?_)
    have b_ : 0 ≤ x0.toInt → (x0.toInt = 0 ∧ z8.toInt = 32) ∨ (x0.toInt = 1 ∧ z8.toInt = 64) ∨ (x0.toInt = 2 ∧ z8.toInt = 128) ∨ (x0.toInt = 3 ∧ z8.toInt = 256) := fun h => zshl32 e_z8 h (by omega)
    refine lv_bipush (v := 32) hx hb dX6_roomOf_9 (by decide) ?_
    have b_ : -2147483648 ≤ z8.toInt ∧ z8.toInt ≤ 2147483647 := ⟨zlo _, zhi _⟩
    refine lv_isub hx hb dX6_roomOf_11 ?_
    refine lv_topi (fun z11 e_z11 => ?_)
    have b_ : 0 ≤ x0.toInt → z11.toInt = z8.toInt - 32 := fun h => zsub rfl zk_32 e_z11 (by omega) (by omega)
    refine lv_goto (tgt := 26) hx hb dX6_roomOf_12 (by decide) ?_
    refine W.widen (k := 0) (n := 0) (by decide) (by decide) ?_
    have b_ : -2147483648 ≤ z11.toInt ∧ z11.toInt ≤ 2147483647 := ⟨zlo _, zhi _⟩
    have hpost : (0 ≤ x0.toInt → x0.toInt ≤ 1000 → zRo x0.toInt z11.toInt) := by intro _ _; unfold zRo; omega
    have hP9 : va_P (dC, dI) vwCl [] s.heap := hP
    have hD9 : va_D A [] := hD
    exact W.iret (v := z11) hx hb hr (fun t ht hW => ⟨⟨z11, (fun _ => 0), rfl, hpost, (fun _ => 0), (fun _ => (fun _ => 0)), (fun _ => (fun _ => 0)), by rw [ht]; exact hP9, va_K.moved hW.alike hK, hD9⟩, hS.F ht⟩) hS.2.2 dX6_roomOf_26
set_option maxHeartbeats 8000000 in
set_option maxRecDepth 100000 in
theorem sX6_addChunk_0 (l : Launch) (dC : Nat → ClassId) (dI : Nat → Nat → Nat) (adK adV : Nat → Nat) (h0 : Nat) (h1 : Nat) (h5 : Nat) (h3 : Nat) (h2 : Nat) (h4 : Nat) (h6 : Nat) (h7 : Nat) (h8 : Nat) (k1 : ClassId) (k5 : ClassId) (k3 : ClassId) (k2 : ClassId) (k4 : ClassId) (sz : Nat) (v0 : Nat → Int32) (f1 : Nat → Int32) (f5 : Nat → Int32) (f3 : Nat → Int32) (f2 : Nat → Int32) (f4 : Nat → Int32) (x1 : Int32) (x2 : Int32) (hv0 : zR rg_Postings v0) (hf5 : zA 0 832 f5) (hf2 : zA 0 1250 f2) (hx1 : 0 ≤ x1.toInt ∧ x1.toInt ≤ 399) (hx2 : 0 ≤ x2.toInt ∧ x2.toInt ≤ 1000) : Met l yX6_addChunk (zw yX6_addChunk cX6_addChunk 4 (some .boolean)) { frames := 1, cells := 0, slots := 0, locals := 20 } (zPc dC dI adK adV [.ref h0, .int x1, .int x2] sz [(h0, .inr (6, mX6 h1 h2 h3 h4 h5 h6 h7 h8 v0)), (h1, zi k1 1250 f1), (h5, zi k5 400 f5), (h3, zi k3 833 f3), (h2, zi k2 833 f2), (h4, zi k4 400 f4)] [(k1, .int), (k5, .int), (k3, .int), (k2, .int), (k4, .int)]) (va_Qi (fun (r : Int32) (u : Nat → Int32) => (0 ≤ r.toInt ∧ r.toInt ≤ 1) ∧ (0 ≤ (u 0).toInt ∧ (u 0).toInt ≤ 833) ∧ (0 ≤ (u 1).toInt ∧ (u 1).toInt ≤ 1250) ∧ (r.toInt = 1 → zBs x2.toInt (32 * ((u 1).toInt - (v0 9).toInt))) ∧ (r.toInt = 1 → (u 0).toInt = (v0 8).toInt + 1) ∧ (r.toInt = 0 → (u 1).toInt = (v0 9).toInt ∧ (u 0).toInt = (v0 8).toInt) ∧ (r.toInt = 0 → zAx (v0 8).toInt (v0 9).toInt x2.toInt) ∧ (r.toInt = (u 3).toInt)) (fun (u : Nat → Int32) (t : State) => ∃ (ww : Nat → Int64) (aa : Nat → Nat → Int32) (bb : Nat → Nat → Int64), zA 0 832 (aa 0) ∧ zA 0 1250 (aa 2) ∧ ((u 3).toInt = 1 → (aa 0) = upd f5 ((x1 : Int32)).toNatClampNeg (v0 8) ∧ (aa 2) = upd f2 (v0 8).toNatClampNeg (v0 9)) ∧ ((u 3).toInt = 0 → (aa 0) = f5 ∧ (aa 2) = f2) ∧ ((u 3).toInt = 1 → zAc f2 f3 f4 f5 (v0 8).toInt (v0 9).toInt (v0 11).toInt (aa 2) (aa 1) (aa 3) (aa 0) (u 0).toInt (u 1).toInt (u 2).toInt ((x1 : Int32)).toNatClampNeg x2.toInt) ∧ va_P (dC, dI) vwCl [(h0, .inr (6, mX6 h1 h2 h3 h4 h5 h6 h7 h8 (upd (upd (upd v0 8 (u 0)) 9 (u 1)) 11 (u 2)))), (h1, zi k1 1250 f1), (h5, zi k5 400 (aa 0)), (h3, zi k3 833 (aa 1)), (h2, zi k2 833 (aa 2)), (h4, zi k4 400 (aa 3))] t.heap ∧ va_K (dC, dI) vwCl [(k1, .int), (k5, .int), (k3, .int), (k2, .int), (k4, .int)] t ∧ va_D (va_A [(h0, .inr (6, mX6 h1 h2 h3 h4 h5 h6 h7 h8 v0)), (h1, zi k1 1250 f1), (h5, zi k5 400 f5), (h3, zi k3 833 f3), (h2, zi k2 833 f2), (h4, zi k4 400 f4)] sz) [(h0, .inr (6, mX6 h1 h2 h3 h4 h5 h6 h7 h8 (upd (upd (upd v0 8 (u 0)) 9 (u 1)) 11 (u 2)))), (h1, zi k1 1250 f1), (h5, zi k5 400 (aa 0)), (h3, zi k3 833 (aa 1)), (h2, zi k2 833 (aa 2)), (h4, zi k4 400 (aa 3))]) (va_A [(h0, .inr (6, mX6 h1 h2 h3 h4 h5 h6 h7 h8 v0)), (h1, zi k1 1250 f1), (h5, zi k5 400 f5), (h3, zi k3 833 f3), (h2, zi k2 833 f2), (h4, zi k4 400 f4)] sz)) 0 0 (va_A [(h0, .inr (6, mX6 h1 h2 h3 h4 h5 h6 h7 h8 v0)), (h1, zi k1 1250 f1), (h5, zi k5 400 f5), (h3, zi k3 833 f3), (h2, zi k2 833 f2), (h4, zi k4 400 f4)] sz) := by
  refine Met.ofW (cc := cX6_addChunk) (maxL := 4) (ret := (some .boolean)) (by decide) rfl ?_
  intro p e s m args below meth c s₁ B hml hv
  obtain ⟨rfl, hsz, hP, hK, hD0, hE, hZ⟩ := hv
  have hx := B.exec
  have hb := B.bytes
  have hr := B.returns
  have hG : ∀ w ∈ zG, w.before _ s = true := fun w h => atoms_spec (ws := (zw yX6_addChunk cX6_addChunk 4 (some .boolean))) B.pre w (List.mem_cons_of_mem _ h)
  have hown : s.vm.findClass RX6 = some m.cls := findClass_of_methodNamed B.named
  have hlocks := B.notSynchronized

  subst hsz
  have hD := hD0.self (sz := s.heap.size)
  generalize hAe : va_A [(h0, .inr (6, mX6 h1 h2 h3 h4 h5 h6 h7 h8 v0)), (h1, zi k1 1250 f1), (h5, zi k5 400 f5), (h3, zi k3 833 f3), (h2, zi k2 833 f2), (h4, zi k4 400 f4)] s.heap.size = A at hD hZ ⊢
  have hA : ∀ q : Nat, s.heap.size ≤ q → A q := fun q h => by rw [← hAe]; exact Or.inr h
  have hS : va_S A s.heap s.heap [] := va_S.rf
  have hl := lv_entry ([.ref h0, .int x1, .int x2]) (n := 4) (Nat.le_of_ble_eq_true rfl)
  rw [lg_entry_eq]
  generalize (lg_sl ([.ref h0, .int x1, .int x2]) ++ List.replicate (4 - (lg_sl ([.ref h0, .int x1, .int x2])).length) Slot.unset).toArray = ls at hl ⊢
  have hl : lv_has ls 4 [(0, .ref h0), (1, .int x1), (2, .int x2)] := hl
  have b_ := zk_0
  have b_ := zk_1
  have b_ : 0 ≤ (v0 9).toInt ∧ (v0 9).toInt ≤ 1250 := hv0 9
  have b_ : 0 ≤ (v0 8).toInt ∧ (v0 8).toInt ≤ 833 := hv0 8
  refine lv_iload_n hx hb dX6_addChunk_0 rfl (lv_at hl 2 rfl) ?_
  have hPc := hP.sub (ws' := []) [] rfl
  have hDc := hD.sub (ws' := []) [] (by decide) rfl
  have hKc := hK.sub (tys' := []) [] rfl
  have hFc := va_free (wc := []) hD hS hA [] rfl
  refine va_calli (va_runS (As := [.int x2]) (rest := []) ⟨hx, hb, hml, hown, hG⟩ (sX6_bitsOfChunk_0 l dC dI adK adV s.heap.size x2) (va_cwS 1 hG (zgS zv847 zv848 zv133 zv849) rfl rfl rfl (by decide +kernel) ⟨Nat.le_of_ble_eq_true rfl, Nat.le_of_ble_eq_true rfl⟩) ⟨zPc_blind, zPc_pre hPc hKc hDc hE hS hFc hZ⟩ rfl rfl hl.1 rfl (lv_room (Nat.le_of_ble_eq_true rfl)) dX6_addChunk_1 ⟨Nat.le_of_ble_eq_true rfl, Nat.le_of_ble_eq_true rfl⟩) hS (fun q _ h => hFc q h) hFc (fun r1_ u1_ t H1 locs ht hvm hw hB hz1 hk1 hS => ?_)
  replace hw : (0 ≤ x2.toInt → zBs x2.toInt r1_.toInt) := hw
  have hX1_0 := hw
  obtain ⟨w1_, a1_, b1_, hP1, hK1, hD1⟩ := hB
  rw [ht] at hP1
  obtain ⟨hP, hD⟩ := va_join (wr := [(h0, .inr (6, mX6 h1 h2 h3 h4 h5 h6 h7 h8 v0)), (h1, zi k1 1250 f1), (h5, zi k5 400 f5), (h3, zi k3 833 f3), (h2, zi k2 833 f2), (h4, zi k4 400 f4)]) (w1 := []) hP hD [] [0, 1, 2, 3, 4, 5] rfl rfl (by decide) (by decide) hk1 hFc hP1 hD1
  have hP : va_P (dC, dI) vwCl [(h0, .inr (6, mX6 h1 h2 h3 h4 h5 h6 h7 h8 v0)), (h1, zi k1 1250 f1), (h5, zi k5 400 f5), (h3, zi k3 833 f3), (h2, zi k2 833 f2), (h4, zi k4 400 f4)] H1 := hP.sub [0, 1, 2, 3, 4, 5] rfl
  have hD : va_D A [(h0, .inr (6, mX6 h1 h2 h3 h4 h5 h6 h7 h8 v0)), (h1, zi k1 1250 f1), (h5, zi k5 400 f5), (h3, zi k3 833 f3), (h2, zi k2 833 f2), (h4, zi k4 400 f4)] := hD.sub [0, 1, 2, 3, 4, 5] (by decide) rfl
  generalize H1 = H at hP hS ⊢
  clear hz1
  have b_ : 32 ≤ r1_.toInt ∧ r1_.toInt ≤ 256 ∧ (r1_.toInt = 32 ∨ r1_.toInt = 64 ∨ r1_.toInt = 128 ∨ r1_.toInt = 256) := by have q := hX1_0 (by omega); unfold zBs at q; omega
  refine lv_istore_n (lv' := [(3, .int r1_), (0, .ref h0), (1, .int x1), (2, .int x2)]) hx hb dX6_addChunk_4 rfl hl (by decide) rfl (fun ls hl => ?_)
  refine lv_aload_n hx hb dX6_addChunk_5 rfl (lv_at hl 1 rfl) ?_
  refine va_get (D := (dC, dI)) (ci := 6) (v := .int (v0 8)) (C := RX6) (T := TX6) (N := 12) hx hb hG zuX6 hown hK hP 0 rfl rfl 8 (by decide) (hG _ zv256) (fun _ h9 => h9) rfl dX6_addChunk_6 ?_
  refine lv_sipush (v := 833) hx hb dX6_addChunk_9 (by decide) ?_
  refine lv_icmp_ge (tgt := 32) hx hb dX6_addChunk_12 (by decide) (fun c_ => ?_) (fun c_ => ?_)
  · skip
    have b_ := zT_ge rfl zk_833 c_
    refine lv_iconst (v := 0) hx hb dX6_addChunk_32 (by decide) ?_
    refine W.widen (k := 0) (n := 0) (by decide) (by decide) ?_
    have b_ : -2147483648 ≤ (v0 11).toInt ∧ (v0 11).toInt ≤ 2147483647 := ⟨zlo _, zhi _⟩
    have hpost : (0 ≤ (0 : Int32).toInt ∧ (0 : Int32).toInt ≤ 1) ∧ (0 ≤ (v0 8).toInt ∧ (v0 8).toInt ≤ 833) ∧ (0 ≤ (v0 9).toInt ∧ (v0 9).toInt ≤ 1250) ∧ ((0 : Int32).toInt = 1 → zBs x2.toInt (32 * ((v0 9).toInt - (v0 9).toInt))) ∧ ((0 : Int32).toInt = 1 → (v0 8).toInt = (v0 8).toInt + 1) ∧ ((0 : Int32).toInt = 0 → (v0 9).toInt = (v0 9).toInt ∧ (v0 8).toInt = (v0 8).toInt) ∧ ((0 : Int32).toInt = 0 → zAx (v0 8).toInt (v0 9).toInt x2.toInt) ∧ ((0 : Int32).toInt = (0 : Int32).toInt) := ⟨(by first | with_reducible assumption | exact ⟨by omega, by omega⟩), (by first | with_reducible assumption | exact ⟨by omega, by omega⟩), (by first | with_reducible assumption | exact ⟨by omega, by omega⟩), by intro _; have q := hX1_0 (by omega); unfold zBs at q ⊢; omega, by omega, by omega, by first | (intro q; exact absurd q (by decide)) | (intro _; exact Or.inl (by omega)) | (intro _; exact Or.inr ⟨_, hX1_0 (by omega), by omega⟩), rfl⟩
    have hP9 : va_P (dC, dI) vwCl [(h0, .inr (6, mX6 h1 h2 h3 h4 h5 h6 h7 h8 (upd (upd (upd v0 8 (v0 8)) 9 (v0 9)) 11 (v0 11)))), (h1, zi k1 1250 f1), (h5, zi k5 400 f5), (h3, zi k3 833 f3), (h2, zi k2 833 f2), (h4, zi k4 400 f4)] H := hP
    have hD9 : va_D A [(h0, .inr (6, mX6 h1 h2 h3 h4 h5 h6 h7 h8 (upd (upd (upd v0 8 (v0 8)) 9 (v0 9)) 11 (v0 11)))), (h1, zi k1 1250 f1), (h5, zi k5 400 f5), (h3, zi k3 833 f3), (h2, zi k2 833 f2), (h4, zi k4 400 f4)] := hD
    have hB0 : (0 : Int32).toInt = 1 → f5 = upd f5 ((x1 : Int32)).toNatClampNeg (v0 8) ∧ f2 = upd f2 (v0 8).toNatClampNeg (v0 9) := by first | (intro _; exact ⟨e_f_75, e_f_88⟩) | (intro q; exact absurd q (by decide))
    have hB1 : (0 : Int32).toInt = 0 → f5 = f5 ∧ f2 = f2 := by first | (intro _; exact ⟨rfl, rfl⟩) | (intro q; exact absurd q (by decide))
    have hB2 : (0 : Int32).toInt = 1 → zAc f2 f3 f4 f5 (v0 8).toInt (v0 9).toInt (v0 11).toInt f2 f3 f4 f5 (v0 8).toInt (v0 9).toInt (v0 11).toInt ((x1 : Int32)).toNatClampNeg x2.toInt := by first | (intro q; exact absurd q (by decide)) | (intro _; exact zAc_i (L := z60) e_f_88 e_f_75 (Or.inr ⟨by omega, rfl, by rw [e_f_98, e_f_65], e_z60⟩) (by omega) (hf5 _).1 (hX1_0 (by omega)) (by omega) (by omega) rfl e_z130 e_z131) | (intro _; exact zAc_i (L := 0) e_f_88 e_f_75 (Or.inl ⟨by omega, e_f_47, e_f_98⟩) (by omega) (hf5 _).1 (hX1_0 (by omega)) (by omega) (by omega) rfl e_z130 e_z131)
    exact W.zret (v := 0) hx hb hr rfl (fun t ht hW => ⟨⟨0, (fun i => ([(v0 8), (v0 9), (v0 11), 0] : List (Int32)).getD i 0), rfl, hpost, (fun _ => 0), (fun i => ([f5, f3, f2, f4] : List (Nat → Int32)).getD i (fun _ => 0)), (fun _ => (fun _ => 0)), hf5, hf2, hB0, hB1, hB2, by rw [ht]; exact hP9, va_K.moved hW.alike hK, hD9⟩, hS.F ht⟩) hS.2.2 dX6_addChunk_33
  · skip
    have b_ := zF_ge rfl zk_833 c_
    refine lv_aload_n hx hb dX6_addChunk_15 rfl (lv_at hl 1 rfl) ?_
    refine va_get (D := (dC, dI)) (ci := 6) (v := .int (v0 9)) (C := RX6) (T := TX6) (N := 12) hx hb hG zuX6 hown hK hP 0 rfl rfl 9 (by decide) (hG _ zv257) (fun _ h9 => h9) rfl dX6_addChunk_16 ?_
    refine lv_iload_n hx hb dX6_addChunk_19 rfl (lv_at hl 0 rfl) ?_
    refine lv_bipush (v := 32) hx hb dX6_addChunk_20 (by decide) ?_
    have b_ : -2147483648 ≤ r1_.toInt ∧ r1_.toInt ≤ 2147483647 := ⟨zlo _, zhi _⟩
    refine lv_idiv hx hb dX6_addChunk_22 (by decide) ?_
    refine lv_topi (fun z22 e_z22 => ?_)
    have b_ := zdiv rfl zk_32 e_z22 (by omega) (by decide)
    refine lv_iadd hx hb dX6_addChunk_23 ?_
    refine lv_topi (fun z23 e_z23 => ?_)
    have b_ := zadd rfl rfl e_z23 (by omega) (by omega)
    refine lv_aload_n hx hb dX6_addChunk_24 rfl (lv_at hl 1 rfl) ?_
    refine va_get (D := (dC, dI)) (ci := 6) (v := .ref h1) (C := RX6) (T := TX6) (N := 12) hx hb hG zuX6 hown hK hP 0 rfl rfl 0 (by decide) (hG _ zv248) (fun _ h9 => h9) rfl dX6_addChunk_25 ?_
    refine va_alen (v := 1250) hx hb hK hP 1 0 rfl rfl (show Int32.ofNat 1250 = 1250 from by decide +kernel) dX6_addChunk_28 ?_
    refine lv_icmp_le (tgt := 34) hx hb dX6_addChunk_29 (by decide) (fun c_ => ?_) (fun c_ => ?_)
    · skip
      have b_ := zT_le rfl zk_1250 c_
      refine lv_iload_n hx hb dX6_addChunk_34 rfl (lv_at hl 3 rfl) ?_
      refine lv_if_ne (tgt := 51) hx hb dX6_addChunk_35 (by decide) (fun c_ => ?_) (fun c_ => ?_)
      · skip
        have b_ := zT_ne rfl zk_0 c_
        refine lv_aload_n hx hb dX6_addChunk_51 rfl (lv_at hl 1 rfl) ?_
        refine va_get (D := (dC, dI)) (ci := 6) (v := .ref h3) (C := RX6) (T := TX6) (N := 12) hx hb hG zuX6 hown hK hP 0 rfl rfl 2 (by decide) (hG _ zv250) (fun _ h9 => h9) rfl dX6_addChunk_52 ?_
        refine lv_aload_n hx hb dX6_addChunk_55 rfl (lv_at hl 1 rfl) ?_
        refine va_get (D := (dC, dI)) (ci := 6) (v := .ref h5) (C := RX6) (T := TX6) (N := 12) hx hb hG zuX6 hown hK hP 0 rfl rfl 4 (by decide) (hG _ zv252) (fun _ h9 => h9) rfl dX6_addChunk_56 ?_
        refine lv_iload_n hx hb dX6_addChunk_59 rfl (lv_at hl 2 rfl) ?_
        refine va_iald hx hb hK hP 2 1 rfl rfl (zin_lit ⟨by omega, by omega⟩) dX6_addChunk_60 ?_
        refine lv_topi (fun z60 e_z60 => ?_)
        have b_ : 0 ≤ z60.toInt ∧ z60.toInt ≤ 832 := by rw [e_z60]; exact hf5 _
        refine lv_aload_n hx hb dX6_addChunk_61 rfl (lv_at hl 1 rfl) ?_
        refine va_get (D := (dC, dI)) (ci := 6) (v := .int (v0 8)) (C := RX6) (T := TX6) (N := 12) hx hb hG zuX6 hown hK hP 0 rfl rfl 8 (by decide) (hG _ zv256) (fun _ h9 => h9) rfl dX6_addChunk_62 ?_
        refine va_iast hx hb hK hP hD hS 3 2 rfl rfl (zin_lit ⟨by omega, by omega⟩) dX6_addChunk_65 (fun H locs hP hD hS => ?_)
        obtain ⟨f_65, e_f_65⟩ : ∃ z : Nat → Int32, z = upd f3 (z60 : Int32).toNatClampNeg (v0 8) := ⟨_, rfl⟩
        have hP : va_P (dC, dI) vwCl [(h0, .inr (6, mX6 h1 h2 h3 h4 h5 h6 h7 h8 v0)), (h1, zi k1 1250 f1), (h5, zi k5 400 f5), (h3, zi k3 833 f_65), (h2, zi k2 833 f2), (h4, zi k4 400 f4)] H := by rw [e_f_65]; exact hP
        have hD : va_D A [(h0, .inr (6, mX6 h1 h2 h3 h4 h5 h6 h7 h8 v0)), (h1, zi k1 1250 f1), (h5, zi k5 400 f5), (h3, zi k3 833 f_65), (h2, zi k2 833 f2), (h4, zi k4 400 f4)] := by rw [e_f_65]; exact hD
        refine lv_aload_n hx hb dX6_addChunk_66 rfl (lv_at hl 1 rfl) ?_
        refine va_get (D := (dC, dI)) (ci := 6) (v := .ref h5) (C := RX6) (T := TX6) (N := 12) hx hb hG zuX6 hown hK hP 0 rfl rfl 4 (by decide) (hG _ zv252) (fun _ h9 => h9) rfl dX6_addChunk_67 ?_
        refine lv_iload_n hx hb dX6_addChunk_70 rfl (lv_at hl 2 rfl) ?_
        refine lv_aload_n hx hb dX6_addChunk_71 rfl (lv_at hl 1 rfl) ?_
        refine va_get (D := (dC, dI)) (ci := 6) (v := .int (v0 8)) (C := RX6) (T := TX6) (N := 12) hx hb hG zuX6 hown hK hP 0 rfl rfl 8 (by decide) (hG _ zv256) (fun _ h9 => h9) rfl dX6_addChunk_72 ?_
        refine va_iast hx hb hK hP hD hS 2 1 rfl rfl (zin_lit ⟨by omega, by omega⟩) dX6_addChunk_75 (fun H locs hP hD hS => ?_)
        obtain ⟨f_75, e_f_75⟩ : ∃ z : Nat → Int32, z = upd f5 (x1 : Int32).toNatClampNeg (v0 8) := ⟨_, rfl⟩
        have hP : va_P (dC, dI) vwCl [(h0, .inr (6, mX6 h1 h2 h3 h4 h5 h6 h7 h8 v0)), (h1, zi k1 1250 f1), (h5, zi k5 400 f_75), (h3, zi k3 833 f_65), (h2, zi k2 833 f2), (h4, zi k4 400 f4)] H := by rw [e_f_75]; exact hP
        have hD : va_D A [(h0, .inr (6, mX6 h1 h2 h3 h4 h5 h6 h7 h8 v0)), (h1, zi k1 1250 f1), (h5, zi k5 400 f_75), (h3, zi k3 833 f_65), (h2, zi k2 833 f2), (h4, zi k4 400 f4)] := by rw [e_f_75]; exact hD
        have hf_75 : zA 0 832 f_75 := by rw [e_f_75]; exact zA_upd hf5 (show 0 ≤ ((v0 8) : Int32).toInt from by omega) (show ((v0 8) : Int32).toInt ≤ 832 from by omega)
        refine lv_aload_n hx hb dX6_addChunk_76 rfl (lv_at hl 1 rfl) ?_
        refine va_get (D := (dC, dI)) (ci := 6) (v := .ref h2) (C := RX6) (T := TX6) (N := 12) hx hb hG zuX6 hown hK hP 0 rfl rfl 1 (by decide) (hG _ zv249) (fun _ h9 => h9) rfl dX6_addChunk_77 ?_
        refine lv_aload_n hx hb dX6_addChunk_80 rfl (lv_at hl 1 rfl) ?_
        refine va_get (D := (dC, dI)) (ci := 6) (v := .int (v0 8)) (C := RX6) (T := TX6) (N := 12) hx hb hG zuX6 hown hK hP 0 rfl rfl 8 (by decide) (hG _ zv256) (fun _ h9 => h9) rfl dX6_addChunk_81 ?_
        refine lv_aload_n hx hb dX6_addChunk_84 rfl (lv_at hl 1 rfl) ?_
        refine va_get (D := (dC, dI)) (ci := 6) (v := .int (v0 9)) (C := RX6) (T := TX6) (N := 12) hx hb hG zuX6 hown hK hP 0 rfl rfl 9 (by decide) (hG _ zv257) (fun _ h9 => h9) rfl dX6_addChunk_85 ?_
        refine va_iast hx hb hK hP hD hS 4 3 rfl rfl (zin_lit ⟨by omega, by omega⟩) dX6_addChunk_88 (fun H locs hP hD hS => ?_)
        obtain ⟨f_88, e_f_88⟩ : ∃ z : Nat → Int32, z = upd f2 ((v0 8) : Int32).toNatClampNeg (v0 9) := ⟨_, rfl⟩
        have hP : va_P (dC, dI) vwCl [(h0, .inr (6, mX6 h1 h2 h3 h4 h5 h6 h7 h8 v0)), (h1, zi k1 1250 f1), (h5, zi k5 400 f_75), (h3, zi k3 833 f_65), (h2, zi k2 833 f_88), (h4, zi k4 400 f4)] H := by rw [e_f_88]; exact hP
        have hD : va_D A [(h0, .inr (6, mX6 h1 h2 h3 h4 h5 h6 h7 h8 v0)), (h1, zi k1 1250 f1), (h5, zi k5 400 f_75), (h3, zi k3 833 f_65), (h2, zi k2 833 f_88), (h4, zi k4 400 f4)] := by rw [e_f_88]; exact hD
        have hf_88 : zA 0 1250 f_88 := by rw [e_f_88]; exact zA_upd hf2 (show 0 ≤ ((v0 9) : Int32).toInt from by omega) (show ((v0 9) : Int32).toInt ≤ 1250 from by omega)
        refine lv_aload_n hx hb dX6_addChunk_89 rfl (lv_at hl 1 rfl) ?_
        refine va_get (D := (dC, dI)) (ci := 6) (v := .ref h3) (C := RX6) (T := TX6) (N := 12) hx hb hG zuX6 hown hK hP 0 rfl rfl 2 (by decide) (hG _ zv250) (fun _ h9 => h9) rfl dX6_addChunk_90 ?_
        refine lv_aload_n hx hb dX6_addChunk_93 rfl (lv_at hl 1 rfl) ?_
        refine va_get (D := (dC, dI)) (ci := 6) (v := .int (v0 8)) (C := RX6) (T := TX6) (N := 12) hx hb hG zuX6 hown hK hP 0 rfl rfl 8 (by decide) (hG _ zv256) (fun _ h9 => h9) rfl dX6_addChunk_94 ?_
        refine lv_iconst (v := (-1)) hx hb dX6_addChunk_97 (by decide) ?_
        refine va_iast hx hb hK hP hD hS 3 2 rfl rfl (zin_lit ⟨by omega, by omega⟩) dX6_addChunk_98 (fun H locs hP hD hS => ?_)
        obtain ⟨f_98, e_f_98⟩ : ∃ z : Nat → Int32, z = upd f_65 ((v0 8) : Int32).toNatClampNeg (-1) := ⟨_, rfl⟩
        have hP : va_P (dC, dI) vwCl [(h0, .inr (6, mX6 h1 h2 h3 h4 h5 h6 h7 h8 v0)), (h1, zi k1 1250 f1), (h5, zi k5 400 f_75), (h3, zi k3 833 f_98), (h2, zi k2 833 f_88), (h4, zi k4 400 f4)] H := by rw [e_f_98]; exact hP
        have hD : va_D A [(h0, .inr (6, mX6 h1 h2 h3 h4 h5 h6 h7 h8 v0)), (h1, zi k1 1250 f1), (h5, zi k5 400 f_75), (h3, zi k3 833 f_98), (h2, zi k2 833 f_88), (h4, zi k4 400 f4)] := by rw [e_f_98]; exact hD
        refine lv_aload_n hx hb dX6_addChunk_99 rfl (lv_at hl 1 rfl) ?_
        refine lv_dup hx hb dX6_addChunk_100 rfl ?_
        refine va_get (D := (dC, dI)) (ci := 6) (v := .int (v0 8)) (C := RX6) (T := TX6) (N := 12) hx hb hG zuX6 hown hK hP 0 rfl rfl 8 (by decide) (hG _ zv256) (fun _ h9 => h9) rfl dX6_addChunk_101 ?_
        refine lv_iconst (v := 1) hx hb dX6_addChunk_104 (by decide) ?_
        refine lv_iadd hx hb dX6_addChunk_105 ?_
        refine lv_topi (fun z105 e_z105 => ?_)
        have b_ := zadd rfl zk_1 e_z105 (by omega) (by omega)
        refine va_put (D := (dC, dI)) (ci := 6) (v := .int z105) (ty := .int) (C := RX6) (T := TX6) (N := 12) hx hb hG zuX6 tyX6 tyX6_ok nmX6 hown hK hP hD hS 0 rfl rfl 8 (by decide) (hG _ zv256) (fun _ h9 => h9) rfl (by decide +kernel) rfl rfl (Nat.le_of_ble_eq_true rfl) dX6_addChunk_106 (fun H locs hP hD hS => ?_)
        have hP : va_P (dC, dI) vwCl [(h0, .inr (6, mX6 h1 h2 h3 h4 h5 h6 h7 h8 (upd v0 8 z105))), (h1, zi k1 1250 f1), (h5, zi k5 400 f_75), (h3, zi k3 833 f_98), (h2, zi k2 833 f_88), (h4, zi k4 400 f4)] H := hP
        have hD : va_D A [(h0, .inr (6, mX6 h1 h2 h3 h4 h5 h6 h7 h8 (upd v0 8 z105))), (h1, zi k1 1250 f1), (h5, zi k5 400 f_75), (h3, zi k3 833 f_98), (h2, zi k2 833 f_88), (h4, zi k4 400 f4)] := hD
        refine lv_aload_n hx hb dX6_addChunk_109 rfl (lv_at hl 1 rfl) ?_
        refine lv_dup hx hb dX6_addChunk_110 rfl ?_
        refine va_get (D := (dC, dI)) (ci := 6) (v := .int (v0 9)) (C := RX6) (T := TX6) (N := 12) hx hb hG zuX6 hown hK hP 0 rfl rfl 9 (by decide) (hG _ zv257) (fun _ h9 => h9) rfl dX6_addChunk_111 ?_
        refine lv_iload_n hx hb dX6_addChunk_114 rfl (lv_at hl 0 rfl) ?_
        refine lv_bipush (v := 32) hx hb dX6_addChunk_115 (by decide) ?_
        refine lv_idiv hx hb dX6_addChunk_117 (by decide) ?_
        refine lv_topi (fun z117 e_z117 => ?_)
        have b_ := zdiv rfl zk_32 e_z117 (by omega) (by decide)
        refine lv_iadd hx hb dX6_addChunk_118 ?_
        refine lv_topi (fun z118 e_z118 => ?_)
        have b_ := zadd rfl rfl e_z118 (by omega) (by omega)
        have b_ : 0 ≤ z118.toInt ∧ z118.toInt ≤ 1250 := ⟨by omega, by omega⟩
        refine va_put (D := (dC, dI)) (ci := 6) (v := .int z118) (ty := .int) (C := RX6) (T := TX6) (N := 12) hx hb hG zuX6 tyX6 tyX6_ok nmX6 hown hK hP hD hS 0 rfl rfl 9 (by decide) (hG _ zv257) (fun _ h9 => h9) rfl (by decide +kernel) rfl rfl (Nat.le_of_ble_eq_true rfl) dX6_addChunk_119 (fun H locs hP hD hS => ?_)
        have hP : va_P (dC, dI) vwCl [(h0, .inr (6, mX6 h1 h2 h3 h4 h5 h6 h7 h8 (upd (upd v0 8 z105) 9 z118))), (h1, zi k1 1250 f1), (h5, zi k5 400 f_75), (h3, zi k3 833 f_98), (h2, zi k2 833 f_88), (h4, zi k4 400 f4)] H := hP
        have hD : va_D A [(h0, .inr (6, mX6 h1 h2 h3 h4 h5 h6 h7 h8 (upd (upd v0 8 z105) 9 z118))), (h1, zi k1 1250 f1), (h5, zi k5 400 f_75), (h3, zi k3 833 f_98), (h2, zi k2 833 f_88), (h4, zi k4 400 f4)] := hD
        refine lv_aload_n hx hb dX6_addChunk_122 rfl (lv_at hl 1 rfl) ?_
        refine lv_dup hx hb dX6_addChunk_123 rfl ?_
        refine va_get (D := (dC, dI)) (ci := 6) (v := .int (v0 11)) (C := RX6) (T := TX6) (N := 12) hx hb hG zuX6 hown hK hP 0 rfl rfl 11 (by decide) (hG _ zv259) (fun _ h9 => h9) rfl dX6_addChunk_124 ?_
        refine lv_iload_n hx hb dX6_addChunk_127 rfl (lv_at hl 0 rfl) ?_
        refine lv_bipush (v := 16) hx hb dX6_addChunk_128 (by decide) ?_
        refine lv_iadd hx hb dX6_addChunk_130 ?_
        refine lv_topi (fun z130 e_z130 => ?_)
        have b_ := zadd rfl zk_16 e_z130 (by omega) (by omega)
        have b_ : -2147483648 ≤ (v0 11).toInt ∧ (v0 11).toInt ≤ 2147483647 := ⟨zlo _, zhi _⟩
        refine lv_iadd hx hb dX6_addChunk_131 ?_
        refine lv_topi (fun z131 e_z131 => ?_)
        refine va_put (D := (dC, dI)) (ci := 6) (v := .int z131) (ty := .int) (C := RX6) (T := TX6) (N := 12) hx hb hG zuX6 tyX6 tyX6_ok nmX6 hown hK hP hD hS 0 rfl rfl 11 (by decide) (hG _ zv259) (fun _ h9 => h9) rfl (by decide +kernel) rfl rfl (Nat.le_of_ble_eq_true rfl) dX6_addChunk_132 (fun H locs hP hD hS => ?_)
        have hP : va_P (dC, dI) vwCl [(h0, .inr (6, mX6 h1 h2 h3 h4 h5 h6 h7 h8 (upd (upd (upd v0 8 z105) 9 z118) 11 z131))), (h1, zi k1 1250 f1), (h5, zi k5 400 f_75), (h3, zi k3 833 f_98), (h2, zi k2 833 f_88), (h4, zi k4 400 f4)] H := hP
        have hD : va_D A [(h0, .inr (6, mX6 h1 h2 h3 h4 h5 h6 h7 h8 (upd (upd (upd v0 8 z105) 9 z118) 11 z131))), (h1, zi k1 1250 f1), (h5, zi k5 400 f_75), (h3, zi k3 833 f_98), (h2, zi k2 833 f_88), (h4, zi k4 400 f4)] := hD
        refine lv_iconst (v := 1) hx hb dX6_addChunk_135 (by decide) ?_
        refine W.widen (k := 0) (n := 0) (by decide) (by decide) ?_
        have b_ : -2147483648 ≤ z131.toInt ∧ z131.toInt ≤ 2147483647 := ⟨zlo _, zhi _⟩
        have hpost : (0 ≤ (1 : Int32).toInt ∧ (1 : Int32).toInt ≤ 1) ∧ (0 ≤ z105.toInt ∧ z105.toInt ≤ 833) ∧ (0 ≤ z118.toInt ∧ z118.toInt ≤ 1250) ∧ ((1 : Int32).toInt = 1 → zBs x2.toInt (32 * (z118.toInt - (v0 9).toInt))) ∧ ((1 : Int32).toInt = 1 → z105.toInt = (v0 8).toInt + 1) ∧ ((1 : Int32).toInt = 0 → z118.toInt = (v0 9).toInt ∧ z105.toInt = (v0 8).toInt) ∧ ((1 : Int32).toInt = 0 → zAx (v0 8).toInt (v0 9).toInt x2.toInt) ∧ ((1 : Int32).toInt = (1 : Int32).toInt) := ⟨(by first | with_reducible assumption | exact ⟨by omega, by omega⟩), (by first | with_reducible assumption | exact ⟨by omega, by omega⟩), (by first | with_reducible assumption | exact ⟨by omega, by omega⟩), by intro _; have q := hX1_0 (by omega); unfold zBs at q ⊢; omega, by omega, by omega, by first | (intro q; exact absurd q (by decide)) | (intro _; exact Or.inl (by omega)) | (intro _; exact Or.inr ⟨_, hX1_0 (by omega), by omega⟩), rfl⟩
        have hP9 : va_P (dC, dI) vwCl [(h0, .inr (6, mX6 h1 h2 h3 h4 h5 h6 h7 h8 (upd (upd (upd v0 8 z105) 9 z118) 11 z131))), (h1, zi k1 1250 f1), (h5, zi k5 400 f_75), (h3, zi k3 833 f_98), (h2, zi k2 833 f_88), (h4, zi k4 400 f4)] H := hP
        have hD9 : va_D A [(h0, .inr (6, mX6 h1 h2 h3 h4 h5 h6 h7 h8 (upd (upd (upd v0 8 z105) 9 z118) 11 z131))), (h1, zi k1 1250 f1), (h5, zi k5 400 f_75), (h3, zi k3 833 f_98), (h2, zi k2 833 f_88), (h4, zi k4 400 f4)] := hD
        have hB0 : (1 : Int32).toInt = 1 → f_75 = upd f5 ((x1 : Int32)).toNatClampNeg (v0 8) ∧ f_88 = upd f2 (v0 8).toNatClampNeg (v0 9) := by first | (intro _; exact ⟨e_f_75, e_f_88⟩) | (intro q; exact absurd q (by decide))
        have hB1 : (1 : Int32).toInt = 0 → f_75 = f5 ∧ f_88 = f2 := by first | (intro _; exact ⟨rfl, rfl⟩) | (intro q; exact absurd q (by decide))
        have hB2 : (1 : Int32).toInt = 1 → zAc f2 f3 f4 f5 (v0 8).toInt (v0 9).toInt (v0 11).toInt f_88 f_98 f4 f_75 z105.toInt z118.toInt z131.toInt ((x1 : Int32)).toNatClampNeg x2.toInt := by first | (intro q; exact absurd q (by decide)) | (intro _; exact zAc_i (L := z60) e_f_88 e_f_75 (Or.inr ⟨by omega, rfl, by rw [e_f_98, e_f_65], e_z60⟩) (by omega) (hf5 _).1 (hX1_0 (by omega)) (by omega) (by omega) rfl e_z130 e_z131) | (intro _; exact zAc_i (L := 0) e_f_88 e_f_75 (Or.inl ⟨by omega, e_f_47, e_f_98⟩) (by omega) (hf5 _).1 (hX1_0 (by omega)) (by omega) (by omega) rfl e_z130 e_z131)
        exact W.zret (v := 1) hx hb hr rfl (fun t ht hW => ⟨⟨1, (fun i => ([z105, z118, z131, 1] : List (Int32)).getD i 0), rfl, hpost, (fun _ => 0), (fun i => ([f_75, f_98, f_88, f4] : List (Nat → Int32)).getD i (fun _ => 0)), (fun _ => (fun _ => 0)), hf_75, hf_88, hB0, hB1, hB2, by rw [ht]; exact hP9, va_K.moved hW.alike hK, hD9⟩, hS.F ht⟩) hS.2.2 dX6_addChunk_136
      · skip
        have b_ := zF_ne rfl zk_0 c_
        refine lv_aload_n hx hb dX6_addChunk_38 rfl (lv_at hl 1 rfl) ?_
        refine va_get (D := (dC, dI)) (ci := 6) (v := .ref h4) (C := RX6) (T := TX6) (N := 12) hx hb hG zuX6 hown hK hP 0 rfl rfl 3 (by decide) (hG _ zv251) (fun _ h9 => h9) rfl dX6_addChunk_39 ?_
        refine lv_iload_n hx hb dX6_addChunk_42 rfl (lv_at hl 2 rfl) ?_
        refine lv_aload_n hx hb dX6_addChunk_43 rfl (lv_at hl 1 rfl) ?_
        refine va_get (D := (dC, dI)) (ci := 6) (v := .int (v0 8)) (C := RX6) (T := TX6) (N := 12) hx hb hG zuX6 hown hK hP 0 rfl rfl 8 (by decide) (hG _ zv256) (fun _ h9 => h9) rfl dX6_addChunk_44 ?_
        refine va_iast hx hb hK hP hD hS 5 4 rfl rfl (zin_lit ⟨by omega, by omega⟩) dX6_addChunk_47 (fun H locs hP hD hS => ?_)
        obtain ⟨f_47, e_f_47⟩ : ∃ z : Nat → Int32, z = upd f4 (x1 : Int32).toNatClampNeg (v0 8) := ⟨_, rfl⟩
        have hP : va_P (dC, dI) vwCl [(h0, .inr (6, mX6 h1 h2 h3 h4 h5 h6 h7 h8 v0)), (h1, zi k1 1250 f1), (h5, zi k5 400 f5), (h3, zi k3 833 f3), (h2, zi k2 833 f2), (h4, zi k4 400 f_47)] H := by rw [e_f_47]; exact hP
        have hD : va_D A [(h0, .inr (6, mX6 h1 h2 h3 h4 h5 h6 h7 h8 v0)), (h1, zi k1 1250 f1), (h5, zi k5 400 f5), (h3, zi k3 833 f3), (h2, zi k2 833 f2), (h4, zi k4 400 f_47)] := by rw [e_f_47]; exact hD
        refine lv_goto (tgt := 66) hx hb dX6_addChunk_48 (by decide) ?_
        refine lv_aload_n hx hb dX6_addChunk_66 rfl (lv_at hl 1 rfl) ?_
        refine va_get (D := (dC, dI)) (ci := 6) (v := .ref h5) (C := RX6) (T := TX6) (N := 12) hx hb hG zuX6 hown hK hP 0 rfl rfl 4 (by decide) (hG _ zv252) (fun _ h9 => h9) rfl dX6_addChunk_67 ?_
        refine lv_iload_n hx hb dX6_addChunk_70 rfl (lv_at hl 2 rfl) ?_
        refine lv_aload_n hx hb dX6_addChunk_71 rfl (lv_at hl 1 rfl) ?_
        refine va_get (D := (dC, dI)) (ci := 6) (v := .int (v0 8)) (C := RX6) (T := TX6) (N := 12) hx hb hG zuX6 hown hK hP 0 rfl rfl 8 (by decide) (hG _ zv256) (fun _ h9 => h9) rfl dX6_addChunk_72 ?_
        refine va_iast hx hb hK hP hD hS 2 1 rfl rfl (zin_lit ⟨by omega, by omega⟩) dX6_addChunk_75 (fun H locs hP hD hS => ?_)
        obtain ⟨f_75, e_f_75⟩ : ∃ z : Nat → Int32, z = upd f5 (x1 : Int32).toNatClampNeg (v0 8) := ⟨_, rfl⟩
        have hP : va_P (dC, dI) vwCl [(h0, .inr (6, mX6 h1 h2 h3 h4 h5 h6 h7 h8 v0)), (h1, zi k1 1250 f1), (h5, zi k5 400 f_75), (h3, zi k3 833 f3), (h2, zi k2 833 f2), (h4, zi k4 400 f_47)] H := by rw [e_f_75]; exact hP
        have hD : va_D A [(h0, .inr (6, mX6 h1 h2 h3 h4 h5 h6 h7 h8 v0)), (h1, zi k1 1250 f1), (h5, zi k5 400 f_75), (h3, zi k3 833 f3), (h2, zi k2 833 f2), (h4, zi k4 400 f_47)] := by rw [e_f_75]; exact hD
        have hf_75 : zA 0 832 f_75 := by rw [e_f_75]; exact zA_upd hf5 (show 0 ≤ ((v0 8) : Int32).toInt from by omega) (show ((v0 8) : Int32).toInt ≤ 832 from by omega)
        refine lv_aload_n hx hb dX6_addChunk_76 rfl (lv_at hl 1 rfl) ?_
        refine va_get (D := (dC, dI)) (ci := 6) (v := .ref h2) (C := RX6) (T := TX6) (N := 12) hx hb hG zuX6 hown hK hP 0 rfl rfl 1 (by decide) (hG _ zv249) (fun _ h9 => h9) rfl dX6_addChunk_77 ?_
        refine lv_aload_n hx hb dX6_addChunk_80 rfl (lv_at hl 1 rfl) ?_
        refine va_get (D := (dC, dI)) (ci := 6) (v := .int (v0 8)) (C := RX6) (T := TX6) (N := 12) hx hb hG zuX6 hown hK hP 0 rfl rfl 8 (by decide) (hG _ zv256) (fun _ h9 => h9) rfl dX6_addChunk_81 ?_
        refine lv_aload_n hx hb dX6_addChunk_84 rfl (lv_at hl 1 rfl) ?_
        refine va_get (D := (dC, dI)) (ci := 6) (v := .int (v0 9)) (C := RX6) (T := TX6) (N := 12) hx hb hG zuX6 hown hK hP 0 rfl rfl 9 (by decide) (hG _ zv257) (fun _ h9 => h9) rfl dX6_addChunk_85 ?_
        refine va_iast hx hb hK hP hD hS 4 3 rfl rfl (zin_lit ⟨by omega, by omega⟩) dX6_addChunk_88 (fun H locs hP hD hS => ?_)
        obtain ⟨f_88, e_f_88⟩ : ∃ z : Nat → Int32, z = upd f2 ((v0 8) : Int32).toNatClampNeg (v0 9) := ⟨_, rfl⟩
        have hP : va_P (dC, dI) vwCl [(h0, .inr (6, mX6 h1 h2 h3 h4 h5 h6 h7 h8 v0)), (h1, zi k1 1250 f1), (h5, zi k5 400 f_75), (h3, zi k3 833 f3), (h2, zi k2 833 f_88), (h4, zi k4 400 f_47)] H := by rw [e_f_88]; exact hP
        have hD : va_D A [(h0, .inr (6, mX6 h1 h2 h3 h4 h5 h6 h7 h8 v0)), (h1, zi k1 1250 f1), (h5, zi k5 400 f_75), (h3, zi k3 833 f3), (h2, zi k2 833 f_88), (h4, zi k4 400 f_47)] := by rw [e_f_88]; exact hD
        have hf_88 : zA 0 1250 f_88 := by rw [e_f_88]; exact zA_upd hf2 (show 0 ≤ ((v0 9) : Int32).toInt from by omega) (show ((v0 9) : Int32).toInt ≤ 1250 from by omega)
        refine lv_aload_n hx hb dX6_addChunk_89 rfl (lv_at hl 1 rfl) ?_
        refine va_get (D := (dC, dI)) (ci := 6) (v := .ref h3) (C := RX6) (T := TX6) (N := 12) hx hb hG zuX6 hown hK hP 0 rfl rfl 2 (by decide) (hG _ zv250) (fun _ h9 => h9) rfl dX6_addChunk_90 ?_
        refine lv_aload_n hx hb dX6_addChunk_93 rfl (lv_at hl 1 rfl) ?_
        refine va_get (D := (dC, dI)) (ci := 6) (v := .int (v0 8)) (C := RX6) (T := TX6) (N := 12) hx hb hG zuX6 hown hK hP 0 rfl rfl 8 (by decide) (hG _ zv256) (fun _ h9 => h9) rfl dX6_addChunk_94 ?_
        refine lv_iconst (v := (-1)) hx hb dX6_addChunk_97 (by decide) ?_
        refine va_iast hx hb hK hP hD hS 3 2 rfl rfl (zin_lit ⟨by omega, by omega⟩) dX6_addChunk_98 (fun H locs hP hD hS => ?_)
        obtain ⟨f_98, e_f_98⟩ : ∃ z : Nat → Int32, z = upd f3 ((v0 8) : Int32).toNatClampNeg (-1) := ⟨_, rfl⟩
        have hP : va_P (dC, dI) vwCl [(h0, .inr (6, mX6 h1 h2 h3 h4 h5 h6 h7 h8 v0)), (h1, zi k1 1250 f1), (h5, zi k5 400 f_75), (h3, zi k3 833 f_98), (h2, zi k2 833 f_88), (h4, zi k4 400 f_47)] H := by rw [e_f_98]; exact hP
        have hD : va_D A [(h0, .inr (6, mX6 h1 h2 h3 h4 h5 h6 h7 h8 v0)), (h1, zi k1 1250 f1), (h5, zi k5 400 f_75), (h3, zi k3 833 f_98), (h2, zi k2 833 f_88), (h4, zi k4 400 f_47)] := by rw [e_f_98]; exact hD
        refine lv_aload_n hx hb dX6_addChunk_99 rfl (lv_at hl 1 rfl) ?_
        refine lv_dup hx hb dX6_addChunk_100 rfl ?_
        refine va_get (D := (dC, dI)) (ci := 6) (v := .int (v0 8)) (C := RX6) (T := TX6) (N := 12) hx hb hG zuX6 hown hK hP 0 rfl rfl 8 (by decide) (hG _ zv256) (fun _ h9 => h9) rfl dX6_addChunk_101 ?_
        refine lv_iconst (v := 1) hx hb dX6_addChunk_104 (by decide) ?_
        refine lv_iadd hx hb dX6_addChunk_105 ?_
        refine lv_topi (fun z105 e_z105 => ?_)
        have b_ := zadd rfl zk_1 e_z105 (by omega) (by omega)
        refine va_put (D := (dC, dI)) (ci := 6) (v := .int z105) (ty := .int) (C := RX6) (T := TX6) (N := 12) hx hb hG zuX6 tyX6 tyX6_ok nmX6 hown hK hP hD hS 0 rfl rfl 8 (by decide) (hG _ zv256) (fun _ h9 => h9) rfl (by decide +kernel) rfl rfl (Nat.le_of_ble_eq_true rfl) dX6_addChunk_106 (fun H locs hP hD hS => ?_)
        have hP : va_P (dC, dI) vwCl [(h0, .inr (6, mX6 h1 h2 h3 h4 h5 h6 h7 h8 (upd v0 8 z105))), (h1, zi k1 1250 f1), (h5, zi k5 400 f_75), (h3, zi k3 833 f_98), (h2, zi k2 833 f_88), (h4, zi k4 400 f_47)] H := hP
        have hD : va_D A [(h0, .inr (6, mX6 h1 h2 h3 h4 h5 h6 h7 h8 (upd v0 8 z105))), (h1, zi k1 1250 f1), (h5, zi k5 400 f_75), (h3, zi k3 833 f_98), (h2, zi k2 833 f_88), (h4, zi k4 400 f_47)] := hD
        refine lv_aload_n hx hb dX6_addChunk_109 rfl (lv_at hl 1 rfl) ?_
        refine lv_dup hx hb dX6_addChunk_110 rfl ?_
        refine va_get (D := (dC, dI)) (ci := 6) (v := .int (v0 9)) (C := RX6) (T := TX6) (N := 12) hx hb hG zuX6 hown hK hP 0 rfl rfl 9 (by decide) (hG _ zv257) (fun _ h9 => h9) rfl dX6_addChunk_111 ?_
        refine lv_iload_n hx hb dX6_addChunk_114 rfl (lv_at hl 0 rfl) ?_
        refine lv_bipush (v := 32) hx hb dX6_addChunk_115 (by decide) ?_
        refine lv_idiv hx hb dX6_addChunk_117 (by decide) ?_
        refine lv_topi (fun z117 e_z117 => ?_)
        have b_ := zdiv rfl zk_32 e_z117 (by omega) (by decide)
        refine lv_iadd hx hb dX6_addChunk_118 ?_
        refine lv_topi (fun z118 e_z118 => ?_)
        have b_ := zadd rfl rfl e_z118 (by omega) (by omega)
        have b_ : 0 ≤ z118.toInt ∧ z118.toInt ≤ 1250 := ⟨by omega, by omega⟩
        refine va_put (D := (dC, dI)) (ci := 6) (v := .int z118) (ty := .int) (C := RX6) (T := TX6) (N := 12) hx hb hG zuX6 tyX6 tyX6_ok nmX6 hown hK hP hD hS 0 rfl rfl 9 (by decide) (hG _ zv257) (fun _ h9 => h9) rfl (by decide +kernel) rfl rfl (Nat.le_of_ble_eq_true rfl) dX6_addChunk_119 (fun H locs hP hD hS => ?_)
        have hP : va_P (dC, dI) vwCl [(h0, .inr (6, mX6 h1 h2 h3 h4 h5 h6 h7 h8 (upd (upd v0 8 z105) 9 z118))), (h1, zi k1 1250 f1), (h5, zi k5 400 f_75), (h3, zi k3 833 f_98), (h2, zi k2 833 f_88), (h4, zi k4 400 f_47)] H := hP
        have hD : va_D A [(h0, .inr (6, mX6 h1 h2 h3 h4 h5 h6 h7 h8 (upd (upd v0 8 z105) 9 z118))), (h1, zi k1 1250 f1), (h5, zi k5 400 f_75), (h3, zi k3 833 f_98), (h2, zi k2 833 f_88), (h4, zi k4 400 f_47)] := hD
        refine lv_aload_n hx hb dX6_addChunk_122 rfl (lv_at hl 1 rfl) ?_
        refine lv_dup hx hb dX6_addChunk_123 rfl ?_
        refine va_get (D := (dC, dI)) (ci := 6) (v := .int (v0 11)) (C := RX6) (T := TX6) (N := 12) hx hb hG zuX6 hown hK hP 0 rfl rfl 11 (by decide) (hG _ zv259) (fun _ h9 => h9) rfl dX6_addChunk_124 ?_
        refine lv_iload_n hx hb dX6_addChunk_127 rfl (lv_at hl 0 rfl) ?_
        refine lv_bipush (v := 16) hx hb dX6_addChunk_128 (by decide) ?_
        refine lv_iadd hx hb dX6_addChunk_130 ?_
        refine lv_topi (fun z130 e_z130 => ?_)
        have b_ := zadd rfl zk_16 e_z130 (by omega) (by omega)
        have b_ : -2147483648 ≤ (v0 11).toInt ∧ (v0 11).toInt ≤ 2147483647 := ⟨zlo _, zhi _⟩
        refine lv_iadd hx hb dX6_addChunk_131 ?_
        refine lv_topi (fun z131 e_z131 => ?_)
        refine va_put (D := (dC, dI)) (ci := 6) (v := .int z131) (ty := .int) (C := RX6) (T := TX6) (N := 12) hx hb hG zuX6 tyX6 tyX6_ok nmX6 hown hK hP hD hS 0 rfl rfl 11 (by decide) (hG _ zv259) (fun _ h9 => h9) rfl (by decide +kernel) rfl rfl (Nat.le_of_ble_eq_true rfl) dX6_addChunk_132 (fun H locs hP hD hS => ?_)
        have hP : va_P (dC, dI) vwCl [(h0, .inr (6, mX6 h1 h2 h3 h4 h5 h6 h7 h8 (upd (upd (upd v0 8 z105) 9 z118) 11 z131))), (h1, zi k1 1250 f1), (h5, zi k5 400 f_75), (h3, zi k3 833 f_98), (h2, zi k2 833 f_88), (h4, zi k4 400 f_47)] H := hP
        have hD : va_D A [(h0, .inr (6, mX6 h1 h2 h3 h4 h5 h6 h7 h8 (upd (upd (upd v0 8 z105) 9 z118) 11 z131))), (h1, zi k1 1250 f1), (h5, zi k5 400 f_75), (h3, zi k3 833 f_98), (h2, zi k2 833 f_88), (h4, zi k4 400 f_47)] := hD
        refine lv_iconst (v := 1) hx hb dX6_addChunk_135 (by decide) ?_
        refine W.widen (k := 0) (n := 0) (by decide) (by decide) ?_
        have b_ : -2147483648 ≤ z131.toInt ∧ z131.toInt ≤ 2147483647 := ⟨zlo _, zhi _⟩
        have hpost : (0 ≤ (1 : Int32).toInt ∧ (1 : Int32).toInt ≤ 1) ∧ (0 ≤ z105.toInt ∧ z105.toInt ≤ 833) ∧ (0 ≤ z118.toInt ∧ z118.toInt ≤ 1250) ∧ ((1 : Int32).toInt = 1 → zBs x2.toInt (32 * (z118.toInt - (v0 9).toInt))) ∧ ((1 : Int32).toInt = 1 → z105.toInt = (v0 8).toInt + 1) ∧ ((1 : Int32).toInt = 0 → z118.toInt = (v0 9).toInt ∧ z105.toInt = (v0 8).toInt) ∧ ((1 : Int32).toInt = 0 → zAx (v0 8).toInt (v0 9).toInt x2.toInt) ∧ ((1 : Int32).toInt = (1 : Int32).toInt) := ⟨(by first | with_reducible assumption | exact ⟨by omega, by omega⟩), (by first | with_reducible assumption | exact ⟨by omega, by omega⟩), (by first | with_reducible assumption | exact ⟨by omega, by omega⟩), by intro _; have q := hX1_0 (by omega); unfold zBs at q ⊢; omega, by omega, by omega, by first | (intro q; exact absurd q (by decide)) | (intro _; exact Or.inl (by omega)) | (intro _; exact Or.inr ⟨_, hX1_0 (by omega), by omega⟩), rfl⟩
        have hP9 : va_P (dC, dI) vwCl [(h0, .inr (6, mX6 h1 h2 h3 h4 h5 h6 h7 h8 (upd (upd (upd v0 8 z105) 9 z118) 11 z131))), (h1, zi k1 1250 f1), (h5, zi k5 400 f_75), (h3, zi k3 833 f_98), (h2, zi k2 833 f_88), (h4, zi k4 400 f_47)] H := hP
        have hD9 : va_D A [(h0, .inr (6, mX6 h1 h2 h3 h4 h5 h6 h7 h8 (upd (upd (upd v0 8 z105) 9 z118) 11 z131))), (h1, zi k1 1250 f1), (h5, zi k5 400 f_75), (h3, zi k3 833 f_98), (h2, zi k2 833 f_88), (h4, zi k4 400 f_47)] := hD
        have hB0 : (1 : Int32).toInt = 1 → f_75 = upd f5 ((x1 : Int32)).toNatClampNeg (v0 8) ∧ f_88 = upd f2 (v0 8).toNatClampNeg (v0 9) := by first | (intro _; exact ⟨e_f_75, e_f_88⟩) | (intro q; exact absurd q (by decide))
        have hB1 : (1 : Int32).toInt = 0 → f_75 = f5 ∧ f_88 = f2 := by first | (intro _; exact ⟨rfl, rfl⟩) | (intro q; exact absurd q (by decide))
        have hB2 : (1 : Int32).toInt = 1 → zAc f2 f3 f4 f5 (v0 8).toInt (v0 9).toInt (v0 11).toInt f_88 f_98 f_47 f_75 z105.toInt z118.toInt z131.toInt ((x1 : Int32)).toNatClampNeg x2.toInt := by first | (intro q; exact absurd q (by decide)) | (intro _; exact zAc_i (L := z60) e_f_88 e_f_75 (Or.inr ⟨by omega, rfl, by rw [e_f_98, e_f_65], e_z60⟩) (by omega) (hf5 _).1 (hX1_0 (by omega)) (by omega) (by omega) rfl e_z130 e_z131) | (intro _; exact zAc_i (L := 0) e_f_88 e_f_75 (Or.inl ⟨by omega, e_f_47, e_f_98⟩) (by omega) (hf5 _).1 (hX1_0 (by omega)) (by omega) (by omega) rfl e_z130 e_z131)
        exact W.zret (v := 1) hx hb hr rfl (fun t ht hW => ⟨⟨1, (fun i => ([z105, z118, z131, 1] : List (Int32)).getD i 0), rfl, hpost, (fun _ => 0), (fun i => ([f_75, f_98, f_88, f_47] : List (Nat → Int32)).getD i (fun _ => 0)), (fun _ => (fun _ => 0)), hf_75, hf_88, hB0, hB1, hB2, by rw [ht]; exact hP9, va_K.moved hW.alike hK, hD9⟩, hS.F ht⟩) hS.2.2 dX6_addChunk_136
    · skip
      have b_ := zF_le rfl zk_1250 c_
      refine lv_iconst (v := 0) hx hb dX6_addChunk_32 (by decide) ?_
      refine W.widen (k := 0) (n := 0) (by decide) (by decide) ?_
      have b_ : -2147483648 ≤ (v0 11).toInt ∧ (v0 11).toInt ≤ 2147483647 := ⟨zlo _, zhi _⟩
      have hpost : (0 ≤ (0 : Int32).toInt ∧ (0 : Int32).toInt ≤ 1) ∧ (0 ≤ (v0 8).toInt ∧ (v0 8).toInt ≤ 833) ∧ (0 ≤ (v0 9).toInt ∧ (v0 9).toInt ≤ 1250) ∧ ((0 : Int32).toInt = 1 → zBs x2.toInt (32 * ((v0 9).toInt - (v0 9).toInt))) ∧ ((0 : Int32).toInt = 1 → (v0 8).toInt = (v0 8).toInt + 1) ∧ ((0 : Int32).toInt = 0 → (v0 9).toInt = (v0 9).toInt ∧ (v0 8).toInt = (v0 8).toInt) ∧ ((0 : Int32).toInt = 0 → zAx (v0 8).toInt (v0 9).toInt x2.toInt) ∧ ((0 : Int32).toInt = (0 : Int32).toInt) := ⟨(by first | with_reducible assumption | exact ⟨by omega, by omega⟩), (by first | with_reducible assumption | exact ⟨by omega, by omega⟩), (by first | with_reducible assumption | exact ⟨by omega, by omega⟩), by intro _; have q := hX1_0 (by omega); unfold zBs at q ⊢; omega, by omega, by omega, by first | (intro q; exact absurd q (by decide)) | (intro _; exact Or.inl (by omega)) | (intro _; exact Or.inr ⟨_, hX1_0 (by omega), by omega⟩), rfl⟩
      have hP9 : va_P (dC, dI) vwCl [(h0, .inr (6, mX6 h1 h2 h3 h4 h5 h6 h7 h8 (upd (upd (upd v0 8 (v0 8)) 9 (v0 9)) 11 (v0 11)))), (h1, zi k1 1250 f1), (h5, zi k5 400 f5), (h3, zi k3 833 f3), (h2, zi k2 833 f2), (h4, zi k4 400 f4)] H := hP
      have hD9 : va_D A [(h0, .inr (6, mX6 h1 h2 h3 h4 h5 h6 h7 h8 (upd (upd (upd v0 8 (v0 8)) 9 (v0 9)) 11 (v0 11)))), (h1, zi k1 1250 f1), (h5, zi k5 400 f5), (h3, zi k3 833 f3), (h2, zi k2 833 f2), (h4, zi k4 400 f4)] := hD
      have hB0 : (0 : Int32).toInt = 1 → f5 = upd f5 ((x1 : Int32)).toNatClampNeg (v0 8) ∧ f2 = upd f2 (v0 8).toNatClampNeg (v0 9) := by first | (intro _; exact ⟨e_f_75, e_f_88⟩) | (intro q; exact absurd q (by decide))
      have hB1 : (0 : Int32).toInt = 0 → f5 = f5 ∧ f2 = f2 := by first | (intro _; exact ⟨rfl, rfl⟩) | (intro q; exact absurd q (by decide))
      have hB2 : (0 : Int32).toInt = 1 → zAc f2 f3 f4 f5 (v0 8).toInt (v0 9).toInt (v0 11).toInt f2 f3 f4 f5 (v0 8).toInt (v0 9).toInt (v0 11).toInt ((x1 : Int32)).toNatClampNeg x2.toInt := by first | (intro q; exact absurd q (by decide)) | (intro _; exact zAc_i (L := z60) e_f_88 e_f_75 (Or.inr ⟨by omega, rfl, by rw [e_f_98, e_f_65], e_z60⟩) (by omega) (hf5 _).1 (hX1_0 (by omega)) (by omega) (by omega) rfl e_z130 e_z131) | (intro _; exact zAc_i (L := 0) e_f_88 e_f_75 (Or.inl ⟨by omega, e_f_47, e_f_98⟩) (by omega) (hf5 _).1 (hX1_0 (by omega)) (by omega) (by omega) rfl e_z130 e_z131)
      exact W.zret (v := 0) hx hb hr rfl (fun t ht hW => ⟨⟨0, (fun i => ([(v0 8), (v0 9), (v0 11), 0] : List (Int32)).getD i 0), rfl, hpost, (fun _ => 0), (fun i => ([f5, f3, f2, f4] : List (Nat → Int32)).getD i (fun _ => 0)), (fun _ => (fun _ => 0)), hf5, hf2, hB0, hB1, hB2, by rw [ht]; exact hP9, va_K.moved hW.alike hK, hD9⟩, hS.F ht⟩) hS.2.2 dX6_addChunk_33
