set_option maxHeartbeats 4000000 in
set_option maxRecDepth 100000 in
theorem kX11_count_0 (l : Launch) (dC : Nat → ClassId) (dI : Nat → Nat → Nat) (u0 : Nat) (sz : Nat) (s0 : Int32) (hk_s0 : s0.toInt < 0 ∨ 6 < s0.toInt) : Met l yX11_count (zw yX11_count cX11_count 2 (some .int)) { frames := 0, cells := 0, slots := 0, locals := 0 } (zPc dC dI [.ref u0, .int s0] sz [] []) (va_Qi (fun (r : Int32) (_ : Unit) => r = (-1)) (fun (_ : Unit) (t : State) => va_P (dC, dI) vwCl [] t.heap ∧ va_K (dC, dI) vwCl [] t ∧ va_D (va_A [] sz) []) (va_A [] sz)) 0 0 (va_A [] sz) := by
  refine Met.ofW (cc := cX11_count) (maxL := 2) (ret := (some .int)) (by decide) rfl ?_
  intro p e s m args below meth c s₁ B hml hv
  obtain ⟨rfl, hsz, hP, hK, hD0, hE, hZ⟩ := hv
  have hx := B.exec
  have hb := B.bytes
  have hr := B.returns
  have hG : ∀ w ∈ zG, w.before _ s = true := fun w h => atoms_spec (ws := (zw yX11_count cX11_count 2 (some .int))) B.pre w (List.mem_cons_of_mem _ h)
  have hown : s.vm.findClass RX11 = some m.cls := findClass_of_methodNamed B.named
  have hlocks := B.notSynchronized
  subst hsz
  have hD := hD0.self (sz := s.heap.size)
  generalize hAe : va_A [] s.heap.size = A at hD hZ ⊢
  have hA : ∀ q : Nat, s.heap.size ≤ q → A q := fun q h => by rw [← hAe]; exact Or.inr h
  have hS : va_S A s.heap s.heap [] := va_S.rf
  have hl := lv_entry ([.ref u0, .int s0]) (n := 2) (Nat.le_of_ble_eq_true rfl)
  rw [lg_entry_eq]
  generalize (lg_sl ([.ref u0, .int s0]) ++ List.replicate (2 - (lg_sl ([.ref u0, .int s0])).length) Slot.unset).toArray = ls at hl ⊢
  have hl : lv_has ls 2 [(0, .ref u0), (1, .int s0)] := hl
  refine lv_iload_n hx hb dX11_count_0 rfl (lv_at hl 1 rfl) ?_
  refine lv_tableOut (tgt := 100) hx hb dX11_count_1 hk_s0 (by decide) ?_
  refine lv_iconst (v := (-1)) hx hb dX11_count_100 (by decide) ?_
  have hP9 := hP.sub (ws' := []) [] rfl
  have hD9 := hD.sub (ws' := []) [] (by decide) rfl
  have hK9 := hK.sub (tys' := []) [] rfl
  refine W.widen (k := 0) (n := 0) (by decide) (by decide) ?_
  exact W.iret (v := (-1)) hx hb hr (fun t ht hW => ⟨⟨(-1), (), rfl, rfl, by rw [ht]; exact hP9, va_K.moved hW.alike hK9, hD9⟩, hS.F ht⟩) hS.2.2 dX11_count_101
set_option maxHeartbeats 4000000 in
set_option maxRecDepth 100000 in
theorem kX13_count_0 (l : Launch) (dC : Nat → ClassId) (dI : Nat → Nat → Nat) (h0 u0 u1 u2 u3 u4 u5 u6 u7 u8 u9 u10 u11 u12 u13 u14 u15 u16 u17 u18 u19 u20 u21 u22 u23 u24 u25 u26 u27 u28 u29 u30 u31 u32 u33 u34 u35 u36 u37 u38 u39 u40 u41 u42 u43 u44 u45 u46 u47 u48 : Nat) (sz : Nat) (s0 : Int32) (hk_s0 : s0.toInt < 0 ∨ 6 < s0.toInt) : Met l yX13_count (zw yX13_count cX13_count 2 (some .int)) { frames := 0, cells := 0, slots := 0, locals := 0 } (zPc dC dI [.ref h0, .int s0] sz [(h0, .inr (13, [.ref u0, .int 0, .ref u1, .ref u2, .int 0, .ref u3, .ref u4, .ref u5, .ref u6, .ref u7, .ref u8, .ref u9, .ref u10, .int 0, .ref u11, .ref u12, .int 0, .ref u13, .int (-1), .ref u14, .int 0, .int 0, .ref u15, .int 0, .int 0, .ref u16, .ref u17, .ref u18, .ref u19, .ref u20, .int 0, .ref u21, .int 0, .int 0, .int 0, .int 0, .int 0, .int 0, .ref u22, .ref u23, .ref u24, .ref u25, .int 0, .ref u26, .ref u27, .ref u28, .ref u29, .int 0, .ref u30, .ref u31, .int 0, .int 0, .ref u32, .int 0, .int 0, .int 0, .ref u33, .ref u34, .ref u35, .int 0, .int 0, .ref u36, .ref u37, .ref u38, .ref u39, .ref u40, .ref u41, .ref u42, .ref u43, .ref u44, .ref u45, .int 0, .ref u46, .ref u47, .ref u48]))] []) (va_Qi (fun (r : Int32) (_ : Unit) => r = (-1)) (fun (_ : Unit) (t : State) => va_P (dC, dI) vwCl [(h0, .inr (13, [.ref u0, .int 0, .ref u1, .ref u2, .int 0, .ref u3, .ref u4, .ref u5, .ref u6, .ref u7, .ref u8, .ref u9, .ref u10, .int 0, .ref u11, .ref u12, .int 0, .ref u13, .int (-1), .ref u14, .int 0, .int 0, .ref u15, .int 0, .int 0, .ref u16, .ref u17, .ref u18, .ref u19, .ref u20, .int 0, .ref u21, .int 0, .int 0, .int 0, .int 0, .int 0, .int 0, .ref u22, .ref u23, .ref u24, .ref u25, .int 0, .ref u26, .ref u27, .ref u28, .ref u29, .int 0, .ref u30, .ref u31, .int 0, .int 0, .ref u32, .int 0, .int 0, .int 0, .ref u33, .ref u34, .ref u35, .int 0, .int 0, .ref u36, .ref u37, .ref u38, .ref u39, .ref u40, .ref u41, .ref u42, .ref u43, .ref u44, .ref u45, .int 0, .ref u46, .ref u47, .ref u48]))] t.heap ∧ va_K (dC, dI) vwCl [] t ∧ va_D (va_A [(h0, .inr (13, [.ref u0, .int 0, .ref u1, .ref u2, .int 0, .ref u3, .ref u4, .ref u5, .ref u6, .ref u7, .ref u8, .ref u9, .ref u10, .int 0, .ref u11, .ref u12, .int 0, .ref u13, .int (-1), .ref u14, .int 0, .int 0, .ref u15, .int 0, .int 0, .ref u16, .ref u17, .ref u18, .ref u19, .ref u20, .int 0, .ref u21, .int 0, .int 0, .int 0, .int 0, .int 0, .int 0, .ref u22, .ref u23, .ref u24, .ref u25, .int 0, .ref u26, .ref u27, .ref u28, .ref u29, .int 0, .ref u30, .ref u31, .int 0, .int 0, .ref u32, .int 0, .int 0, .int 0, .ref u33, .ref u34, .ref u35, .int 0, .int 0, .ref u36, .ref u37, .ref u38, .ref u39, .ref u40, .ref u41, .ref u42, .ref u43, .ref u44, .ref u45, .int 0, .ref u46, .ref u47, .ref u48]))] sz) [(h0, .inr (13, [.ref u0, .int 0, .ref u1, .ref u2, .int 0, .ref u3, .ref u4, .ref u5, .ref u6, .ref u7, .ref u8, .ref u9, .ref u10, .int 0, .ref u11, .ref u12, .int 0, .ref u13, .int (-1), .ref u14, .int 0, .int 0, .ref u15, .int 0, .int 0, .ref u16, .ref u17, .ref u18, .ref u19, .ref u20, .int 0, .ref u21, .int 0, .int 0, .int 0, .int 0, .int 0, .int 0, .ref u22, .ref u23, .ref u24, .ref u25, .int 0, .ref u26, .ref u27, .ref u28, .ref u29, .int 0, .ref u30, .ref u31, .int 0, .int 0, .ref u32, .int 0, .int 0, .int 0, .ref u33, .ref u34, .ref u35, .int 0, .int 0, .ref u36, .ref u37, .ref u38, .ref u39, .ref u40, .ref u41, .ref u42, .ref u43, .ref u44, .ref u45, .int 0, .ref u46, .ref u47, .ref u48]))]) (va_A [(h0, .inr (13, [.ref u0, .int 0, .ref u1, .ref u2, .int 0, .ref u3, .ref u4, .ref u5, .ref u6, .ref u7, .ref u8, .ref u9, .ref u10, .int 0, .ref u11, .ref u12, .int 0, .ref u13, .int (-1), .ref u14, .int 0, .int 0, .ref u15, .int 0, .int 0, .ref u16, .ref u17, .ref u18, .ref u19, .ref u20, .int 0, .ref u21, .int 0, .int 0, .int 0, .int 0, .int 0, .int 0, .ref u22, .ref u23, .ref u24, .ref u25, .int 0, .ref u26, .ref u27, .ref u28, .ref u29, .int 0, .ref u30, .ref u31, .int 0, .int 0, .ref u32, .int 0, .int 0, .int 0, .ref u33, .ref u34, .ref u35, .int 0, .int 0, .ref u36, .ref u37, .ref u38, .ref u39, .ref u40, .ref u41, .ref u42, .ref u43, .ref u44, .ref u45, .int 0, .ref u46, .ref u47, .ref u48]))] sz)) 0 0 (va_A [(h0, .inr (13, [.ref u0, .int 0, .ref u1, .ref u2, .int 0, .ref u3, .ref u4, .ref u5, .ref u6, .ref u7, .ref u8, .ref u9, .ref u10, .int 0, .ref u11, .ref u12, .int 0, .ref u13, .int (-1), .ref u14, .int 0, .int 0, .ref u15, .int 0, .int 0, .ref u16, .ref u17, .ref u18, .ref u19, .ref u20, .int 0, .ref u21, .int 0, .int 0, .int 0, .int 0, .int 0, .int 0, .ref u22, .ref u23, .ref u24, .ref u25, .int 0, .ref u26, .ref u27, .ref u28, .ref u29, .int 0, .ref u30, .ref u31, .int 0, .int 0, .ref u32, .int 0, .int 0, .int 0, .ref u33, .ref u34, .ref u35, .int 0, .int 0, .ref u36, .ref u37, .ref u38, .ref u39, .ref u40, .ref u41, .ref u42, .ref u43, .ref u44, .ref u45, .int 0, .ref u46, .ref u47, .ref u48]))] sz) := by
  refine Met.ofW (cc := cX13_count) (maxL := 2) (ret := (some .int)) (by decide) rfl ?_
  intro p e s m args below meth c s₁ B hml hv
  obtain ⟨rfl, hsz, hP, hK, hD0, hE, hZ⟩ := hv
  have hx := B.exec
  have hb := B.bytes
  have hr := B.returns
  have hG : ∀ w ∈ zG, w.before _ s = true := fun w h => atoms_spec (ws := (zw yX13_count cX13_count 2 (some .int))) B.pre w (List.mem_cons_of_mem _ h)
  have hown : s.vm.findClass RX13 = some m.cls := findClass_of_methodNamed B.named
  have hlocks := B.notSynchronized
  subst hsz
  have hD := hD0.self (sz := s.heap.size)
  generalize hAe : va_A [(h0, .inr (13, [.ref u0, .int 0, .ref u1, .ref u2, .int 0, .ref u3, .ref u4, .ref u5, .ref u6, .ref u7, .ref u8, .ref u9, .ref u10, .int 0, .ref u11, .ref u12, .int 0, .ref u13, .int (-1), .ref u14, .int 0, .int 0, .ref u15, .int 0, .int 0, .ref u16, .ref u17, .ref u18, .ref u19, .ref u20, .int 0, .ref u21, .int 0, .int 0, .int 0, .int 0, .int 0, .int 0, .ref u22, .ref u23, .ref u24, .ref u25, .int 0, .ref u26, .ref u27, .ref u28, .ref u29, .int 0, .ref u30, .ref u31, .int 0, .int 0, .ref u32, .int 0, .int 0, .int 0, .ref u33, .ref u34, .ref u35, .int 0, .int 0, .ref u36, .ref u37, .ref u38, .ref u39, .ref u40, .ref u41, .ref u42, .ref u43, .ref u44, .ref u45, .int 0, .ref u46, .ref u47, .ref u48]))] s.heap.size = A at hD hZ ⊢
  have hA : ∀ q : Nat, s.heap.size ≤ q → A q := fun q h => by rw [← hAe]; exact Or.inr h
  have hS : va_S A s.heap s.heap [] := va_S.rf
  have hl := lv_entry ([.ref h0, .int s0]) (n := 2) (Nat.le_of_ble_eq_true rfl)
  rw [lg_entry_eq]
  generalize (lg_sl ([.ref h0, .int s0]) ++ List.replicate (2 - (lg_sl ([.ref h0, .int s0])).length) Slot.unset).toArray = ls at hl ⊢
  have hl : lv_has ls 2 [(0, .ref h0), (1, .int s0)] := hl
  refine lv_aload_n hx hb dX13_count_0 rfl (lv_at hl 0 rfl) ?_
  refine lv_iconst (v := 0) hx hb dX13_count_1 (by decide) ?_
  refine va_put (D := (dC, dI)) (ci := 13) (v := .int 0) (ty := .int) (C := RX13) (T := TX13) (N := 75) hx hb hG zuX13 tyX13 tyX13_ok nmX13 hown hK hP hD hS 0 rfl rfl 21 (by decide) (hG _ zw302) (fun _ h9 => h9) rfl (by decide +kernel) rfl rfl (Nat.le_of_ble_eq_true rfl) dX13_count_2 (fun H locs hP hD hS => ?_)
  have hP : va_P (dC, dI) vwCl [(h0, .inr (13, [.ref u0, .int 0, .ref u1, .ref u2, .int 0, .ref u3, .ref u4, .ref u5, .ref u6, .ref u7, .ref u8, .ref u9, .ref u10, .int 0, .ref u11, .ref u12, .int 0, .ref u13, .int (-1), .ref u14, .int 0, .int 0, .ref u15, .int 0, .int 0, .ref u16, .ref u17, .ref u18, .ref u19, .ref u20, .int 0, .ref u21, .int 0, .int 0, .int 0, .int 0, .int 0, .int 0, .ref u22, .ref u23, .ref u24, .ref u25, .int 0, .ref u26, .ref u27, .ref u28, .ref u29, .int 0, .ref u30, .ref u31, .int 0, .int 0, .ref u32, .int 0, .int 0, .int 0, .ref u33, .ref u34, .ref u35, .int 0, .int 0, .ref u36, .ref u37, .ref u38, .ref u39, .ref u40, .ref u41, .ref u42, .ref u43, .ref u44, .ref u45, .int 0, .ref u46, .ref u47, .ref u48]))] H := hP
  have hD : va_D A [(h0, .inr (13, [.ref u0, .int 0, .ref u1, .ref u2, .int 0, .ref u3, .ref u4, .ref u5, .ref u6, .ref u7, .ref u8, .ref u9, .ref u10, .int 0, .ref u11, .ref u12, .int 0, .ref u13, .int (-1), .ref u14, .int 0, .int 0, .ref u15, .int 0, .int 0, .ref u16, .ref u17, .ref u18, .ref u19, .ref u20, .int 0, .ref u21, .int 0, .int 0, .int 0, .int 0, .int 0, .int 0, .ref u22, .ref u23, .ref u24, .ref u25, .int 0, .ref u26, .ref u27, .ref u28, .ref u29, .int 0, .ref u30, .ref u31, .int 0, .int 0, .ref u32, .int 0, .int 0, .int 0, .ref u33, .ref u34, .ref u35, .int 0, .int 0, .ref u36, .ref u37, .ref u38, .ref u39, .ref u40, .ref u41, .ref u42, .ref u43, .ref u44, .ref u45, .int 0, .ref u46, .ref u47, .ref u48]))] := hD
  refine lv_iload_n hx hb dX13_count_5 rfl (lv_at hl 1 rfl) ?_
  refine lv_tableOut (tgt := 83) hx hb dX13_count_6 hk_s0 (by decide) ?_
  refine lv_iconst (v := (-1)) hx hb dX13_count_83 (by decide) ?_
  have hP9 := hP.sub (ws' := [(h0, .inr (13, [.ref u0, .int 0, .ref u1, .ref u2, .int 0, .ref u3, .ref u4, .ref u5, .ref u6, .ref u7, .ref u8, .ref u9, .ref u10, .int 0, .ref u11, .ref u12, .int 0, .ref u13, .int (-1), .ref u14, .int 0, .int 0, .ref u15, .int 0, .int 0, .ref u16, .ref u17, .ref u18, .ref u19, .ref u20, .int 0, .ref u21, .int 0, .int 0, .int 0, .int 0, .int 0, .int 0, .ref u22, .ref u23, .ref u24, .ref u25, .int 0, .ref u26, .ref u27, .ref u28, .ref u29, .int 0, .ref u30, .ref u31, .int 0, .int 0, .ref u32, .int 0, .int 0, .int 0, .ref u33, .ref u34, .ref u35, .int 0, .int 0, .ref u36, .ref u37, .ref u38, .ref u39, .ref u40, .ref u41, .ref u42, .ref u43, .ref u44, .ref u45, .int 0, .ref u46, .ref u47, .ref u48]))]) [0] rfl
  have hD9 := hD.sub (ws' := [(h0, .inr (13, [.ref u0, .int 0, .ref u1, .ref u2, .int 0, .ref u3, .ref u4, .ref u5, .ref u6, .ref u7, .ref u8, .ref u9, .ref u10, .int 0, .ref u11, .ref u12, .int 0, .ref u13, .int (-1), .ref u14, .int 0, .int 0, .ref u15, .int 0, .int 0, .ref u16, .ref u17, .ref u18, .ref u19, .ref u20, .int 0, .ref u21, .int 0, .int 0, .int 0, .int 0, .int 0, .int 0, .ref u22, .ref u23, .ref u24, .ref u25, .int 0, .ref u26, .ref u27, .ref u28, .ref u29, .int 0, .ref u30, .ref u31, .int 0, .int 0, .ref u32, .int 0, .int 0, .int 0, .ref u33, .ref u34, .ref u35, .int 0, .int 0, .ref u36, .ref u37, .ref u38, .ref u39, .ref u40, .ref u41, .ref u42, .ref u43, .ref u44, .ref u45, .int 0, .ref u46, .ref u47, .ref u48]))]) [0] (by decide) rfl
  have hK9 := hK.sub (tys' := []) [] rfl
  refine W.widen (k := 0) (n := 0) (by decide) (by decide) ?_
  exact W.iret (v := (-1)) hx hb hr (fun t ht hW => ⟨⟨(-1), (), rfl, rfl, by rw [ht]; exact hP9, va_K.moved hW.alike hK9, hD9⟩, hS.F ht⟩) hS.2.2 dX13_count_84
set_option maxHeartbeats 4000000 in
set_option maxRecDepth 100000 in
theorem kX11_count_1 (l : Launch) (dC : Nat → ClassId) (dI : Nat → Nat → Nat) (h0 h1 u0 u1 u2 u3 u4 u5 u6 u7 u8 u9 u10 u11 u12 : Nat) (sz : Nat) : Met l yX11_count (zw yX11_count cX11_count 2 (some .int)) { frames := 1, cells := 0, slots := 0, locals := 20 } (zPc dC dI [.ref h0, .int 0] sz [(h0, .inr (11, [.ref u0, .ref u1, .ref u2, .ref h1, .ref u3, .ref u4, .ref u5, .ref u6, .ref u7, .ref u8, .null, .long (-1)])), (h1, .inr (0, [.ref u9, .ref u10, .ref u11, .ref u12, .int 0, .int 0]))] []) (va_Qi (fun (r : Int32) (_ : Unit) => r = 0) (fun (_ : Unit) (t : State) => va_P (dC, dI) vwCl [(h0, .inr (11, [.ref u0, .ref u1, .ref u2, .ref h1, .ref u3, .ref u4, .ref u5, .ref u6, .ref u7, .ref u8, .null, .long (-1)])), (h1, .inr (0, [.ref u9, .ref u10, .ref u11, .ref u12, .int 0, .int 0]))] t.heap ∧ va_K (dC, dI) vwCl [] t ∧ va_D (va_A [(h0, .inr (11, [.ref u0, .ref u1, .ref u2, .ref h1, .ref u3, .ref u4, .ref u5, .ref u6, .ref u7, .ref u8, .null, .long (-1)])), (h1, .inr (0, [.ref u9, .ref u10, .ref u11, .ref u12, .int 0, .int 0]))] sz) [(h0, .inr (11, [.ref u0, .ref u1, .ref u2, .ref h1, .ref u3, .ref u4, .ref u5, .ref u6, .ref u7, .ref u8, .null, .long (-1)])), (h1, .inr (0, [.ref u9, .ref u10, .ref u11, .ref u12, .int 0, .int 0]))]) (va_A [(h0, .inr (11, [.ref u0, .ref u1, .ref u2, .ref h1, .ref u3, .ref u4, .ref u5, .ref u6, .ref u7, .ref u8, .null, .long (-1)])), (h1, .inr (0, [.ref u9, .ref u10, .ref u11, .ref u12, .int 0, .int 0]))] sz)) 0 0 (va_A [(h0, .inr (11, [.ref u0, .ref u1, .ref u2, .ref h1, .ref u3, .ref u4, .ref u5, .ref u6, .ref u7, .ref u8, .null, .long (-1)])), (h1, .inr (0, [.ref u9, .ref u10, .ref u11, .ref u12, .int 0, .int 0]))] sz) := by
  refine Met.ofW (cc := cX11_count) (maxL := 2) (ret := (some .int)) (by decide) rfl ?_
  intro p e s m args below meth c s₁ B hml hv
  obtain ⟨rfl, hsz, hP, hK, hD0, hE, hZ⟩ := hv
  have hx := B.exec
  have hb := B.bytes
  have hr := B.returns
  have hG : ∀ w ∈ zG, w.before _ s = true := fun w h => atoms_spec (ws := (zw yX11_count cX11_count 2 (some .int))) B.pre w (List.mem_cons_of_mem _ h)
  have hown : s.vm.findClass RX11 = some m.cls := findClass_of_methodNamed B.named
  have hlocks := B.notSynchronized
  subst hsz
  have hD := hD0.self (sz := s.heap.size)
  generalize hAe : va_A [(h0, .inr (11, [.ref u0, .ref u1, .ref u2, .ref h1, .ref u3, .ref u4, .ref u5, .ref u6, .ref u7, .ref u8, .null, .long (-1)])), (h1, .inr (0, [.ref u9, .ref u10, .ref u11, .ref u12, .int 0, .int 0]))] s.heap.size = A at hD hZ ⊢
  have hA : ∀ q : Nat, s.heap.size ≤ q → A q := fun q h => by rw [← hAe]; exact Or.inr h
  have hS : va_S A s.heap s.heap [] := va_S.rf
  have hl := lv_entry ([.ref h0, .int 0]) (n := 2) (Nat.le_of_ble_eq_true rfl)
  rw [lg_entry_eq]
  generalize (lg_sl ([.ref h0, .int 0]) ++ List.replicate (2 - (lg_sl ([.ref h0, .int 0])).length) Slot.unset).toArray = ls at hl ⊢
  have hl : lv_has ls 2 [(0, .ref h0), (1, .int 0)] := hl
  refine lv_iload_n hx hb dX11_count_0 rfl (lv_at hl 1 rfl) ?_
  refine lv_tableIn (off := 43) (tgt := 44) hx hb dX11_count_1 (by decide) (by decide) (by decide) (by decide) ?_
  refine lv_aload_n hx hb dX11_count_44 rfl (lv_at hl 0 rfl) ?_
  refine va_get (D := (dC, dI)) (ci := 11) (v := .ref h1) (C := RX11) (T := TX11) (N := 12) hx hb hG zuX11 hown hK hP 0 rfl rfl 3 (by decide) (hG _ zw50) (fun _ h9 => h9) rfl dX11_count_45 ?_
  have hPc := hP.sub (ws' := [(h1, .inr (0, [.ref u9, .ref u10, .ref u11, .ref u12, .int 0, .int 0]))]) [1] rfl
  have hDc := hD.sub (ws' := [(h1, .inr (0, [.ref u9, .ref u10, .ref u11, .ref u12, .int 0, .int 0]))]) [1] (by decide) rfl
  have hKc := hK.sub (tys' := []) [] rfl
  have hFc := va_free (wc := [(h1, .inr (0, [.ref u9, .ref u10, .ref u11, .ref u12, .int 0, .int 0]))]) hD hS hA [1] rfl
  refine va_calli (va_runV (As := []) (rest := []) ⟨hx, hb, hml, hown, hG⟩ (kX0_size_0 l dC dI h1 u9 u10 u11 u12 s.heap.size) (cwV 0 hG (zgV zw324 zw325 zw326 zw39 zw327) rfl rfl rfl (by decide +kernel) ⟨Nat.le_of_ble_eq_true rfl, Nat.le_of_ble_eq_true rfl⟩) ⟨zPc_blind, va_recv hKc hPc (ci := 0) (q0 := 0) rfl rfl, zPc_pre hPc hKc hDc hE hS hFc hZ⟩ rfl rfl hl.1 rfl (lv_room (Nat.le_of_ble_eq_true rfl)) dX11_count_48 ⟨Nat.le_of_ble_eq_true rfl, Nat.le_of_ble_eq_true rfl⟩) hS (fun q _ h => hFc q h) hFc (fun r_5249 u t H1 locs ht hvm hw hB hz1 hk1 hS => ?_)
  have hw : r_5249 = 0 := hw
  subst hw
  obtain ⟨hP1, hK1, hD1⟩ := hB
  rw [ht] at hP1
  obtain ⟨hP, hD⟩ := va_join (wr := [(h0, .inr (11, [.ref u0, .ref u1, .ref u2, .ref h1, .ref u3, .ref u4, .ref u5, .ref u6, .ref u7, .ref u8, .null, .long (-1)]))]) (w1 := [(h1, .inr (0, [.ref u9, .ref u10, .ref u11, .ref u12, .int 0, .int 0]))]) hP hD [1] [0] rfl rfl (by decide) (by decide) hk1 hFc hP1 hD1
  generalize H1 = H at hP hS ⊢
  have hP : va_P (dC, dI) vwCl [(h0, .inr (11, [.ref u0, .ref u1, .ref u2, .ref h1, .ref u3, .ref u4, .ref u5, .ref u6, .ref u7, .ref u8, .null, .long (-1)])), (h1, .inr (0, [.ref u9, .ref u10, .ref u11, .ref u12, .int 0, .int 0]))] H := hP
  have hD : va_D A [(h0, .inr (11, [.ref u0, .ref u1, .ref u2, .ref h1, .ref u3, .ref u4, .ref u5, .ref u6, .ref u7, .ref u8, .null, .long (-1)])), (h1, .inr (0, [.ref u9, .ref u10, .ref u11, .ref u12, .int 0, .int 0]))] := hD
  have hP9 := hP.sub (ws' := [(h0, .inr (11, [.ref u0, .ref u1, .ref u2, .ref h1, .ref u3, .ref u4, .ref u5, .ref u6, .ref u7, .ref u8, .null, .long (-1)])), (h1, .inr (0, [.ref u9, .ref u10, .ref u11, .ref u12, .int 0, .int 0]))]) [0, 1] rfl
  have hD9 := hD.sub (ws' := [(h0, .inr (11, [.ref u0, .ref u1, .ref u2, .ref h1, .ref u3, .ref u4, .ref u5, .ref u6, .ref u7, .ref u8, .null, .long (-1)])), (h1, .inr (0, [.ref u9, .ref u10, .ref u11, .ref u12, .int 0, .int 0]))]) [0, 1] (by decide) rfl
  have hK9 := hK.sub (tys' := []) [] rfl
  refine W.widen (k := 0) (n := 0) (by decide) (by decide) ?_
  exact W.iret (v := 0) hx hb hr (fun t ht hW => ⟨⟨0, (), rfl, rfl, by rw [ht]; exact hP9, va_K.moved hW.alike hK9, hD9⟩, hS.F ht⟩) hS.2.2 dX11_count_51
set_option maxHeartbeats 4000000 in
set_option maxRecDepth 100000 in
theorem kX13_count_1 (l : Launch) (dC : Nat → ClassId) (dI : Nat → Nat → Nat) (h0 u0 u1 u2 u3 u4 u5 u6 u7 u8 u9 u10 u11 u12 u13 u14 u15 u16 u17 u18 u19 u20 u21 u22 u23 u24 u25 u26 u27 u28 u29 u30 u31 u32 u33 u34 u35 u36 u37 u38 u39 u40 u41 u42 u43 u44 u45 u46 u47 u48 : Nat) (sz : Nat) : Met l yX13_count (zw yX13_count cX13_count 2 (some .int)) { frames := 0, cells := 0, slots := 0, locals := 0 } (zPc dC dI [.ref h0, .int 0] sz [(h0, .inr (13, [.ref u0, .int 0, .ref u1, .ref u2, .int 0, .ref u3, .ref u4, .ref u5, .ref u6, .ref u7, .ref u8, .ref u9, .ref u10, .int 0, .ref u11, .ref u12, .int 0, .ref u13, .int (-1), .ref u14, .int 0, .int 0, .ref u15, .int 0, .int 0, .ref u16, .ref u17, .ref u18, .ref u19, .ref u20, .int 0, .ref u21, .int 0, .int 0, .int 0, .int 0, .int 0, .int 0, .ref u22, .ref u23, .ref u24, .ref u25, .int 0, .ref u26, .ref u27, .ref u28, .ref u29, .int 0, .ref u30, .ref u31, .int 0, .int 0, .ref u32, .int 0, .int 0, .int 0, .ref u33, .ref u34, .ref u35, .int 0, .int 0, .ref u36, .ref u37, .ref u38, .ref u39, .ref u40, .ref u41, .ref u42, .ref u43, .ref u44, .ref u45, .int 0, .ref u46, .ref u47, .ref u48]))] []) (va_Qi (fun (r : Int32) (_ : Unit) => r = 0) (fun (_ : Unit) (t : State) => va_P (dC, dI) vwCl [(h0, .inr (13, [.ref u0, .int 0, .ref u1, .ref u2, .int 0, .ref u3, .ref u4, .ref u5, .ref u6, .ref u7, .ref u8, .ref u9, .ref u10, .int 0, .ref u11, .ref u12, .int 0, .ref u13, .int (-1), .ref u14, .int 0, .int 0, .ref u15, .int 0, .int 0, .ref u16, .ref u17, .ref u18, .ref u19, .ref u20, .int 0, .ref u21, .int 0, .int 0, .int 0, .int 0, .int 0, .int 0, .ref u22, .ref u23, .ref u24, .ref u25, .int 0, .ref u26, .ref u27, .ref u28, .ref u29, .int 0, .ref u30, .ref u31, .int 0, .int 0, .ref u32, .int 0, .int 0, .int 0, .ref u33, .ref u34, .ref u35, .int 0, .int 0, .ref u36, .ref u37, .ref u38, .ref u39, .ref u40, .ref u41, .ref u42, .ref u43, .ref u44, .ref u45, .int 0, .ref u46, .ref u47, .ref u48]))] t.heap ∧ va_K (dC, dI) vwCl [] t ∧ va_D (va_A [(h0, .inr (13, [.ref u0, .int 0, .ref u1, .ref u2, .int 0, .ref u3, .ref u4, .ref u5, .ref u6, .ref u7, .ref u8, .ref u9, .ref u10, .int 0, .ref u11, .ref u12, .int 0, .ref u13, .int (-1), .ref u14, .int 0, .int 0, .ref u15, .int 0, .int 0, .ref u16, .ref u17, .ref u18, .ref u19, .ref u20, .int 0, .ref u21, .int 0, .int 0, .int 0, .int 0, .int 0, .int 0, .ref u22, .ref u23, .ref u24, .ref u25, .int 0, .ref u26, .ref u27, .ref u28, .ref u29, .int 0, .ref u30, .ref u31, .int 0, .int 0, .ref u32, .int 0, .int 0, .int 0, .ref u33, .ref u34, .ref u35, .int 0, .int 0, .ref u36, .ref u37, .ref u38, .ref u39, .ref u40, .ref u41, .ref u42, .ref u43, .ref u44, .ref u45, .int 0, .ref u46, .ref u47, .ref u48]))] sz) [(h0, .inr (13, [.ref u0, .int 0, .ref u1, .ref u2, .int 0, .ref u3, .ref u4, .ref u5, .ref u6, .ref u7, .ref u8, .ref u9, .ref u10, .int 0, .ref u11, .ref u12, .int 0, .ref u13, .int (-1), .ref u14, .int 0, .int 0, .ref u15, .int 0, .int 0, .ref u16, .ref u17, .ref u18, .ref u19, .ref u20, .int 0, .ref u21, .int 0, .int 0, .int 0, .int 0, .int 0, .int 0, .ref u22, .ref u23, .ref u24, .ref u25, .int 0, .ref u26, .ref u27, .ref u28, .ref u29, .int 0, .ref u30, .ref u31, .int 0, .int 0, .ref u32, .int 0, .int 0, .int 0, .ref u33, .ref u34, .ref u35, .int 0, .int 0, .ref u36, .ref u37, .ref u38, .ref u39, .ref u40, .ref u41, .ref u42, .ref u43, .ref u44, .ref u45, .int 0, .ref u46, .ref u47, .ref u48]))]) (va_A [(h0, .inr (13, [.ref u0, .int 0, .ref u1, .ref u2, .int 0, .ref u3, .ref u4, .ref u5, .ref u6, .ref u7, .ref u8, .ref u9, .ref u10, .int 0, .ref u11, .ref u12, .int 0, .ref u13, .int (-1), .ref u14, .int 0, .int 0, .ref u15, .int 0, .int 0, .ref u16, .ref u17, .ref u18, .ref u19, .ref u20, .int 0, .ref u21, .int 0, .int 0, .int 0, .int 0, .int 0, .int 0, .ref u22, .ref u23, .ref u24, .ref u25, .int 0, .ref u26, .ref u27, .ref u28, .ref u29, .int 0, .ref u30, .ref u31, .int 0, .int 0, .ref u32, .int 0, .int 0, .int 0, .ref u33, .ref u34, .ref u35, .int 0, .int 0, .ref u36, .ref u37, .ref u38, .ref u39, .ref u40, .ref u41, .ref u42, .ref u43, .ref u44, .ref u45, .int 0, .ref u46, .ref u47, .ref u48]))] sz)) 0 0 (va_A [(h0, .inr (13, [.ref u0, .int 0, .ref u1, .ref u2, .int 0, .ref u3, .ref u4, .ref u5, .ref u6, .ref u7, .ref u8, .ref u9, .ref u10, .int 0, .ref u11, .ref u12, .int 0, .ref u13, .int (-1), .ref u14, .int 0, .int 0, .ref u15, .int 0, .int 0, .ref u16, .ref u17, .ref u18, .ref u19, .ref u20, .int 0, .ref u21, .int 0, .int 0, .int 0, .int 0, .int 0, .int 0, .ref u22, .ref u23, .ref u24, .ref u25, .int 0, .ref u26, .ref u27, .ref u28, .ref u29, .int 0, .ref u30, .ref u31, .int 0, .int 0, .ref u32, .int 0, .int 0, .int 0, .ref u33, .ref u34, .ref u35, .int 0, .int 0, .ref u36, .ref u37, .ref u38, .ref u39, .ref u40, .ref u41, .ref u42, .ref u43, .ref u44, .ref u45, .int 0, .ref u46, .ref u47, .ref u48]))] sz) := by
  refine Met.ofW (cc := cX13_count) (maxL := 2) (ret := (some .int)) (by decide) rfl ?_
  intro p e s m args below meth c s₁ B hml hv
  obtain ⟨rfl, hsz, hP, hK, hD0, hE, hZ⟩ := hv
  have hx := B.exec
  have hb := B.bytes
  have hr := B.returns
  have hG : ∀ w ∈ zG, w.before _ s = true := fun w h => atoms_spec (ws := (zw yX13_count cX13_count 2 (some .int))) B.pre w (List.mem_cons_of_mem _ h)
  have hown : s.vm.findClass RX13 = some m.cls := findClass_of_methodNamed B.named
  have hlocks := B.notSynchronized
  subst hsz
  have hD := hD0.self (sz := s.heap.size)
  generalize hAe : va_A [(h0, .inr (13, [.ref u0, .int 0, .ref u1, .ref u2, .int 0, .ref u3, .ref u4, .ref u5, .ref u6, .ref u7, .ref u8, .ref u9, .ref u10, .int 0, .ref u11, .ref u12, .int 0, .ref u13, .int (-1), .ref u14, .int 0, .int 0, .ref u15, .int 0, .int 0, .ref u16, .ref u17, .ref u18, .ref u19, .ref u20, .int 0, .ref u21, .int 0, .int 0, .int 0, .int 0, .int 0, .int 0, .ref u22, .ref u23, .ref u24, .ref u25, .int 0, .ref u26, .ref u27, .ref u28, .ref u29, .int 0, .ref u30, .ref u31, .int 0, .int 0, .ref u32, .int 0, .int 0, .int 0, .ref u33, .ref u34, .ref u35, .int 0, .int 0, .ref u36, .ref u37, .ref u38, .ref u39, .ref u40, .ref u41, .ref u42, .ref u43, .ref u44, .ref u45, .int 0, .ref u46, .ref u47, .ref u48]))] s.heap.size = A at hD hZ ⊢
  have hA : ∀ q : Nat, s.heap.size ≤ q → A q := fun q h => by rw [← hAe]; exact Or.inr h
  have hS : va_S A s.heap s.heap [] := va_S.rf
  have hl := lv_entry ([.ref h0, .int 0]) (n := 2) (Nat.le_of_ble_eq_true rfl)
  rw [lg_entry_eq]
  generalize (lg_sl ([.ref h0, .int 0]) ++ List.replicate (2 - (lg_sl ([.ref h0, .int 0])).length) Slot.unset).toArray = ls at hl ⊢
  have hl : lv_has ls 2 [(0, .ref h0), (1, .int 0)] := hl
  refine lv_aload_n hx hb dX13_count_0 rfl (lv_at hl 0 rfl) ?_
  refine lv_iconst (v := 0) hx hb dX13_count_1 (by decide) ?_
  refine va_put (D := (dC, dI)) (ci := 13) (v := .int 0) (ty := .int) (C := RX13) (T := TX13) (N := 75) hx hb hG zuX13 tyX13 tyX13_ok nmX13 hown hK hP hD hS 0 rfl rfl 21 (by decide) (hG _ zw302) (fun _ h9 => h9) rfl (by decide +kernel) rfl rfl (Nat.le_of_ble_eq_true rfl) dX13_count_2 (fun H locs hP hD hS => ?_)
  have hP : va_P (dC, dI) vwCl [(h0, .inr (13, [.ref u0, .int 0, .ref u1, .ref u2, .int 0, .ref u3, .ref u4, .ref u5, .ref u6, .ref u7, .ref u8, .ref u9, .ref u10, .int 0, .ref u11, .ref u12, .int 0, .ref u13, .int (-1), .ref u14, .int 0, .int 0, .ref u15, .int 0, .int 0, .ref u16, .ref u17, .ref u18, .ref u19, .ref u20, .int 0, .ref u21, .int 0, .int 0, .int 0, .int 0, .int 0, .int 0, .ref u22, .ref u23, .ref u24, .ref u25, .int 0, .ref u26, .ref u27, .ref u28, .ref u29, .int 0, .ref u30, .ref u31, .int 0, .int 0, .ref u32, .int 0, .int 0, .int 0, .ref u33, .ref u34, .ref u35, .int 0, .int 0, .ref u36, .ref u37, .ref u38, .ref u39, .ref u40, .ref u41, .ref u42, .ref u43, .ref u44, .ref u45, .int 0, .ref u46, .ref u47, .ref u48]))] H := hP
  have hD : va_D A [(h0, .inr (13, [.ref u0, .int 0, .ref u1, .ref u2, .int 0, .ref u3, .ref u4, .ref u5, .ref u6, .ref u7, .ref u8, .ref u9, .ref u10, .int 0, .ref u11, .ref u12, .int 0, .ref u13, .int (-1), .ref u14, .int 0, .int 0, .ref u15, .int 0, .int 0, .ref u16, .ref u17, .ref u18, .ref u19, .ref u20, .int 0, .ref u21, .int 0, .int 0, .int 0, .int 0, .int 0, .int 0, .ref u22, .ref u23, .ref u24, .ref u25, .int 0, .ref u26, .ref u27, .ref u28, .ref u29, .int 0, .ref u30, .ref u31, .int 0, .int 0, .ref u32, .int 0, .int 0, .int 0, .ref u33, .ref u34, .ref u35, .int 0, .int 0, .ref u36, .ref u37, .ref u38, .ref u39, .ref u40, .ref u41, .ref u42, .ref u43, .ref u44, .ref u45, .int 0, .ref u46, .ref u47, .ref u48]))] := hD
  refine lv_iload_n hx hb dX13_count_5 rfl (lv_at hl 1 rfl) ?_
  refine lv_tableIn (off := 42) (tgt := 48) hx hb dX13_count_6 (by decide) (by decide) (by decide) (by decide) ?_
  refine lv_aload_n hx hb dX13_count_48 rfl (lv_at hl 0 rfl) ?_
  refine va_get (D := (dC, dI)) (ci := 13) (v := .int 0) (C := RX13) (T := TX13) (N := 75) hx hb hG zuX13 hown hK hP 0 rfl rfl 13 (by decide) (hG _ zw375) (fun _ h9 => h9) rfl dX13_count_49 ?_
  have hP9 := hP.sub (ws' := [(h0, .inr (13, [.ref u0, .int 0, .ref u1, .ref u2, .int 0, .ref u3, .ref u4, .ref u5, .ref u6, .ref u7, .ref u8, .ref u9, .ref u10, .int 0, .ref u11, .ref u12, .int 0, .ref u13, .int (-1), .ref u14, .int 0, .int 0, .ref u15, .int 0, .int 0, .ref u16, .ref u17, .ref u18, .ref u19, .ref u20, .int 0, .ref u21, .int 0, .int 0, .int 0, .int 0, .int 0, .int 0, .ref u22, .ref u23, .ref u24, .ref u25, .int 0, .ref u26, .ref u27, .ref u28, .ref u29, .int 0, .ref u30, .ref u31, .int 0, .int 0, .ref u32, .int 0, .int 0, .int 0, .ref u33, .ref u34, .ref u35, .int 0, .int 0, .ref u36, .ref u37, .ref u38, .ref u39, .ref u40, .ref u41, .ref u42, .ref u43, .ref u44, .ref u45, .int 0, .ref u46, .ref u47, .ref u48]))]) [0] rfl
  have hD9 := hD.sub (ws' := [(h0, .inr (13, [.ref u0, .int 0, .ref u1, .ref u2, .int 0, .ref u3, .ref u4, .ref u5, .ref u6, .ref u7, .ref u8, .ref u9, .ref u10, .int 0, .ref u11, .ref u12, .int 0, .ref u13, .int (-1), .ref u14, .int 0, .int 0, .ref u15, .int 0, .int 0, .ref u16, .ref u17, .ref u18, .ref u19, .ref u20, .int 0, .ref u21, .int 0, .int 0, .int 0, .int 0, .int 0, .int 0, .ref u22, .ref u23, .ref u24, .ref u25, .int 0, .ref u26, .ref u27, .ref u28, .ref u29, .int 0, .ref u30, .ref u31, .int 0, .int 0, .ref u32, .int 0, .int 0, .int 0, .ref u33, .ref u34, .ref u35, .int 0, .int 0, .ref u36, .ref u37, .ref u38, .ref u39, .ref u40, .ref u41, .ref u42, .ref u43, .ref u44, .ref u45, .int 0, .ref u46, .ref u47, .ref u48]))]) [0] (by decide) rfl
  have hK9 := hK.sub (tys' := []) [] rfl
  refine W.widen (k := 0) (n := 0) (by decide) (by decide) ?_
  exact W.iret (v := 0) hx hb hr (fun t ht hW => ⟨⟨0, (), rfl, rfl, by rw [ht]; exact hP9, va_K.moved hW.alike hK9, hD9⟩, hS.F ht⟩) hS.2.2 dX13_count_52
set_option maxHeartbeats 4000000 in
set_option maxRecDepth 100000 in
theorem kX0_onShelf_0 (l : Launch) (dC : Nat → ClassId) (dI : Nat → Nat → Nat) (h0 u0 u1 u2 u3 : Nat) (sz : Nat) : Met l yX0_onShelf (zw yX0_onShelf cX0_onShelf 1 (some .int)) { frames := 0, cells := 0, slots := 0, locals := 0 } (zPc dC dI [.ref h0] sz [(h0, .inr (0, [.ref u0, .ref u1, .ref u2, .ref u3, .int 0, .int 0]))] []) (va_Qi (fun (r : Int32) (_ : Unit) => r = 0) (fun (_ : Unit) (t : State) => va_P (dC, dI) vwCl [(h0, .inr (0, [.ref u0, .ref u1, .ref u2, .ref u3, .int 0, .int 0]))] t.heap ∧ va_K (dC, dI) vwCl [] t ∧ va_D (va_A [(h0, .inr (0, [.ref u0, .ref u1, .ref u2, .ref u3, .int 0, .int 0]))] sz) [(h0, .inr (0, [.ref u0, .ref u1, .ref u2, .ref u3, .int 0, .int 0]))]) (va_A [(h0, .inr (0, [.ref u0, .ref u1, .ref u2, .ref u3, .int 0, .int 0]))] sz)) 0 0 (va_A [(h0, .inr (0, [.ref u0, .ref u1, .ref u2, .ref u3, .int 0, .int 0]))] sz) := by
  refine Met.ofW (cc := cX0_onShelf) (maxL := 1) (ret := (some .int)) (by decide) rfl ?_
  intro p e s m args below meth c s₁ B hml hv
  obtain ⟨rfl, hsz, hP, hK, hD0, hE, hZ⟩ := hv
  have hx := B.exec
  have hb := B.bytes
  have hr := B.returns
  have hG : ∀ w ∈ zG, w.before _ s = true := fun w h => atoms_spec (ws := (zw yX0_onShelf cX0_onShelf 1 (some .int))) B.pre w (List.mem_cons_of_mem _ h)
  have hown : s.vm.findClass RX0 = some m.cls := findClass_of_methodNamed B.named
  have hlocks := B.notSynchronized
  subst hsz
  have hD := hD0.self (sz := s.heap.size)
  generalize hAe : va_A [(h0, .inr (0, [.ref u0, .ref u1, .ref u2, .ref u3, .int 0, .int 0]))] s.heap.size = A at hD hZ ⊢
  have hA : ∀ q : Nat, s.heap.size ≤ q → A q := fun q h => by rw [← hAe]; exact Or.inr h
  have hS : va_S A s.heap s.heap [] := va_S.rf
  have hl := lv_entry ([.ref h0]) (n := 1) (Nat.le_of_ble_eq_true rfl)
  rw [lg_entry_eq]
  generalize (lg_sl ([.ref h0]) ++ List.replicate (1 - (lg_sl ([.ref h0])).length) Slot.unset).toArray = ls at hl ⊢
  have hl : lv_has ls 1 [(0, .ref h0)] := hl
  refine lv_aload_n hx hb dX0_onShelf_0 rfl (lv_at hl 0 rfl) ?_
  refine va_get (D := (dC, dI)) (ci := 0) (v := .int 0) (C := RX0) (T := TX0) (N := 6) hx hb hG zuX0 hown hK hP 0 rfl rfl 5 (by decide) (hG _ zw47) (fun _ h9 => h9) rfl dX0_onShelf_1 ?_
  have hP9 := hP.sub (ws' := [(h0, .inr (0, [.ref u0, .ref u1, .ref u2, .ref u3, .int 0, .int 0]))]) [0] rfl
  have hD9 := hD.sub (ws' := [(h0, .inr (0, [.ref u0, .ref u1, .ref u2, .ref u3, .int 0, .int 0]))]) [0] (by decide) rfl
  have hK9 := hK.sub (tys' := []) [] rfl
  refine W.widen (k := 0) (n := 0) (by decide) (by decide) ?_
  exact W.iret (v := 0) hx hb hr (fun t ht hW => ⟨⟨0, (), rfl, rfl, by rw [ht]; exact hP9, va_K.moved hW.alike hK9, hD9⟩, hS.F ht⟩) hS.2.2 dX0_onShelf_4
set_option maxHeartbeats 4000000 in
set_option maxRecDepth 100000 in
theorem kX11_count_2 (l : Launch) (dC : Nat → ClassId) (dI : Nat → Nat → Nat) (h0 h1 u0 u1 u2 u3 u4 u5 u6 u7 u8 u9 u10 u11 u12 : Nat) (sz : Nat) : Met l yX11_count (zw yX11_count cX11_count 2 (some .int)) { frames := 1, cells := 0, slots := 0, locals := 20 } (zPc dC dI [.ref h0, .int 1] sz [(h0, .inr (11, [.ref u0, .ref u1, .ref u2, .ref h1, .ref u3, .ref u4, .ref u5, .ref u6, .ref u7, .ref u8, .null, .long (-1)])), (h1, .inr (0, [.ref u9, .ref u10, .ref u11, .ref u12, .int 0, .int 0]))] []) (va_Qi (fun (r : Int32) (_ : Unit) => r = 0) (fun (_ : Unit) (t : State) => va_P (dC, dI) vwCl [(h0, .inr (11, [.ref u0, .ref u1, .ref u2, .ref h1, .ref u3, .ref u4, .ref u5, .ref u6, .ref u7, .ref u8, .null, .long (-1)])), (h1, .inr (0, [.ref u9, .ref u10, .ref u11, .ref u12, .int 0, .int 0]))] t.heap ∧ va_K (dC, dI) vwCl [] t ∧ va_D (va_A [(h0, .inr (11, [.ref u0, .ref u1, .ref u2, .ref h1, .ref u3, .ref u4, .ref u5, .ref u6, .ref u7, .ref u8, .null, .long (-1)])), (h1, .inr (0, [.ref u9, .ref u10, .ref u11, .ref u12, .int 0, .int 0]))] sz) [(h0, .inr (11, [.ref u0, .ref u1, .ref u2, .ref h1, .ref u3, .ref u4, .ref u5, .ref u6, .ref u7, .ref u8, .null, .long (-1)])), (h1, .inr (0, [.ref u9, .ref u10, .ref u11, .ref u12, .int 0, .int 0]))]) (va_A [(h0, .inr (11, [.ref u0, .ref u1, .ref u2, .ref h1, .ref u3, .ref u4, .ref u5, .ref u6, .ref u7, .ref u8, .null, .long (-1)])), (h1, .inr (0, [.ref u9, .ref u10, .ref u11, .ref u12, .int 0, .int 0]))] sz)) 0 0 (va_A [(h0, .inr (11, [.ref u0, .ref u1, .ref u2, .ref h1, .ref u3, .ref u4, .ref u5, .ref u6, .ref u7, .ref u8, .null, .long (-1)])), (h1, .inr (0, [.ref u9, .ref u10, .ref u11, .ref u12, .int 0, .int 0]))] sz) := by
  refine Met.ofW (cc := cX11_count) (maxL := 2) (ret := (some .int)) (by decide) rfl ?_
  intro p e s m args below meth c s₁ B hml hv
  obtain ⟨rfl, hsz, hP, hK, hD0, hE, hZ⟩ := hv
  have hx := B.exec
  have hb := B.bytes
  have hr := B.returns
  have hG : ∀ w ∈ zG, w.before _ s = true := fun w h => atoms_spec (ws := (zw yX11_count cX11_count 2 (some .int))) B.pre w (List.mem_cons_of_mem _ h)
  have hown : s.vm.findClass RX11 = some m.cls := findClass_of_methodNamed B.named
  have hlocks := B.notSynchronized
  subst hsz
  have hD := hD0.self (sz := s.heap.size)
  generalize hAe : va_A [(h0, .inr (11, [.ref u0, .ref u1, .ref u2, .ref h1, .ref u3, .ref u4, .ref u5, .ref u6, .ref u7, .ref u8, .null, .long (-1)])), (h1, .inr (0, [.ref u9, .ref u10, .ref u11, .ref u12, .int 0, .int 0]))] s.heap.size = A at hD hZ ⊢
  have hA : ∀ q : Nat, s.heap.size ≤ q → A q := fun q h => by rw [← hAe]; exact Or.inr h
  have hS : va_S A s.heap s.heap [] := va_S.rf
  have hl := lv_entry ([.ref h0, .int 1]) (n := 2) (Nat.le_of_ble_eq_true rfl)
  rw [lg_entry_eq]
  generalize (lg_sl ([.ref h0, .int 1]) ++ List.replicate (2 - (lg_sl ([.ref h0, .int 1])).length) Slot.unset).toArray = ls at hl ⊢
  have hl : lv_has ls 2 [(0, .ref h0), (1, .int 1)] := hl
  refine lv_iload_n hx hb dX11_count_0 rfl (lv_at hl 1 rfl) ?_
  refine lv_tableIn (off := 51) (tgt := 52) hx hb dX11_count_1 (by decide) (by decide) (by decide) (by decide) ?_
  refine lv_aload_n hx hb dX11_count_52 rfl (lv_at hl 0 rfl) ?_
  refine va_get (D := (dC, dI)) (ci := 11) (v := .ref h1) (C := RX11) (T := TX11) (N := 12) hx hb hG zuX11 hown hK hP 0 rfl rfl 3 (by decide) (hG _ zw50) (fun _ h9 => h9) rfl dX11_count_53 ?_
  have hPc := hP.sub (ws' := [(h1, .inr (0, [.ref u9, .ref u10, .ref u11, .ref u12, .int 0, .int 0]))]) [1] rfl
  have hDc := hD.sub (ws' := [(h1, .inr (0, [.ref u9, .ref u10, .ref u11, .ref u12, .int 0, .int 0]))]) [1] (by decide) rfl
  have hKc := hK.sub (tys' := []) [] rfl
  have hFc := va_free (wc := [(h1, .inr (0, [.ref u9, .ref u10, .ref u11, .ref u12, .int 0, .int 0]))]) hD hS hA [1] rfl
  refine va_calli (va_runV (As := []) (rest := []) ⟨hx, hb, hml, hown, hG⟩ (kX0_onShelf_0 l dC dI h1 u9 u10 u11 u12 s.heap.size) (cwV 0 hG (zgV zw578 zw579 zw580 zw39 zw581) rfl rfl rfl (by decide +kernel) ⟨Nat.le_of_ble_eq_true rfl, Nat.le_of_ble_eq_true rfl⟩) ⟨zPc_blind, va_recv hKc hPc (ci := 0) (q0 := 0) rfl rfl, zPc_pre hPc hKc hDc hE hS hFc hZ⟩ rfl rfl hl.1 rfl (lv_room (Nat.le_of_ble_eq_true rfl)) dX11_count_56 ⟨Nat.le_of_ble_eq_true rfl, Nat.le_of_ble_eq_true rfl⟩) hS (fun q _ h => hFc q h) hFc (fun r_5265 u t H1 locs ht hvm hw hB hz1 hk1 hS => ?_)
  have hw : r_5265 = 0 := hw
  subst hw
  obtain ⟨hP1, hK1, hD1⟩ := hB
  rw [ht] at hP1
  obtain ⟨hP, hD⟩ := va_join (wr := [(h0, .inr (11, [.ref u0, .ref u1, .ref u2, .ref h1, .ref u3, .ref u4, .ref u5, .ref u6, .ref u7, .ref u8, .null, .long (-1)]))]) (w1 := [(h1, .inr (0, [.ref u9, .ref u10, .ref u11, .ref u12, .int 0, .int 0]))]) hP hD [1] [0] rfl rfl (by decide) (by decide) hk1 hFc hP1 hD1
  generalize H1 = H at hP hS ⊢
  have hP : va_P (dC, dI) vwCl [(h0, .inr (11, [.ref u0, .ref u1, .ref u2, .ref h1, .ref u3, .ref u4, .ref u5, .ref u6, .ref u7, .ref u8, .null, .long (-1)])), (h1, .inr (0, [.ref u9, .ref u10, .ref u11, .ref u12, .int 0, .int 0]))] H := hP
  have hD : va_D A [(h0, .inr (11, [.ref u0, .ref u1, .ref u2, .ref h1, .ref u3, .ref u4, .ref u5, .ref u6, .ref u7, .ref u8, .null, .long (-1)])), (h1, .inr (0, [.ref u9, .ref u10, .ref u11, .ref u12, .int 0, .int 0]))] := hD
  have hP9 := hP.sub (ws' := [(h0, .inr (11, [.ref u0, .ref u1, .ref u2, .ref h1, .ref u3, .ref u4, .ref u5, .ref u6, .ref u7, .ref u8, .null, .long (-1)])), (h1, .inr (0, [.ref u9, .ref u10, .ref u11, .ref u12, .int 0, .int 0]))]) [0, 1] rfl
  have hD9 := hD.sub (ws' := [(h0, .inr (11, [.ref u0, .ref u1, .ref u2, .ref h1, .ref u3, .ref u4, .ref u5, .ref u6, .ref u7, .ref u8, .null, .long (-1)])), (h1, .inr (0, [.ref u9, .ref u10, .ref u11, .ref u12, .int 0, .int 0]))]) [0, 1] (by decide) rfl
  have hK9 := hK.sub (tys' := []) [] rfl
  refine W.widen (k := 0) (n := 0) (by decide) (by decide) ?_
  exact W.iret (v := 0) hx hb hr (fun t ht hW => ⟨⟨0, (), rfl, rfl, by rw [ht]; exact hP9, va_K.moved hW.alike hK9, hD9⟩, hS.F ht⟩) hS.2.2 dX11_count_59
set_option maxHeartbeats 4000000 in
set_option maxRecDepth 100000 in
theorem kX13_standing_0 (l : Launch) (dC : Nat → ClassId) (dI : Nat → Nat → Nat) (h0 u0 u1 u2 u3 u4 u5 u6 u7 u8 u9 u10 u11 u12 u13 u14 u15 u16 u17 u18 u19 u20 u21 u22 u23 u24 u25 u26 u27 u28 u29 u30 u31 u32 u33 u34 u35 u36 u37 u38 u39 u40 u41 u42 u43 u44 u45 u46 u47 u48 : Nat) (sz : Nat) : Met l yX13_standing (zw yX13_standing cX13_standing 3 (some .int)) { frames := 0, cells := 0, slots := 0, locals := 0 } (zPc dC dI [.ref h0] sz [(h0, .inr (13, [.ref u0, .int 0, .ref u1, .ref u2, .int 0, .ref u3, .ref u4, .ref u5, .ref u6, .ref u7, .ref u8, .ref u9, .ref u10, .int 0, .ref u11, .ref u12, .int 0, .ref u13, .int (-1), .ref u14, .int 0, .int 0, .ref u15, .int 0, .int 0, .ref u16, .ref u17, .ref u18, .ref u19, .ref u20, .int 0, .ref u21, .int 0, .int 0, .int 0, .int 0, .int 0, .int 0, .ref u22, .ref u23, .ref u24, .ref u25, .int 0, .ref u26, .ref u27, .ref u28, .ref u29, .int 0, .ref u30, .ref u31, .int 0, .int 0, .ref u32, .int 0, .int 0, .int 0, .ref u33, .ref u34, .ref u35, .int 0, .int 0, .ref u36, .ref u37, .ref u38, .ref u39, .ref u40, .ref u41, .ref u42, .ref u43, .ref u44, .ref u45, .int 0, .ref u46, .ref u47, .ref u48]))] []) (va_Qi (fun (r : Int32) (_ : Unit) => r = 0) (fun (_ : Unit) (t : State) => va_P (dC, dI) vwCl [(h0, .inr (13, [.ref u0, .int 0, .ref u1, .ref u2, .int 0, .ref u3, .ref u4, .ref u5, .ref u6, .ref u7, .ref u8, .ref u9, .ref u10, .int 0, .ref u11, .ref u12, .int 0, .ref u13, .int (-1), .ref u14, .int 0, .int 0, .ref u15, .int 0, .int 0, .ref u16, .ref u17, .ref u18, .ref u19, .ref u20, .int 0, .ref u21, .int 0, .int 0, .int 0, .int 0, .int 0, .int 0, .ref u22, .ref u23, .ref u24, .ref u25, .int 0, .ref u26, .ref u27, .ref u28, .ref u29, .int 0, .ref u30, .ref u31, .int 0, .int 0, .ref u32, .int 0, .int 0, .int 0, .ref u33, .ref u34, .ref u35, .int 0, .int 0, .ref u36, .ref u37, .ref u38, .ref u39, .ref u40, .ref u41, .ref u42, .ref u43, .ref u44, .ref u45, .int 0, .ref u46, .ref u47, .ref u48]))] t.heap ∧ va_K (dC, dI) vwCl [] t ∧ va_D (va_A [(h0, .inr (13, [.ref u0, .int 0, .ref u1, .ref u2, .int 0, .ref u3, .ref u4, .ref u5, .ref u6, .ref u7, .ref u8, .ref u9, .ref u10, .int 0, .ref u11, .ref u12, .int 0, .ref u13, .int (-1), .ref u14, .int 0, .int 0, .ref u15, .int 0, .int 0, .ref u16, .ref u17, .ref u18, .ref u19, .ref u20, .int 0, .ref u21, .int 0, .int 0, .int 0, .int 0, .int 0, .int 0, .ref u22, .ref u23, .ref u24, .ref u25, .int 0, .ref u26, .ref u27, .ref u28, .ref u29, .int 0, .ref u30, .ref u31, .int 0, .int 0, .ref u32, .int 0, .int 0, .int 0, .ref u33, .ref u34, .ref u35, .int 0, .int 0, .ref u36, .ref u37, .ref u38, .ref u39, .ref u40, .ref u41, .ref u42, .ref u43, .ref u44, .ref u45, .int 0, .ref u46, .ref u47, .ref u48]))] sz) [(h0, .inr (13, [.ref u0, .int 0, .ref u1, .ref u2, .int 0, .ref u3, .ref u4, .ref u5, .ref u6, .ref u7, .ref u8, .ref u9, .ref u10, .int 0, .ref u11, .ref u12, .int 0, .ref u13, .int (-1), .ref u14, .int 0, .int 0, .ref u15, .int 0, .int 0, .ref u16, .ref u17, .ref u18, .ref u19, .ref u20, .int 0, .ref u21, .int 0, .int 0, .int 0, .int 0, .int 0, .int 0, .ref u22, .ref u23, .ref u24, .ref u25, .int 0, .ref u26, .ref u27, .ref u28, .ref u29, .int 0, .ref u30, .ref u31, .int 0, .int 0, .ref u32, .int 0, .int 0, .int 0, .ref u33, .ref u34, .ref u35, .int 0, .int 0, .ref u36, .ref u37, .ref u38, .ref u39, .ref u40, .ref u41, .ref u42, .ref u43, .ref u44, .ref u45, .int 0, .ref u46, .ref u47, .ref u48]))]) (va_A [(h0, .inr (13, [.ref u0, .int 0, .ref u1, .ref u2, .int 0, .ref u3, .ref u4, .ref u5, .ref u6, .ref u7, .ref u8, .ref u9, .ref u10, .int 0, .ref u11, .ref u12, .int 0, .ref u13, .int (-1), .ref u14, .int 0, .int 0, .ref u15, .int 0, .int 0, .ref u16, .ref u17, .ref u18, .ref u19, .ref u20, .int 0, .ref u21, .int 0, .int 0, .int 0, .int 0, .int 0, .int 0, .ref u22, .ref u23, .ref u24, .ref u25, .int 0, .ref u26, .ref u27, .ref u28, .ref u29, .int 0, .ref u30, .ref u31, .int 0, .int 0, .ref u32, .int 0, .int 0, .int 0, .ref u33, .ref u34, .ref u35, .int 0, .int 0, .ref u36, .ref u37, .ref u38, .ref u39, .ref u40, .ref u41, .ref u42, .ref u43, .ref u44, .ref u45, .int 0, .ref u46, .ref u47, .ref u48]))] sz)) 0 0 (va_A [(h0, .inr (13, [.ref u0, .int 0, .ref u1, .ref u2, .int 0, .ref u3, .ref u4, .ref u5, .ref u6, .ref u7, .ref u8, .ref u9, .ref u10, .int 0, .ref u11, .ref u12, .int 0, .ref u13, .int (-1), .ref u14, .int 0, .int 0, .ref u15, .int 0, .int 0, .ref u16, .ref u17, .ref u18, .ref u19, .ref u20, .int 0, .ref u21, .int 0, .int 0, .int 0, .int 0, .int 0, .int 0, .ref u22, .ref u23, .ref u24, .ref u25, .int 0, .ref u26, .ref u27, .ref u28, .ref u29, .int 0, .ref u30, .ref u31, .int 0, .int 0, .ref u32, .int 0, .int 0, .int 0, .ref u33, .ref u34, .ref u35, .int 0, .int 0, .ref u36, .ref u37, .ref u38, .ref u39, .ref u40, .ref u41, .ref u42, .ref u43, .ref u44, .ref u45, .int 0, .ref u46, .ref u47, .ref u48]))] sz) := by
  refine Met.ofW (cc := cX13_standing) (maxL := 3) (ret := (some .int)) (by decide) rfl ?_
  intro p e s m args below meth c s₁ B hml hv
  obtain ⟨rfl, hsz, hP, hK, hD0, hE, hZ⟩ := hv
  have hx := B.exec
  have hb := B.bytes
  have hr := B.returns
  have hG : ∀ w ∈ zG, w.before _ s = true := fun w h => atoms_spec (ws := (zw yX13_standing cX13_standing 3 (some .int))) B.pre w (List.mem_cons_of_mem _ h)
  have hown : s.vm.findClass RX13 = some m.cls := findClass_of_methodNamed B.named
  have hlocks := B.notSynchronized
  subst hsz
  have hD := hD0.self (sz := s.heap.size)
  generalize hAe : va_A [(h0, .inr (13, [.ref u0, .int 0, .ref u1, .ref u2, .int 0, .ref u3, .ref u4, .ref u5, .ref u6, .ref u7, .ref u8, .ref u9, .ref u10, .int 0, .ref u11, .ref u12, .int 0, .ref u13, .int (-1), .ref u14, .int 0, .int 0, .ref u15, .int 0, .int 0, .ref u16, .ref u17, .ref u18, .ref u19, .ref u20, .int 0, .ref u21, .int 0, .int 0, .int 0, .int 0, .int 0, .int 0, .ref u22, .ref u23, .ref u24, .ref u25, .int 0, .ref u26, .ref u27, .ref u28, .ref u29, .int 0, .ref u30, .ref u31, .int 0, .int 0, .ref u32, .int 0, .int 0, .int 0, .ref u33, .ref u34, .ref u35, .int 0, .int 0, .ref u36, .ref u37, .ref u38, .ref u39, .ref u40, .ref u41, .ref u42, .ref u43, .ref u44, .ref u45, .int 0, .ref u46, .ref u47, .ref u48]))] s.heap.size = A at hD hZ ⊢
  have hA : ∀ q : Nat, s.heap.size ≤ q → A q := fun q h => by rw [← hAe]; exact Or.inr h
  have hS : va_S A s.heap s.heap [] := va_S.rf
  have hl := lv_entry ([.ref h0]) (n := 3) (Nat.le_of_ble_eq_true rfl)
  rw [lg_entry_eq]
  generalize (lg_sl ([.ref h0]) ++ List.replicate (3 - (lg_sl ([.ref h0])).length) Slot.unset).toArray = ls at hl ⊢
  have hl : lv_has ls 3 [(0, .ref h0)] := hl
  refine lv_iconst (v := 0) hx hb dX13_standing_0 (by decide) ?_
  refine lv_istore_n (lv' := [(1, .int 0), (0, .ref h0)]) hx hb dX13_standing_1 rfl hl (by decide) rfl (fun ls hl => ?_)
  refine lv_iconst (v := 0) hx hb dX13_standing_2 (by decide) ?_
  refine lv_istore_n (lv' := [(2, .int 0), (1, .int 0), (0, .ref h0)]) hx hb dX13_standing_3 rfl hl (by decide) rfl (fun ls hl => ?_)
  refine lv_iload_n hx hb dX13_standing_4 rfl (lv_at hl 0 rfl) ?_
  refine lv_aload_n hx hb dX13_standing_5 rfl (lv_at hl 2 rfl) ?_
  refine va_get (D := (dC, dI)) (ci := 13) (v := .int 0) (C := RX13) (T := TX13) (N := 75) hx hb hG zuX13 hown hK hP 0 rfl rfl 13 (by decide) (hG _ zw375) (fun _ h9 => h9) rfl dX13_standing_6 ?_
  refine lv_icmp_ge (tgt := 35) hx hb dX13_standing_9 (by decide) (fun c_5272 => ?_) (fun c_5272 => absurd c_5272 (by decide))
  refine lv_iload_n hx hb dX13_standing_35 rfl (lv_at hl 1 rfl) ?_
  have hP9 := hP.sub (ws' := [(h0, .inr (13, [.ref u0, .int 0, .ref u1, .ref u2, .int 0, .ref u3, .ref u4, .ref u5, .ref u6, .ref u7, .ref u8, .ref u9, .ref u10, .int 0, .ref u11, .ref u12, .int 0, .ref u13, .int (-1), .ref u14, .int 0, .int 0, .ref u15, .int 0, .int 0, .ref u16, .ref u17, .ref u18, .ref u19, .ref u20, .int 0, .ref u21, .int 0, .int 0, .int 0, .int 0, .int 0, .int 0, .ref u22, .ref u23, .ref u24, .ref u25, .int 0, .ref u26, .ref u27, .ref u28, .ref u29, .int 0, .ref u30, .ref u31, .int 0, .int 0, .ref u32, .int 0, .int 0, .int 0, .ref u33, .ref u34, .ref u35, .int 0, .int 0, .ref u36, .ref u37, .ref u38, .ref u39, .ref u40, .ref u41, .ref u42, .ref u43, .ref u44, .ref u45, .int 0, .ref u46, .ref u47, .ref u48]))]) [0] rfl
  have hD9 := hD.sub (ws' := [(h0, .inr (13, [.ref u0, .int 0, .ref u1, .ref u2, .int 0, .ref u3, .ref u4, .ref u5, .ref u6, .ref u7, .ref u8, .ref u9, .ref u10, .int 0, .ref u11, .ref u12, .int 0, .ref u13, .int (-1), .ref u14, .int 0, .int 0, .ref u15, .int 0, .int 0, .ref u16, .ref u17, .ref u18, .ref u19, .ref u20, .int 0, .ref u21, .int 0, .int 0, .int 0, .int 0, .int 0, .int 0, .ref u22, .ref u23, .ref u24, .ref u25, .int 0, .ref u26, .ref u27, .ref u28, .ref u29, .int 0, .ref u30, .ref u31, .int 0, .int 0, .ref u32, .int 0, .int 0, .int 0, .ref u33, .ref u34, .ref u35, .int 0, .int 0, .ref u36, .ref u37, .ref u38, .ref u39, .ref u40, .ref u41, .ref u42, .ref u43, .ref u44, .ref u45, .int 0, .ref u46, .ref u47, .ref u48]))]) [0] (by decide) rfl
  have hK9 := hK.sub (tys' := []) [] rfl
  refine W.widen (k := 0) (n := 0) (by decide) (by decide) ?_
  exact W.iret (v := 0) hx hb hr (fun t ht hW => ⟨⟨0, (), rfl, rfl, by rw [ht]; exact hP9, va_K.moved hW.alike hK9, hD9⟩, hS.F ht⟩) hS.2.2 dX13_standing_36
set_option maxHeartbeats 4000000 in
set_option maxRecDepth 100000 in
theorem kX13_count_2 (l : Launch) (dC : Nat → ClassId) (dI : Nat → Nat → Nat) (h0 u0 u1 u2 u3 u4 u5 u6 u7 u8 u9 u10 u11 u12 u13 u14 u15 u16 u17 u18 u19 u20 u21 u22 u23 u24 u25 u26 u27 u28 u29 u30 u31 u32 u33 u34 u35 u36 u37 u38 u39 u40 u41 u42 u43 u44 u45 u46 u47 u48 : Nat) (sz : Nat) : Met l yX13_count (zw yX13_count cX13_count 2 (some .int)) { frames := 1, cells := 0, slots := 0, locals := 22 } (zPc dC dI [.ref h0, .int 1] sz [(h0, .inr (13, [.ref u0, .int 0, .ref u1, .ref u2, .int 0, .ref u3, .ref u4, .ref u5, .ref u6, .ref u7, .ref u8, .ref u9, .ref u10, .int 0, .ref u11, .ref u12, .int 0, .ref u13, .int (-1), .ref u14, .int 0, .int 0, .ref u15, .int 0, .int 0, .ref u16, .ref u17, .ref u18, .ref u19, .ref u20, .int 0, .ref u21, .int 0, .int 0, .int 0, .int 0, .int 0, .int 0, .ref u22, .ref u23, .ref u24, .ref u25, .int 0, .ref u26, .ref u27, .ref u28, .ref u29, .int 0, .ref u30, .ref u31, .int 0, .int 0, .ref u32, .int 0, .int 0, .int 0, .ref u33, .ref u34, .ref u35, .int 0, .int 0, .ref u36, .ref u37, .ref u38, .ref u39, .ref u40, .ref u41, .ref u42, .ref u43, .ref u44, .ref u45, .int 0, .ref u46, .ref u47, .ref u48]))] []) (va_Qi (fun (r : Int32) (_ : Unit) => r = 0) (fun (_ : Unit) (t : State) => va_P (dC, dI) vwCl [(h0, .inr (13, [.ref u0, .int 0, .ref u1, .ref u2, .int 0, .ref u3, .ref u4, .ref u5, .ref u6, .ref u7, .ref u8, .ref u9, .ref u10, .int 0, .ref u11, .ref u12, .int 0, .ref u13, .int (-1), .ref u14, .int 0, .int 0, .ref u15, .int 0, .int 0, .ref u16, .ref u17, .ref u18, .ref u19, .ref u20, .int 0, .ref u21, .int 0, .int 0, .int 0, .int 0, .int 0, .int 0, .ref u22, .ref u23, .ref u24, .ref u25, .int 0, .ref u26, .ref u27, .ref u28, .ref u29, .int 0, .ref u30, .ref u31, .int 0, .int 0, .ref u32, .int 0, .int 0, .int 0, .ref u33, .ref u34, .ref u35, .int 0, .int 0, .ref u36, .ref u37, .ref u38, .ref u39, .ref u40, .ref u41, .ref u42, .ref u43, .ref u44, .ref u45, .int 0, .ref u46, .ref u47, .ref u48]))] t.heap ∧ va_K (dC, dI) vwCl [] t ∧ va_D (va_A [(h0, .inr (13, [.ref u0, .int 0, .ref u1, .ref u2, .int 0, .ref u3, .ref u4, .ref u5, .ref u6, .ref u7, .ref u8, .ref u9, .ref u10, .int 0, .ref u11, .ref u12, .int 0, .ref u13, .int (-1), .ref u14, .int 0, .int 0, .ref u15, .int 0, .int 0, .ref u16, .ref u17, .ref u18, .ref u19, .ref u20, .int 0, .ref u21, .int 0, .int 0, .int 0, .int 0, .int 0, .int 0, .ref u22, .ref u23, .ref u24, .ref u25, .int 0, .ref u26, .ref u27, .ref u28, .ref u29, .int 0, .ref u30, .ref u31, .int 0, .int 0, .ref u32, .int 0, .int 0, .int 0, .ref u33, .ref u34, .ref u35, .int 0, .int 0, .ref u36, .ref u37, .ref u38, .ref u39, .ref u40, .ref u41, .ref u42, .ref u43, .ref u44, .ref u45, .int 0, .ref u46, .ref u47, .ref u48]))] sz) [(h0, .inr (13, [.ref u0, .int 0, .ref u1, .ref u2, .int 0, .ref u3, .ref u4, .ref u5, .ref u6, .ref u7, .ref u8, .ref u9, .ref u10, .int 0, .ref u11, .ref u12, .int 0, .ref u13, .int (-1), .ref u14, .int 0, .int 0, .ref u15, .int 0, .int 0, .ref u16, .ref u17, .ref u18, .ref u19, .ref u20, .int 0, .ref u21, .int 0, .int 0, .int 0, .int 0, .int 0, .int 0, .ref u22, .ref u23, .ref u24, .ref u25, .int 0, .ref u26, .ref u27, .ref u28, .ref u29, .int 0, .ref u30, .ref u31, .int 0, .int 0, .ref u32, .int 0, .int 0, .int 0, .ref u33, .ref u34, .ref u35, .int 0, .int 0, .ref u36, .ref u37, .ref u38, .ref u39, .ref u40, .ref u41, .ref u42, .ref u43, .ref u44, .ref u45, .int 0, .ref u46, .ref u47, .ref u48]))]) (va_A [(h0, .inr (13, [.ref u0, .int 0, .ref u1, .ref u2, .int 0, .ref u3, .ref u4, .ref u5, .ref u6, .ref u7, .ref u8, .ref u9, .ref u10, .int 0, .ref u11, .ref u12, .int 0, .ref u13, .int (-1), .ref u14, .int 0, .int 0, .ref u15, .int 0, .int 0, .ref u16, .ref u17, .ref u18, .ref u19, .ref u20, .int 0, .ref u21, .int 0, .int 0, .int 0, .int 0, .int 0, .int 0, .ref u22, .ref u23, .ref u24, .ref u25, .int 0, .ref u26, .ref u27, .ref u28, .ref u29, .int 0, .ref u30, .ref u31, .int 0, .int 0, .ref u32, .int 0, .int 0, .int 0, .ref u33, .ref u34, .ref u35, .int 0, .int 0, .ref u36, .ref u37, .ref u38, .ref u39, .ref u40, .ref u41, .ref u42, .ref u43, .ref u44, .ref u45, .int 0, .ref u46, .ref u47, .ref u48]))] sz)) 0 0 (va_A [(h0, .inr (13, [.ref u0, .int 0, .ref u1, .ref u2, .int 0, .ref u3, .ref u4, .ref u5, .ref u6, .ref u7, .ref u8, .ref u9, .ref u10, .int 0, .ref u11, .ref u12, .int 0, .ref u13, .int (-1), .ref u14, .int 0, .int 0, .ref u15, .int 0, .int 0, .ref u16, .ref u17, .ref u18, .ref u19, .ref u20, .int 0, .ref u21, .int 0, .int 0, .int 0, .int 0, .int 0, .int 0, .ref u22, .ref u23, .ref u24, .ref u25, .int 0, .ref u26, .ref u27, .ref u28, .ref u29, .int 0, .ref u30, .ref u31, .int 0, .int 0, .ref u32, .int 0, .int 0, .int 0, .ref u33, .ref u34, .ref u35, .int 0, .int 0, .ref u36, .ref u37, .ref u38, .ref u39, .ref u40, .ref u41, .ref u42, .ref u43, .ref u44, .ref u45, .int 0, .ref u46, .ref u47, .ref u48]))] sz) := by
  refine Met.ofW (cc := cX13_count) (maxL := 2) (ret := (some .int)) (by decide) rfl ?_
  intro p e s m args below meth c s₁ B hml hv
  obtain ⟨rfl, hsz, hP, hK, hD0, hE, hZ⟩ := hv
  have hx := B.exec
  have hb := B.bytes
  have hr := B.returns
  have hG : ∀ w ∈ zG, w.before _ s = true := fun w h => atoms_spec (ws := (zw yX13_count cX13_count 2 (some .int))) B.pre w (List.mem_cons_of_mem _ h)
  have hown : s.vm.findClass RX13 = some m.cls := findClass_of_methodNamed B.named
  have hlocks := B.notSynchronized
  subst hsz
  have hD := hD0.self (sz := s.heap.size)
  generalize hAe : va_A [(h0, .inr (13, [.ref u0, .int 0, .ref u1, .ref u2, .int 0, .ref u3, .ref u4, .ref u5, .ref u6, .ref u7, .ref u8, .ref u9, .ref u10, .int 0, .ref u11, .ref u12, .int 0, .ref u13, .int (-1), .ref u14, .int 0, .int 0, .ref u15, .int 0, .int 0, .ref u16, .ref u17, .ref u18, .ref u19, .ref u20, .int 0, .ref u21, .int 0, .int 0, .int 0, .int 0, .int 0, .int 0, .ref u22, .ref u23, .ref u24, .ref u25, .int 0, .ref u26, .ref u27, .ref u28, .ref u29, .int 0, .ref u30, .ref u31, .int 0, .int 0, .ref u32, .int 0, .int 0, .int 0, .ref u33, .ref u34, .ref u35, .int 0, .int 0, .ref u36, .ref u37, .ref u38, .ref u39, .ref u40, .ref u41, .ref u42, .ref u43, .ref u44, .ref u45, .int 0, .ref u46, .ref u47, .ref u48]))] s.heap.size = A at hD hZ ⊢
  have hA : ∀ q : Nat, s.heap.size ≤ q → A q := fun q h => by rw [← hAe]; exact Or.inr h
  have hS : va_S A s.heap s.heap [] := va_S.rf
  have hl := lv_entry ([.ref h0, .int 1]) (n := 2) (Nat.le_of_ble_eq_true rfl)
  rw [lg_entry_eq]
  generalize (lg_sl ([.ref h0, .int 1]) ++ List.replicate (2 - (lg_sl ([.ref h0, .int 1])).length) Slot.unset).toArray = ls at hl ⊢
  have hl : lv_has ls 2 [(0, .ref h0), (1, .int 1)] := hl
  refine lv_aload_n hx hb dX13_count_0 rfl (lv_at hl 0 rfl) ?_
  refine lv_iconst (v := 0) hx hb dX13_count_1 (by decide) ?_
  refine va_put (D := (dC, dI)) (ci := 13) (v := .int 0) (ty := .int) (C := RX13) (T := TX13) (N := 75) hx hb hG zuX13 tyX13 tyX13_ok nmX13 hown hK hP hD hS 0 rfl rfl 21 (by decide) (hG _ zw302) (fun _ h9 => h9) rfl (by decide +kernel) rfl rfl (Nat.le_of_ble_eq_true rfl) dX13_count_2 (fun H locs hP hD hS => ?_)
  have hP : va_P (dC, dI) vwCl [(h0, .inr (13, [.ref u0, .int 0, .ref u1, .ref u2, .int 0, .ref u3, .ref u4, .ref u5, .ref u6, .ref u7, .ref u8, .ref u9, .ref u10, .int 0, .ref u11, .ref u12, .int 0, .ref u13, .int (-1), .ref u14, .int 0, .int 0, .ref u15, .int 0, .int 0, .ref u16, .ref u17, .ref u18, .ref u19, .ref u20, .int 0, .ref u21, .int 0, .int 0, .int 0, .int 0, .int 0, .int 0, .ref u22, .ref u23, .ref u24, .ref u25, .int 0, .ref u26, .ref u27, .ref u28, .ref u29, .int 0, .ref u30, .ref u31, .int 0, .int 0, .ref u32, .int 0, .int 0, .int 0, .ref u33, .ref u34, .ref u35, .int 0, .int 0, .ref u36, .ref u37, .ref u38, .ref u39, .ref u40, .ref u41, .ref u42, .ref u43, .ref u44, .ref u45, .int 0, .ref u46, .ref u47, .ref u48]))] H := hP
  have hD : va_D A [(h0, .inr (13, [.ref u0, .int 0, .ref u1, .ref u2, .int 0, .ref u3, .ref u4, .ref u5, .ref u6, .ref u7, .ref u8, .ref u9, .ref u10, .int 0, .ref u11, .ref u12, .int 0, .ref u13, .int (-1), .ref u14, .int 0, .int 0, .ref u15, .int 0, .int 0, .ref u16, .ref u17, .ref u18, .ref u19, .ref u20, .int 0, .ref u21, .int 0, .int 0, .int 0, .int 0, .int 0, .int 0, .ref u22, .ref u23, .ref u24, .ref u25, .int 0, .ref u26, .ref u27, .ref u28, .ref u29, .int 0, .ref u30, .ref u31, .int 0, .int 0, .ref u32, .int 0, .int 0, .int 0, .ref u33, .ref u34, .ref u35, .int 0, .int 0, .ref u36, .ref u37, .ref u38, .ref u39, .ref u40, .ref u41, .ref u42, .ref u43, .ref u44, .ref u45, .int 0, .ref u46, .ref u47, .ref u48]))] := hD
  refine lv_iload_n hx hb dX13_count_5 rfl (lv_at hl 1 rfl) ?_
  refine lv_tableIn (off := 47) (tgt := 53) hx hb dX13_count_6 (by decide) (by decide) (by decide) (by decide) ?_
  refine lv_aload_n hx hb dX13_count_53 rfl (lv_at hl 0 rfl) ?_
  have hPc := hP.sub (ws' := [(h0, .inr (13, [.ref u0, .int 0, .ref u1, .ref u2, .int 0, .ref u3, .ref u4, .ref u5, .ref u6, .ref u7, .ref u8, .ref u9, .ref u10, .int 0, .ref u11, .ref u12, .int 0, .ref u13, .int (-1), .ref u14, .int 0, .int 0, .ref u15, .int 0, .int 0, .ref u16, .ref u17, .ref u18, .ref u19, .ref u20, .int 0, .ref u21, .int 0, .int 0, .int 0, .int 0, .int 0, .int 0, .ref u22, .ref u23, .ref u24, .ref u25, .int 0, .ref u26, .ref u27, .ref u28, .ref u29, .int 0, .ref u30, .ref u31, .int 0, .int 0, .ref u32, .int 0, .int 0, .int 0, .ref u33, .ref u34, .ref u35, .int 0, .int 0, .ref u36, .ref u37, .ref u38, .ref u39, .ref u40, .ref u41, .ref u42, .ref u43, .ref u44, .ref u45, .int 0, .ref u46, .ref u47, .ref u48]))]) [0] rfl
  have hDc := hD.sub (ws' := [(h0, .inr (13, [.ref u0, .int 0, .ref u1, .ref u2, .int 0, .ref u3, .ref u4, .ref u5, .ref u6, .ref u7, .ref u8, .ref u9, .ref u10, .int 0, .ref u11, .ref u12, .int 0, .ref u13, .int (-1), .ref u14, .int 0, .int 0, .ref u15, .int 0, .int 0, .ref u16, .ref u17, .ref u18, .ref u19, .ref u20, .int 0, .ref u21, .int 0, .int 0, .int 0, .int 0, .int 0, .int 0, .ref u22, .ref u23, .ref u24, .ref u25, .int 0, .ref u26, .ref u27, .ref u28, .ref u29, .int 0, .ref u30, .ref u31, .int 0, .int 0, .ref u32, .int 0, .int 0, .int 0, .ref u33, .ref u34, .ref u35, .int 0, .int 0, .ref u36, .ref u37, .ref u38, .ref u39, .ref u40, .ref u41, .ref u42, .ref u43, .ref u44, .ref u45, .int 0, .ref u46, .ref u47, .ref u48]))]) [0] (by decide) rfl
  have hKc := hK.sub (tys' := []) [] rfl
  have hFc := va_free (wc := [(h0, .inr (13, [.ref u0, .int 0, .ref u1, .ref u2, .int 0, .ref u3, .ref u4, .ref u5, .ref u6, .ref u7, .ref u8, .ref u9, .ref u10, .int 0, .ref u11, .ref u12, .int 0, .ref u13, .int (-1), .ref u14, .int 0, .int 0, .ref u15, .int 0, .int 0, .ref u16, .ref u17, .ref u18, .ref u19, .ref u20, .int 0, .ref u21, .int 0, .int 0, .int 0, .int 0, .int 0, .int 0, .ref u22, .ref u23, .ref u24, .ref u25, .int 0, .ref u26, .ref u27, .ref u28, .ref u29, .int 0, .ref u30, .ref u31, .int 0, .int 0, .ref u32, .int 0, .int 0, .int 0, .ref u33, .ref u34, .ref u35, .int 0, .int 0, .ref u36, .ref u37, .ref u38, .ref u39, .ref u40, .ref u41, .ref u42, .ref u43, .ref u44, .ref u45, .int 0, .ref u46, .ref u47, .ref u48]))]) hD hS hA [0] rfl
  refine va_calli (va_runV (As := []) (rest := []) ⟨hx, hb, hml, hown, hG⟩ (kX13_standing_0 l dC dI h0 u0 u1 u2 u3 u4 u5 u6 u7 u8 u9 u10 u11 u12 u13 u14 u15 u16 u17 u18 u19 u20 u21 u22 u23 u24 u25 u26 u27 u28 u29 u30 u31 u32 u33 u34 u35 u36 u37 u38 u39 u40 u41 u42 u43 u44 u45 u46 u47 u48 H.size) (cwV 0 hG (zgV zw582 zw583 zw584 zw207 zw585) rfl rfl rfl (by decide +kernel) ⟨Nat.le_of_ble_eq_true rfl, Nat.le_of_ble_eq_true rfl⟩) ⟨zPc_blind, va_recv hKc hPc (ci := 13) (q0 := 0) rfl rfl, zPc_pre hPc hKc hDc hE hS hFc hZ⟩ rfl rfl hl.1 rfl (lv_room (Nat.le_of_ble_eq_true rfl)) dX13_count_54 ⟨Nat.le_of_ble_eq_true rfl, Nat.le_of_ble_eq_true rfl⟩) hS (fun q _ h => hFc q h) hFc (fun r_5279 u t H1 locs ht hvm hw hB hz1 hk1 hS => ?_)
  have hw : r_5279 = 0 := hw
  subst hw
  obtain ⟨hP1, hK1, hD1⟩ := hB
  rw [ht] at hP1
  obtain ⟨hP, hD⟩ := va_join (wr := []) (w1 := [(h0, .inr (13, [.ref u0, .int 0, .ref u1, .ref u2, .int 0, .ref u3, .ref u4, .ref u5, .ref u6, .ref u7, .ref u8, .ref u9, .ref u10, .int 0, .ref u11, .ref u12, .int 0, .ref u13, .int (-1), .ref u14, .int 0, .int 0, .ref u15, .int 0, .int 0, .ref u16, .ref u17, .ref u18, .ref u19, .ref u20, .int 0, .ref u21, .int 0, .int 0, .int 0, .int 0, .int 0, .int 0, .ref u22, .ref u23, .ref u24, .ref u25, .int 0, .ref u26, .ref u27, .ref u28, .ref u29, .int 0, .ref u30, .ref u31, .int 0, .int 0, .ref u32, .int 0, .int 0, .int 0, .ref u33, .ref u34, .ref u35, .int 0, .int 0, .ref u36, .ref u37, .ref u38, .ref u39, .ref u40, .ref u41, .ref u42, .ref u43, .ref u44, .ref u45, .int 0, .ref u46, .ref u47, .ref u48]))]) hP hD [0] [] rfl rfl (by decide) (by decide) hk1 hFc hP1 hD1
  generalize H1 = H at hP hS ⊢
  have hP : va_P (dC, dI) vwCl [(h0, .inr (13, [.ref u0, .int 0, .ref u1, .ref u2, .int 0, .ref u3, .ref u4, .ref u5, .ref u6, .ref u7, .ref u8, .ref u9, .ref u10, .int 0, .ref u11, .ref u12, .int 0, .ref u13, .int (-1), .ref u14, .int 0, .int 0, .ref u15, .int 0, .int 0, .ref u16, .ref u17, .ref u18, .ref u19, .ref u20, .int 0, .ref u21, .int 0, .int 0, .int 0, .int 0, .int 0, .int 0, .ref u22, .ref u23, .ref u24, .ref u25, .int 0, .ref u26, .ref u27, .ref u28, .ref u29, .int 0, .ref u30, .ref u31, .int 0, .int 0, .ref u32, .int 0, .int 0, .int 0, .ref u33, .ref u34, .ref u35, .int 0, .int 0, .ref u36, .ref u37, .ref u38, .ref u39, .ref u40, .ref u41, .ref u42, .ref u43, .ref u44, .ref u45, .int 0, .ref u46, .ref u47, .ref u48]))] H := hP
  have hD : va_D A [(h0, .inr (13, [.ref u0, .int 0, .ref u1, .ref u2, .int 0, .ref u3, .ref u4, .ref u5, .ref u6, .ref u7, .ref u8, .ref u9, .ref u10, .int 0, .ref u11, .ref u12, .int 0, .ref u13, .int (-1), .ref u14, .int 0, .int 0, .ref u15, .int 0, .int 0, .ref u16, .ref u17, .ref u18, .ref u19, .ref u20, .int 0, .ref u21, .int 0, .int 0, .int 0, .int 0, .int 0, .int 0, .ref u22, .ref u23, .ref u24, .ref u25, .int 0, .ref u26, .ref u27, .ref u28, .ref u29, .int 0, .ref u30, .ref u31, .int 0, .int 0, .ref u32, .int 0, .int 0, .int 0, .ref u33, .ref u34, .ref u35, .int 0, .int 0, .ref u36, .ref u37, .ref u38, .ref u39, .ref u40, .ref u41, .ref u42, .ref u43, .ref u44, .ref u45, .int 0, .ref u46, .ref u47, .ref u48]))] := hD
  have hP9 := hP.sub (ws' := [(h0, .inr (13, [.ref u0, .int 0, .ref u1, .ref u2, .int 0, .ref u3, .ref u4, .ref u5, .ref u6, .ref u7, .ref u8, .ref u9, .ref u10, .int 0, .ref u11, .ref u12, .int 0, .ref u13, .int (-1), .ref u14, .int 0, .int 0, .ref u15, .int 0, .int 0, .ref u16, .ref u17, .ref u18, .ref u19, .ref u20, .int 0, .ref u21, .int 0, .int 0, .int 0, .int 0, .int 0, .int 0, .ref u22, .ref u23, .ref u24, .ref u25, .int 0, .ref u26, .ref u27, .ref u28, .ref u29, .int 0, .ref u30, .ref u31, .int 0, .int 0, .ref u32, .int 0, .int 0, .int 0, .ref u33, .ref u34, .ref u35, .int 0, .int 0, .ref u36, .ref u37, .ref u38, .ref u39, .ref u40, .ref u41, .ref u42, .ref u43, .ref u44, .ref u45, .int 0, .ref u46, .ref u47, .ref u48]))]) [0] rfl
  have hD9 := hD.sub (ws' := [(h0, .inr (13, [.ref u0, .int 0, .ref u1, .ref u2, .int 0, .ref u3, .ref u4, .ref u5, .ref u6, .ref u7, .ref u8, .ref u9, .ref u10, .int 0, .ref u11, .ref u12, .int 0, .ref u13, .int (-1), .ref u14, .int 0, .int 0, .ref u15, .int 0, .int 0, .ref u16, .ref u17, .ref u18, .ref u19, .ref u20, .int 0, .ref u21, .int 0, .int 0, .int 0, .int 0, .int 0, .int 0, .ref u22, .ref u23, .ref u24, .ref u25, .int 0, .ref u26, .ref u27, .ref u28, .ref u29, .int 0, .ref u30, .ref u31, .int 0, .int 0, .ref u32, .int 0, .int 0, .int 0, .ref u33, .ref u34, .ref u35, .int 0, .int 0, .ref u36, .ref u37, .ref u38, .ref u39, .ref u40, .ref u41, .ref u42, .ref u43, .ref u44, .ref u45, .int 0, .ref u46, .ref u47, .ref u48]))]) [0] (by decide) rfl
  have hK9 := hK.sub (tys' := []) [] rfl
  refine W.widen (k := 0) (n := 0) (by decide) (by decide) ?_
  exact W.iret (v := 0) hx hb hr (fun t ht hW => ⟨⟨0, (), rfl, rfl, by rw [ht]; exact hP9, va_K.moved hW.alike hK9, hD9⟩, hS.F ht⟩) hS.2.2 dX13_count_57
set_option maxHeartbeats 4000000 in
set_option maxRecDepth 100000 in
theorem kX11_count_3 (l : Launch) (dC : Nat → ClassId) (dI : Nat → Nat → Nat) (h0 h1 u0 u1 u2 u3 u4 u5 u6 u7 u8 u9 u10 u11 u12 u13 u14 : Nat) (sz : Nat) : Met l yX11_count (zw yX11_count cX11_count 2 (some .int)) { frames := 1, cells := 0, slots := 0, locals := 20 } (zPc dC dI [.ref h0, .int 2] sz [(h0, .inr (11, [.ref u0, .ref h1, .ref u1, .ref u2, .ref u3, .ref u4, .ref u5, .ref u6, .ref u7, .ref u8, .null, .long (-1)])), (h1, .inr (10, [.int 400, .ref u9, .ref u10, .ref u11, .ref u12, .ref u13, .ref u14, .int 0]))] []) (va_Qi (fun (r : Int32) (_ : Unit) => r = 0) (fun (_ : Unit) (t : State) => va_P (dC, dI) vwCl [(h0, .inr (11, [.ref u0, .ref h1, .ref u1, .ref u2, .ref u3, .ref u4, .ref u5, .ref u6, .ref u7, .ref u8, .null, .long (-1)])), (h1, .inr (10, [.int 400, .ref u9, .ref u10, .ref u11, .ref u12, .ref u13, .ref u14, .int 0]))] t.heap ∧ va_K (dC, dI) vwCl [] t ∧ va_D (va_A [(h0, .inr (11, [.ref u0, .ref h1, .ref u1, .ref u2, .ref u3, .ref u4, .ref u5, .ref u6, .ref u7, .ref u8, .null, .long (-1)])), (h1, .inr (10, [.int 400, .ref u9, .ref u10, .ref u11, .ref u12, .ref u13, .ref u14, .int 0]))] sz) [(h0, .inr (11, [.ref u0, .ref h1, .ref u1, .ref u2, .ref u3, .ref u4, .ref u5, .ref u6, .ref u7, .ref u8, .null, .long (-1)])), (h1, .inr (10, [.int 400, .ref u9, .ref u10, .ref u11, .ref u12, .ref u13, .ref u14, .int 0]))]) (va_A [(h0, .inr (11, [.ref u0, .ref h1, .ref u1, .ref u2, .ref u3, .ref u4, .ref u5, .ref u6, .ref u7, .ref u8, .null, .long (-1)])), (h1, .inr (10, [.int 400, .ref u9, .ref u10, .ref u11, .ref u12, .ref u13, .ref u14, .int 0]))] sz)) 0 0 (va_A [(h0, .inr (11, [.ref u0, .ref h1, .ref u1, .ref u2, .ref u3, .ref u4, .ref u5, .ref u6, .ref u7, .ref u8, .null, .long (-1)])), (h1, .inr (10, [.int 400, .ref u9, .ref u10, .ref u11, .ref u12, .ref u13, .ref u14, .int 0]))] sz) := by
  refine Met.ofW (cc := cX11_count) (maxL := 2) (ret := (some .int)) (by decide) rfl ?_
  intro p e s m args below meth c s₁ B hml hv
  obtain ⟨rfl, hsz, hP, hK, hD0, hE, hZ⟩ := hv
  have hx := B.exec
  have hb := B.bytes
  have hr := B.returns
  have hG : ∀ w ∈ zG, w.before _ s = true := fun w h => atoms_spec (ws := (zw yX11_count cX11_count 2 (some .int))) B.pre w (List.mem_cons_of_mem _ h)
  have hown : s.vm.findClass RX11 = some m.cls := findClass_of_methodNamed B.named
  have hlocks := B.notSynchronized
  subst hsz
  have hD := hD0.self (sz := s.heap.size)
  generalize hAe : va_A [(h0, .inr (11, [.ref u0, .ref h1, .ref u1, .ref u2, .ref u3, .ref u4, .ref u5, .ref u6, .ref u7, .ref u8, .null, .long (-1)])), (h1, .inr (10, [.int 400, .ref u9, .ref u10, .ref u11, .ref u12, .ref u13, .ref u14, .int 0]))] s.heap.size = A at hD hZ ⊢
  have hA : ∀ q : Nat, s.heap.size ≤ q → A q := fun q h => by rw [← hAe]; exact Or.inr h
  have hS : va_S A s.heap s.heap [] := va_S.rf
  have hl := lv_entry ([.ref h0, .int 2]) (n := 2) (Nat.le_of_ble_eq_true rfl)
  rw [lg_entry_eq]
  generalize (lg_sl ([.ref h0, .int 2]) ++ List.replicate (2 - (lg_sl ([.ref h0, .int 2])).length) Slot.unset).toArray = ls at hl ⊢
  have hl : lv_has ls 2 [(0, .ref h0), (1, .int 2)] := hl
  refine lv_iload_n hx hb dX11_count_0 rfl (lv_at hl 1 rfl) ?_
  refine lv_tableIn (off := 59) (tgt := 60) hx hb dX11_count_1 (by decide) (by decide) (by decide) (by decide) ?_
  refine lv_aload_n hx hb dX11_count_60 rfl (lv_at hl 0 rfl) ?_
  refine va_get (D := (dC, dI)) (ci := 11) (v := .ref h1) (C := RX11) (T := TX11) (N := 12) hx hb hG zuX11 hown hK hP 0 rfl rfl 1 (by decide) (hG _ zw35) (fun _ h9 => h9) rfl dX11_count_61 ?_
  have hPc := hP.sub (ws' := [(h1, .inr (10, [.int 400, .ref u9, .ref u10, .ref u11, .ref u12, .ref u13, .ref u14, .int 0]))]) [1] rfl
  have hDc := hD.sub (ws' := [(h1, .inr (10, [.int 400, .ref u9, .ref u10, .ref u11, .ref u12, .ref u13, .ref u14, .int 0]))]) [1] (by decide) rfl
  have hKc := hK.sub (tys' := []) [] rfl
  have hFc := va_free (wc := [(h1, .inr (10, [.int 400, .ref u9, .ref u10, .ref u11, .ref u12, .ref u13, .ref u14, .int 0]))]) hD hS hA [1] rfl
  refine va_calli (va_runV (As := []) (rest := []) ⟨hx, hb, hml, hown, hG⟩ (kX10_size_0 l dC dI h1 u9 u10 u11 u12 u13 u14 s.heap.size) (cwV 0 hG (zgV zw328 zw329 zw330 zw20 zw331) rfl rfl rfl (by decide +kernel) ⟨Nat.le_of_ble_eq_true rfl, Nat.le_of_ble_eq_true rfl⟩) ⟨zPc_blind, va_recv hKc hPc (ci := 10) (q0 := 0) rfl rfl, zPc_pre hPc hKc hDc hE hS hFc hZ⟩ rfl rfl hl.1 rfl (lv_room (Nat.le_of_ble_eq_true rfl)) dX11_count_64 ⟨Nat.le_of_ble_eq_true rfl, Nat.le_of_ble_eq_true rfl⟩) hS (fun q _ h => hFc q h) hFc (fun r_5292 u t H1 locs ht hvm hw hB hz1 hk1 hS => ?_)
  have hw : r_5292 = 0 := hw
  subst hw
  obtain ⟨hP1, hK1, hD1⟩ := hB
  rw [ht] at hP1
  obtain ⟨hP, hD⟩ := va_join (wr := [(h0, .inr (11, [.ref u0, .ref h1, .ref u1, .ref u2, .ref u3, .ref u4, .ref u5, .ref u6, .ref u7, .ref u8, .null, .long (-1)]))]) (w1 := [(h1, .inr (10, [.int 400, .ref u9, .ref u10, .ref u11, .ref u12, .ref u13, .ref u14, .int 0]))]) hP hD [1] [0] rfl rfl (by decide) (by decide) hk1 hFc hP1 hD1
  generalize H1 = H at hP hS ⊢
  have hP : va_P (dC, dI) vwCl [(h0, .inr (11, [.ref u0, .ref h1, .ref u1, .ref u2, .ref u3, .ref u4, .ref u5, .ref u6, .ref u7, .ref u8, .null, .long (-1)])), (h1, .inr (10, [.int 400, .ref u9, .ref u10, .ref u11, .ref u12, .ref u13, .ref u14, .int 0]))] H := hP
  have hD : va_D A [(h0, .inr (11, [.ref u0, .ref h1, .ref u1, .ref u2, .ref u3, .ref u4, .ref u5, .ref u6, .ref u7, .ref u8, .null, .long (-1)])), (h1, .inr (10, [.int 400, .ref u9, .ref u10, .ref u11, .ref u12, .ref u13, .ref u14, .int 0]))] := hD
  have hP9 := hP.sub (ws' := [(h0, .inr (11, [.ref u0, .ref h1, .ref u1, .ref u2, .ref u3, .ref u4, .ref u5, .ref u6, .ref u7, .ref u8, .null, .long (-1)])), (h1, .inr (10, [.int 400, .ref u9, .ref u10, .ref u11, .ref u12, .ref u13, .ref u14, .int 0]))]) [0, 1] rfl
  have hD9 := hD.sub (ws' := [(h0, .inr (11, [.ref u0, .ref h1, .ref u1, .ref u2, .ref u3, .ref u4, .ref u5, .ref u6, .ref u7, .ref u8, .null, .long (-1)])), (h1, .inr (10, [.int 400, .ref u9, .ref u10, .ref u11, .ref u12, .ref u13, .ref u14, .int 0]))]) [0, 1] (by decide) rfl
  have hK9 := hK.sub (tys' := []) [] rfl
  refine W.widen (k := 0) (n := 0) (by decide) (by decide) ?_
  exact W.iret (v := 0) hx hb hr (fun t ht hW => ⟨⟨0, (), rfl, rfl, by rw [ht]; exact hP9, va_K.moved hW.alike hK9, hD9⟩, hS.F ht⟩) hS.2.2 dX11_count_67
set_option maxHeartbeats 4000000 in
set_option maxRecDepth 100000 in
theorem kX13_count_3 (l : Launch) (dC : Nat → ClassId) (dI : Nat → Nat → Nat) (h0 u0 u1 u2 u3 u4 u5 u6 u7 u8 u9 u10 u11 u12 u13 u14 u15 u16 u17 u18 u19 u20 u21 u22 u23 u24 u25 u26 u27 u28 u29 u30 u31 u32 u33 u34 u35 u36 u37 u38 u39 u40 u41 u42 u43 u44 u45 u46 u47 u48 : Nat) (sz : Nat) : Met l yX13_count (zw yX13_count cX13_count 2 (some .int)) { frames := 0, cells := 0, slots := 0, locals := 0 } (zPc dC dI [.ref h0, .int 2] sz [(h0, .inr (13, [.ref u0, .int 0, .ref u1, .ref u2, .int 0, .ref u3, .ref u4, .ref u5, .ref u6, .ref u7, .ref u8, .ref u9, .ref u10, .int 0, .ref u11, .ref u12, .int 0, .ref u13, .int (-1), .ref u14, .int 0, .int 0, .ref u15, .int 0, .int 0, .ref u16, .ref u17, .ref u18, .ref u19, .ref u20, .int 0, .ref u21, .int 0, .int 0, .int 0, .int 0, .int 0, .int 0, .ref u22, .ref u23, .ref u24, .ref u25, .int 0, .ref u26, .ref u27, .ref u28, .ref u29, .int 0, .ref u30, .ref u31, .int 0, .int 0, .ref u32, .int 0, .int 0, .int 0, .ref u33, .ref u34, .ref u35, .int 0, .int 0, .ref u36, .ref u37, .ref u38, .ref u39, .ref u40, .ref u41, .ref u42, .ref u43, .ref u44, .ref u45, .int 0, .ref u46, .ref u47, .ref u48]))] []) (va_Qi (fun (r : Int32) (_ : Unit) => r = 0) (fun (_ : Unit) (t : State) => va_P (dC, dI) vwCl [(h0, .inr (13, [.ref u0, .int 0, .ref u1, .ref u2, .int 0, .ref u3, .ref u4, .ref u5, .ref u6, .ref u7, .ref u8, .ref u9, .ref u10, .int 0, .ref u11, .ref u12, .int 0, .ref u13, .int (-1), .ref u14, .int 0, .int 0, .ref u15, .int 0, .int 0, .ref u16, .ref u17, .ref u18, .ref u19, .ref u20, .int 0, .ref u21, .int 0, .int 0, .int 0, .int 0, .int 0, .int 0, .ref u22, .ref u23, .ref u24, .ref u25, .int 0, .ref u26, .ref u27, .ref u28, .ref u29, .int 0, .ref u30, .ref u31, .int 0, .int 0, .ref u32, .int 0, .int 0, .int 0, .ref u33, .ref u34, .ref u35, .int 0, .int 0, .ref u36, .ref u37, .ref u38, .ref u39, .ref u40, .ref u41, .ref u42, .ref u43, .ref u44, .ref u45, .int 0, .ref u46, .ref u47, .ref u48]))] t.heap ∧ va_K (dC, dI) vwCl [] t ∧ va_D (va_A [(h0, .inr (13, [.ref u0, .int 0, .ref u1, .ref u2, .int 0, .ref u3, .ref u4, .ref u5, .ref u6, .ref u7, .ref u8, .ref u9, .ref u10, .int 0, .ref u11, .ref u12, .int 0, .ref u13, .int (-1), .ref u14, .int 0, .int 0, .ref u15, .int 0, .int 0, .ref u16, .ref u17, .ref u18, .ref u19, .ref u20, .int 0, .ref u21, .int 0, .int 0, .int 0, .int 0, .int 0, .int 0, .ref u22, .ref u23, .ref u24, .ref u25, .int 0, .ref u26, .ref u27, .ref u28, .ref u29, .int 0, .ref u30, .ref u31, .int 0, .int 0, .ref u32, .int 0, .int 0, .int 0, .ref u33, .ref u34, .ref u35, .int 0, .int 0, .ref u36, .ref u37, .ref u38, .ref u39, .ref u40, .ref u41, .ref u42, .ref u43, .ref u44, .ref u45, .int 0, .ref u46, .ref u47, .ref u48]))] sz) [(h0, .inr (13, [.ref u0, .int 0, .ref u1, .ref u2, .int 0, .ref u3, .ref u4, .ref u5, .ref u6, .ref u7, .ref u8, .ref u9, .ref u10, .int 0, .ref u11, .ref u12, .int 0, .ref u13, .int (-1), .ref u14, .int 0, .int 0, .ref u15, .int 0, .int 0, .ref u16, .ref u17, .ref u18, .ref u19, .ref u20, .int 0, .ref u21, .int 0, .int 0, .int 0, .int 0, .int 0, .int 0, .ref u22, .ref u23, .ref u24, .ref u25, .int 0, .ref u26, .ref u27, .ref u28, .ref u29, .int 0, .ref u30, .ref u31, .int 0, .int 0, .ref u32, .int 0, .int 0, .int 0, .ref u33, .ref u34, .ref u35, .int 0, .int 0, .ref u36, .ref u37, .ref u38, .ref u39, .ref u40, .ref u41, .ref u42, .ref u43, .ref u44, .ref u45, .int 0, .ref u46, .ref u47, .ref u48]))]) (va_A [(h0, .inr (13, [.ref u0, .int 0, .ref u1, .ref u2, .int 0, .ref u3, .ref u4, .ref u5, .ref u6, .ref u7, .ref u8, .ref u9, .ref u10, .int 0, .ref u11, .ref u12, .int 0, .ref u13, .int (-1), .ref u14, .int 0, .int 0, .ref u15, .int 0, .int 0, .ref u16, .ref u17, .ref u18, .ref u19, .ref u20, .int 0, .ref u21, .int 0, .int 0, .int 0, .int 0, .int 0, .int 0, .ref u22, .ref u23, .ref u24, .ref u25, .int 0, .ref u26, .ref u27, .ref u28, .ref u29, .int 0, .ref u30, .ref u31, .int 0, .int 0, .ref u32, .int 0, .int 0, .int 0, .ref u33, .ref u34, .ref u35, .int 0, .int 0, .ref u36, .ref u37, .ref u38, .ref u39, .ref u40, .ref u41, .ref u42, .ref u43, .ref u44, .ref u45, .int 0, .ref u46, .ref u47, .ref u48]))] sz)) 0 0 (va_A [(h0, .inr (13, [.ref u0, .int 0, .ref u1, .ref u2, .int 0, .ref u3, .ref u4, .ref u5, .ref u6, .ref u7, .ref u8, .ref u9, .ref u10, .int 0, .ref u11, .ref u12, .int 0, .ref u13, .int (-1), .ref u14, .int 0, .int 0, .ref u15, .int 0, .int 0, .ref u16, .ref u17, .ref u18, .ref u19, .ref u20, .int 0, .ref u21, .int 0, .int 0, .int 0, .int 0, .int 0, .int 0, .ref u22, .ref u23, .ref u24, .ref u25, .int 0, .ref u26, .ref u27, .ref u28, .ref u29, .int 0, .ref u30, .ref u31, .int 0, .int 0, .ref u32, .int 0, .int 0, .int 0, .ref u33, .ref u34, .ref u35, .int 0, .int 0, .ref u36, .ref u37, .ref u38, .ref u39, .ref u40, .ref u41, .ref u42, .ref u43, .ref u44, .ref u45, .int 0, .ref u46, .ref u47, .ref u48]))] sz) := by
  refine Met.ofW (cc := cX13_count) (maxL := 2) (ret := (some .int)) (by decide) rfl ?_
  intro p e s m args below meth c s₁ B hml hv
  obtain ⟨rfl, hsz, hP, hK, hD0, hE, hZ⟩ := hv
  have hx := B.exec
  have hb := B.bytes
  have hr := B.returns
  have hG : ∀ w ∈ zG, w.before _ s = true := fun w h => atoms_spec (ws := (zw yX13_count cX13_count 2 (some .int))) B.pre w (List.mem_cons_of_mem _ h)
  have hown : s.vm.findClass RX13 = some m.cls := findClass_of_methodNamed B.named
  have hlocks := B.notSynchronized
  subst hsz
  have hD := hD0.self (sz := s.heap.size)
  generalize hAe : va_A [(h0, .inr (13, [.ref u0, .int 0, .ref u1, .ref u2, .int 0, .ref u3, .ref u4, .ref u5, .ref u6, .ref u7, .ref u8, .ref u9, .ref u10, .int 0, .ref u11, .ref u12, .int 0, .ref u13, .int (-1), .ref u14, .int 0, .int 0, .ref u15, .int 0, .int 0, .ref u16, .ref u17, .ref u18, .ref u19, .ref u20, .int 0, .ref u21, .int 0, .int 0, .int 0, .int 0, .int 0, .int 0, .ref u22, .ref u23, .ref u24, .ref u25, .int 0, .ref u26, .ref u27, .ref u28, .ref u29, .int 0, .ref u30, .ref u31, .int 0, .int 0, .ref u32, .int 0, .int 0, .int 0, .ref u33, .ref u34, .ref u35, .int 0, .int 0, .ref u36, .ref u37, .ref u38, .ref u39, .ref u40, .ref u41, .ref u42, .ref u43, .ref u44, .ref u45, .int 0, .ref u46, .ref u47, .ref u48]))] s.heap.size = A at hD hZ ⊢
  have hA : ∀ q : Nat, s.heap.size ≤ q → A q := fun q h => by rw [← hAe]; exact Or.inr h
  have hS : va_S A s.heap s.heap [] := va_S.rf
  have hl := lv_entry ([.ref h0, .int 2]) (n := 2) (Nat.le_of_ble_eq_true rfl)
  rw [lg_entry_eq]
  generalize (lg_sl ([.ref h0, .int 2]) ++ List.replicate (2 - (lg_sl ([.ref h0, .int 2])).length) Slot.unset).toArray = ls at hl ⊢
  have hl : lv_has ls 2 [(0, .ref h0), (1, .int 2)] := hl
  refine lv_aload_n hx hb dX13_count_0 rfl (lv_at hl 0 rfl) ?_
  refine lv_iconst (v := 0) hx hb dX13_count_1 (by decide) ?_
  refine va_put (D := (dC, dI)) (ci := 13) (v := .int 0) (ty := .int) (C := RX13) (T := TX13) (N := 75) hx hb hG zuX13 tyX13 tyX13_ok nmX13 hown hK hP hD hS 0 rfl rfl 21 (by decide) (hG _ zw302) (fun _ h9 => h9) rfl (by decide +kernel) rfl rfl (Nat.le_of_ble_eq_true rfl) dX13_count_2 (fun H locs hP hD hS => ?_)
  have hP : va_P (dC, dI) vwCl [(h0, .inr (13, [.ref u0, .int 0, .ref u1, .ref u2, .int 0, .ref u3, .ref u4, .ref u5, .ref u6, .ref u7, .ref u8, .ref u9, .ref u10, .int 0, .ref u11, .ref u12, .int 0, .ref u13, .int (-1), .ref u14, .int 0, .int 0, .ref u15, .int 0, .int 0, .ref u16, .ref u17, .ref u18, .ref u19, .ref u20, .int 0, .ref u21, .int 0, .int 0, .int 0, .int 0, .int 0, .int 0, .ref u22, .ref u23, .ref u24, .ref u25, .int 0, .ref u26, .ref u27, .ref u28, .ref u29, .int 0, .ref u30, .ref u31, .int 0, .int 0, .ref u32, .int 0, .int 0, .int 0, .ref u33, .ref u34, .ref u35, .int 0, .int 0, .ref u36, .ref u37, .ref u38, .ref u39, .ref u40, .ref u41, .ref u42, .ref u43, .ref u44, .ref u45, .int 0, .ref u46, .ref u47, .ref u48]))] H := hP
  have hD : va_D A [(h0, .inr (13, [.ref u0, .int 0, .ref u1, .ref u2, .int 0, .ref u3, .ref u4, .ref u5, .ref u6, .ref u7, .ref u8, .ref u9, .ref u10, .int 0, .ref u11, .ref u12, .int 0, .ref u13, .int (-1), .ref u14, .int 0, .int 0, .ref u15, .int 0, .int 0, .ref u16, .ref u17, .ref u18, .ref u19, .ref u20, .int 0, .ref u21, .int 0, .int 0, .int 0, .int 0, .int 0, .int 0, .ref u22, .ref u23, .ref u24, .ref u25, .int 0, .ref u26, .ref u27, .ref u28, .ref u29, .int 0, .ref u30, .ref u31, .int 0, .int 0, .ref u32, .int 0, .int 0, .int 0, .ref u33, .ref u34, .ref u35, .int 0, .int 0, .ref u36, .ref u37, .ref u38, .ref u39, .ref u40, .ref u41, .ref u42, .ref u43, .ref u44, .ref u45, .int 0, .ref u46, .ref u47, .ref u48]))] := hD
  refine lv_iload_n hx hb dX13_count_5 rfl (lv_at hl 1 rfl) ?_
  refine lv_tableIn (off := 52) (tgt := 58) hx hb dX13_count_6 (by decide) (by decide) (by decide) (by decide) ?_
  refine lv_aload_n hx hb dX13_count_58 rfl (lv_at hl 0 rfl) ?_
  refine va_get (D := (dC, dI)) (ci := 13) (v := .int 0) (C := RX13) (T := TX13) (N := 75) hx hb hG zuX13 hown hK hP 0 rfl rfl 4 (by decide) (hG _ zw376) (fun _ h9 => h9) rfl dX13_count_59 ?_
  have hP9 := hP.sub (ws' := [(h0, .inr (13, [.ref u0, .int 0, .ref u1, .ref u2, .int 0, .ref u3, .ref u4, .ref u5, .ref u6, .ref u7, .ref u8, .ref u9, .ref u10, .int 0, .ref u11, .ref u12, .int 0, .ref u13, .int (-1), .ref u14, .int 0, .int 0, .ref u15, .int 0, .int 0, .ref u16, .ref u17, .ref u18, .ref u19, .ref u20, .int 0, .ref u21, .int 0, .int 0, .int 0, .int 0, .int 0, .int 0, .ref u22, .ref u23, .ref u24, .ref u25, .int 0, .ref u26, .ref u27, .ref u28, .ref u29, .int 0, .ref u30, .ref u31, .int 0, .int 0, .ref u32, .int 0, .int 0, .int 0, .ref u33, .ref u34, .ref u35, .int 0, .int 0, .ref u36, .ref u37, .ref u38, .ref u39, .ref u40, .ref u41, .ref u42, .ref u43, .ref u44, .ref u45, .int 0, .ref u46, .ref u47, .ref u48]))]) [0] rfl
  have hD9 := hD.sub (ws' := [(h0, .inr (13, [.ref u0, .int 0, .ref u1, .ref u2, .int 0, .ref u3, .ref u4, .ref u5, .ref u6, .ref u7, .ref u8, .ref u9, .ref u10, .int 0, .ref u11, .ref u12, .int 0, .ref u13, .int (-1), .ref u14, .int 0, .int 0, .ref u15, .int 0, .int 0, .ref u16, .ref u17, .ref u18, .ref u19, .ref u20, .int 0, .ref u21, .int 0, .int 0, .int 0, .int 0, .int 0, .int 0, .ref u22, .ref u23, .ref u24, .ref u25, .int 0, .ref u26, .ref u27, .ref u28, .ref u29, .int 0, .ref u30, .ref u31, .int 0, .int 0, .ref u32, .int 0, .int 0, .int 0, .ref u33, .ref u34, .ref u35, .int 0, .int 0, .ref u36, .ref u37, .ref u38, .ref u39, .ref u40, .ref u41, .ref u42, .ref u43, .ref u44, .ref u45, .int 0, .ref u46, .ref u47, .ref u48]))]) [0] (by decide) rfl
  have hK9 := hK.sub (tys' := []) [] rfl
  refine W.widen (k := 0) (n := 0) (by decide) (by decide) ?_
  exact W.iret (v := 0) hx hb hr (fun t ht hW => ⟨⟨0, (), rfl, rfl, by rw [ht]; exact hP9, va_K.moved hW.alike hK9, hD9⟩, hS.F ht⟩) hS.2.2 dX13_count_62
set_option maxHeartbeats 4000000 in
set_option maxRecDepth 100000 in
theorem kX11_count_4 (l : Launch) (dC : Nat → ClassId) (dI : Nat → Nat → Nat) (h0 h1 u0 u1 u2 u3 u4 u5 u6 u7 u8 u9 u10 u11 u12 u13 u14 u15 u16 : Nat) (sz : Nat) : Met l yX11_count (zw yX11_count cX11_count 2 (some .int)) { frames := 1, cells := 0, slots := 0, locals := 20 } (zPc dC dI [.ref h0, .int 3] sz [(h0, .inr (11, [.ref u0, .ref u1, .ref u2, .ref u3, .ref h1, .ref u4, .ref u5, .ref u6, .ref u7, .ref u8, .null, .long (-1)])), (h1, .inr (6, [.ref u9, .ref u10, .ref u11, .ref u12, .ref u13, .ref u14, .ref u15, .ref u16, .int 0, .int 0, .int 0, .int 0]))] []) (va_Qi (fun (r : Int32) (_ : Unit) => r = 0) (fun (_ : Unit) (t : State) => va_P (dC, dI) vwCl [(h0, .inr (11, [.ref u0, .ref u1, .ref u2, .ref u3, .ref h1, .ref u4, .ref u5, .ref u6, .ref u7, .ref u8, .null, .long (-1)])), (h1, .inr (6, [.ref u9, .ref u10, .ref u11, .ref u12, .ref u13, .ref u14, .ref u15, .ref u16, .int 0, .int 0, .int 0, .int 0]))] t.heap ∧ va_K (dC, dI) vwCl [] t ∧ va_D (va_A [(h0, .inr (11, [.ref u0, .ref u1, .ref u2, .ref u3, .ref h1, .ref u4, .ref u5, .ref u6, .ref u7, .ref u8, .null, .long (-1)])), (h1, .inr (6, [.ref u9, .ref u10, .ref u11, .ref u12, .ref u13, .ref u14, .ref u15, .ref u16, .int 0, .int 0, .int 0, .int 0]))] sz) [(h0, .inr (11, [.ref u0, .ref u1, .ref u2, .ref u3, .ref h1, .ref u4, .ref u5, .ref u6, .ref u7, .ref u8, .null, .long (-1)])), (h1, .inr (6, [.ref u9, .ref u10, .ref u11, .ref u12, .ref u13, .ref u14, .ref u15, .ref u16, .int 0, .int 0, .int 0, .int 0]))]) (va_A [(h0, .inr (11, [.ref u0, .ref u1, .ref u2, .ref u3, .ref h1, .ref u4, .ref u5, .ref u6, .ref u7, .ref u8, .null, .long (-1)])), (h1, .inr (6, [.ref u9, .ref u10, .ref u11, .ref u12, .ref u13, .ref u14, .ref u15, .ref u16, .int 0, .int 0, .int 0, .int 0]))] sz)) 0 0 (va_A [(h0, .inr (11, [.ref u0, .ref u1, .ref u2, .ref u3, .ref h1, .ref u4, .ref u5, .ref u6, .ref u7, .ref u8, .null, .long (-1)])), (h1, .inr (6, [.ref u9, .ref u10, .ref u11, .ref u12, .ref u13, .ref u14, .ref u15, .ref u16, .int 0, .int 0, .int 0, .int 0]))] sz) := by
  refine Met.ofW (cc := cX11_count) (maxL := 2) (ret := (some .int)) (by decide) rfl ?_
  intro p e s m args below meth c s₁ B hml hv
  obtain ⟨rfl, hsz, hP, hK, hD0, hE, hZ⟩ := hv
  have hx := B.exec
  have hb := B.bytes
  have hr := B.returns
  have hG : ∀ w ∈ zG, w.before _ s = true := fun w h => atoms_spec (ws := (zw yX11_count cX11_count 2 (some .int))) B.pre w (List.mem_cons_of_mem _ h)
  have hown : s.vm.findClass RX11 = some m.cls := findClass_of_methodNamed B.named
  have hlocks := B.notSynchronized
  subst hsz
  have hD := hD0.self (sz := s.heap.size)
  generalize hAe : va_A [(h0, .inr (11, [.ref u0, .ref u1, .ref u2, .ref u3, .ref h1, .ref u4, .ref u5, .ref u6, .ref u7, .ref u8, .null, .long (-1)])), (h1, .inr (6, [.ref u9, .ref u10, .ref u11, .ref u12, .ref u13, .ref u14, .ref u15, .ref u16, .int 0, .int 0, .int 0, .int 0]))] s.heap.size = A at hD hZ ⊢
  have hA : ∀ q : Nat, s.heap.size ≤ q → A q := fun q h => by rw [← hAe]; exact Or.inr h
  have hS : va_S A s.heap s.heap [] := va_S.rf
  have hl := lv_entry ([.ref h0, .int 3]) (n := 2) (Nat.le_of_ble_eq_true rfl)
  rw [lg_entry_eq]
  generalize (lg_sl ([.ref h0, .int 3]) ++ List.replicate (2 - (lg_sl ([.ref h0, .int 3])).length) Slot.unset).toArray = ls at hl ⊢
  have hl : lv_has ls 2 [(0, .ref h0), (1, .int 3)] := hl
  refine lv_iload_n hx hb dX11_count_0 rfl (lv_at hl 1 rfl) ?_
  refine lv_tableIn (off := 67) (tgt := 68) hx hb dX11_count_1 (by decide) (by decide) (by decide) (by decide) ?_
  refine lv_aload_n hx hb dX11_count_68 rfl (lv_at hl 0 rfl) ?_
  refine va_get (D := (dC, dI)) (ci := 11) (v := .ref h1) (C := RX11) (T := TX11) (N := 12) hx hb hG zuX11 hown hK hP 0 rfl rfl 4 (by decide) (hG _ zw69) (fun _ h9 => h9) rfl dX11_count_69 ?_
  have hPc := hP.sub (ws' := [(h1, .inr (6, [.ref u9, .ref u10, .ref u11, .ref u12, .ref u13, .ref u14, .ref u15, .ref u16, .int 0, .int 0, .int 0, .int 0]))]) [1] rfl
  have hDc := hD.sub (ws' := [(h1, .inr (6, [.ref u9, .ref u10, .ref u11, .ref u12, .ref u13, .ref u14, .ref u15, .ref u16, .int 0, .int 0, .int 0, .int 0]))]) [1] (by decide) rfl
  have hKc := hK.sub (tys' := []) [] rfl
  have hFc := va_free (wc := [(h1, .inr (6, [.ref u9, .ref u10, .ref u11, .ref u12, .ref u13, .ref u14, .ref u15, .ref u16, .int 0, .int 0, .int 0, .int 0]))]) hD hS hA [1] rfl
  refine va_calli (va_runV (As := []) (rest := []) ⟨hx, hb, hml, hown, hG⟩ (kX6_taken_0 l dC dI h1 u9 u10 u11 u12 u13 u14 u15 u16 s.heap.size) (cwV 0 hG (zgV zw441 zw343 zw344 zw53 zw345) rfl rfl rfl (by decide +kernel) ⟨Nat.le_of_ble_eq_true rfl, Nat.le_of_ble_eq_true rfl⟩) ⟨zPc_blind, va_recv hKc hPc (ci := 6) (q0 := 0) rfl rfl, zPc_pre hPc hKc hDc hE hS hFc hZ⟩ rfl rfl hl.1 rfl (lv_room (Nat.le_of_ble_eq_true rfl)) dX11_count_72 ⟨Nat.le_of_ble_eq_true rfl, Nat.le_of_ble_eq_true rfl⟩) hS (fun q _ h => hFc q h) hFc (fun r_5308 u t H1 locs ht hvm hw hB hz1 hk1 hS => ?_)
  have hw : r_5308 = 0 := hw
  subst hw
  obtain ⟨hP1, hK1, hD1⟩ := hB
  rw [ht] at hP1
  obtain ⟨hP, hD⟩ := va_join (wr := [(h0, .inr (11, [.ref u0, .ref u1, .ref u2, .ref u3, .ref h1, .ref u4, .ref u5, .ref u6, .ref u7, .ref u8, .null, .long (-1)]))]) (w1 := [(h1, .inr (6, [.ref u9, .ref u10, .ref u11, .ref u12, .ref u13, .ref u14, .ref u15, .ref u16, .int 0, .int 0, .int 0, .int 0]))]) hP hD [1] [0] rfl rfl (by decide) (by decide) hk1 hFc hP1 hD1
  generalize H1 = H at hP hS ⊢
  have hP : va_P (dC, dI) vwCl [(h0, .inr (11, [.ref u0, .ref u1, .ref u2, .ref u3, .ref h1, .ref u4, .ref u5, .ref u6, .ref u7, .ref u8, .null, .long (-1)])), (h1, .inr (6, [.ref u9, .ref u10, .ref u11, .ref u12, .ref u13, .ref u14, .ref u15, .ref u16, .int 0, .int 0, .int 0, .int 0]))] H := hP
  have hD : va_D A [(h0, .inr (11, [.ref u0, .ref u1, .ref u2, .ref u3, .ref h1, .ref u4, .ref u5, .ref u6, .ref u7, .ref u8, .null, .long (-1)])), (h1, .inr (6, [.ref u9, .ref u10, .ref u11, .ref u12, .ref u13, .ref u14, .ref u15, .ref u16, .int 0, .int 0, .int 0, .int 0]))] := hD
  have hP9 := hP.sub (ws' := [(h0, .inr (11, [.ref u0, .ref u1, .ref u2, .ref u3, .ref h1, .ref u4, .ref u5, .ref u6, .ref u7, .ref u8, .null, .long (-1)])), (h1, .inr (6, [.ref u9, .ref u10, .ref u11, .ref u12, .ref u13, .ref u14, .ref u15, .ref u16, .int 0, .int 0, .int 0, .int 0]))]) [0, 1] rfl
  have hD9 := hD.sub (ws' := [(h0, .inr (11, [.ref u0, .ref u1, .ref u2, .ref u3, .ref h1, .ref u4, .ref u5, .ref u6, .ref u7, .ref u8, .null, .long (-1)])), (h1, .inr (6, [.ref u9, .ref u10, .ref u11, .ref u12, .ref u13, .ref u14, .ref u15, .ref u16, .int 0, .int 0, .int 0, .int 0]))]) [0, 1] (by decide) rfl
  have hK9 := hK.sub (tys' := []) [] rfl
  refine W.widen (k := 0) (n := 0) (by decide) (by decide) ?_
  exact W.iret (v := 0) hx hb hr (fun t ht hW => ⟨⟨0, (), rfl, rfl, by rw [ht]; exact hP9, va_K.moved hW.alike hK9, hD9⟩, hS.F ht⟩) hS.2.2 dX11_count_75
set_option maxHeartbeats 4000000 in
set_option maxRecDepth 100000 in
theorem kX13_count_4 (l : Launch) (dC : Nat → ClassId) (dI : Nat → Nat → Nat) (h0 u0 u1 u2 u3 u4 u5 u6 u7 u8 u9 u10 u11 u12 u13 u14 u15 u16 u17 u18 u19 u20 u21 u22 u23 u24 u25 u26 u27 u28 u29 u30 u31 u32 u33 u34 u35 u36 u37 u38 u39 u40 u41 u42 u43 u44 u45 u46 u47 u48 : Nat) (sz : Nat) : Met l yX13_count (zw yX13_count cX13_count 2 (some .int)) { frames := 2, cells := 0, slots := 0, locals := 45 } (zPc dC dI [.ref h0, .int 3] sz [(h0, .inr (13, [.ref u0, .int 0, .ref u1, .ref u2, .int 0, .ref u3, .ref u4, .ref u5, .ref u6, .ref u7, .ref u8, .ref u9, .ref u10, .int 0, .ref u11, .ref u12, .int 0, .ref u13, .int (-1), .ref u14, .int 0, .int 0, .ref u15, .int 0, .int 0, .ref u16, .ref u17, .ref u18, .ref u19, .ref u20, .int 0, .ref u21, .int 0, .int 0, .int 0, .int 0, .int 0, .int 0, .ref u22, .ref u23, .ref u24, .ref u25, .int 0, .ref u26, .ref u27, .ref u28, .ref u29, .int 0, .ref u30, .ref u31, .int 0, .int 0, .ref u32, .int 0, .int 0, .int 0, .ref u33, .ref u34, .ref u35, .int 0, .int 0, .ref u36, .ref u37, .ref u38, .ref u39, .ref u40, .ref u41, .ref u42, .ref u43, .ref u44, .ref u45, .int 0, .ref u46, .ref u47, .ref u48]))] []) (va_Qi (fun (r : Int32) (_ : Unit) => r = 0) (fun (_ : Unit) (t : State) => va_P (dC, dI) vwCl [(h0, .inr (13, [.ref u0, .int 0, .ref u1, .ref u2, .int 0, .ref u3, .ref u4, .ref u5, .ref u6, .ref u7, .ref u8, .ref u9, .ref u10, .int 0, .ref u11, .ref u12, .int 0, .ref u13, .int (-1), .ref u14, .int 0, .int 0, .ref u15, .int 0, .int 0, .ref u16, .ref u17, .ref u18, .ref u19, .ref u20, .int 0, .ref u21, .int 0, .int 0, .int 0, .int 0, .int 0, .int 0, .ref u22, .ref u23, .ref u24, .ref u25, .int 0, .ref u26, .ref u27, .ref u28, .ref u29, .int 0, .ref u30, .ref u31, .int 0, .int 0, .ref u32, .int 0, .int 0, .int 0, .ref u33, .ref u34, .ref u35, .int 0, .int 0, .ref u36, .ref u37, .ref u38, .ref u39, .ref u40, .ref u41, .ref u42, .ref u43, .ref u44, .ref u45, .int 0, .ref u46, .ref u47, .ref u48]))] t.heap ∧ va_K (dC, dI) vwCl [] t ∧ va_D (va_A [(h0, .inr (13, [.ref u0, .int 0, .ref u1, .ref u2, .int 0, .ref u3, .ref u4, .ref u5, .ref u6, .ref u7, .ref u8, .ref u9, .ref u10, .int 0, .ref u11, .ref u12, .int 0, .ref u13, .int (-1), .ref u14, .int 0, .int 0, .ref u15, .int 0, .int 0, .ref u16, .ref u17, .ref u18, .ref u19, .ref u20, .int 0, .ref u21, .int 0, .int 0, .int 0, .int 0, .int 0, .int 0, .ref u22, .ref u23, .ref u24, .ref u25, .int 0, .ref u26, .ref u27, .ref u28, .ref u29, .int 0, .ref u30, .ref u31, .int 0, .int 0, .ref u32, .int 0, .int 0, .int 0, .ref u33, .ref u34, .ref u35, .int 0, .int 0, .ref u36, .ref u37, .ref u38, .ref u39, .ref u40, .ref u41, .ref u42, .ref u43, .ref u44, .ref u45, .int 0, .ref u46, .ref u47, .ref u48]))] sz) [(h0, .inr (13, [.ref u0, .int 0, .ref u1, .ref u2, .int 0, .ref u3, .ref u4, .ref u5, .ref u6, .ref u7, .ref u8, .ref u9, .ref u10, .int 0, .ref u11, .ref u12, .int 0, .ref u13, .int (-1), .ref u14, .int 0, .int 0, .ref u15, .int 0, .int 0, .ref u16, .ref u17, .ref u18, .ref u19, .ref u20, .int 0, .ref u21, .int 0, .int 0, .int 0, .int 0, .int 0, .int 0, .ref u22, .ref u23, .ref u24, .ref u25, .int 0, .ref u26, .ref u27, .ref u28, .ref u29, .int 0, .ref u30, .ref u31, .int 0, .int 0, .ref u32, .int 0, .int 0, .int 0, .ref u33, .ref u34, .ref u35, .int 0, .int 0, .ref u36, .ref u37, .ref u38, .ref u39, .ref u40, .ref u41, .ref u42, .ref u43, .ref u44, .ref u45, .int 0, .ref u46, .ref u47, .ref u48]))]) (va_A [(h0, .inr (13, [.ref u0, .int 0, .ref u1, .ref u2, .int 0, .ref u3, .ref u4, .ref u5, .ref u6, .ref u7, .ref u8, .ref u9, .ref u10, .int 0, .ref u11, .ref u12, .int 0, .ref u13, .int (-1), .ref u14, .int 0, .int 0, .ref u15, .int 0, .int 0, .ref u16, .ref u17, .ref u18, .ref u19, .ref u20, .int 0, .ref u21, .int 0, .int 0, .int 0, .int 0, .int 0, .int 0, .ref u22, .ref u23, .ref u24, .ref u25, .int 0, .ref u26, .ref u27, .ref u28, .ref u29, .int 0, .ref u30, .ref u31, .int 0, .int 0, .ref u32, .int 0, .int 0, .int 0, .ref u33, .ref u34, .ref u35, .int 0, .int 0, .ref u36, .ref u37, .ref u38, .ref u39, .ref u40, .ref u41, .ref u42, .ref u43, .ref u44, .ref u45, .int 0, .ref u46, .ref u47, .ref u48]))] sz)) 0 0 (va_A [(h0, .inr (13, [.ref u0, .int 0, .ref u1, .ref u2, .int 0, .ref u3, .ref u4, .ref u5, .ref u6, .ref u7, .ref u8, .ref u9, .ref u10, .int 0, .ref u11, .ref u12, .int 0, .ref u13, .int (-1), .ref u14, .int 0, .int 0, .ref u15, .int 0, .int 0, .ref u16, .ref u17, .ref u18, .ref u19, .ref u20, .int 0, .ref u21, .int 0, .int 0, .int 0, .int 0, .int 0, .int 0, .ref u22, .ref u23, .ref u24, .ref u25, .int 0, .ref u26, .ref u27, .ref u28, .ref u29, .int 0, .ref u30, .ref u31, .int 0, .int 0, .ref u32, .int 0, .int 0, .int 0, .ref u33, .ref u34, .ref u35, .int 0, .int 0, .ref u36, .ref u37, .ref u38, .ref u39, .ref u40, .ref u41, .ref u42, .ref u43, .ref u44, .ref u45, .int 0, .ref u46, .ref u47, .ref u48]))] sz) := by
  refine Met.ofW (cc := cX13_count) (maxL := 2) (ret := (some .int)) (by decide) rfl ?_
  intro p e s m args below meth c s₁ B hml hv
  obtain ⟨rfl, hsz, hP, hK, hD0, hE, hZ⟩ := hv
  have hx := B.exec
  have hb := B.bytes
  have hr := B.returns
  have hG : ∀ w ∈ zG, w.before _ s = true := fun w h => atoms_spec (ws := (zw yX13_count cX13_count 2 (some .int))) B.pre w (List.mem_cons_of_mem _ h)
  have hown : s.vm.findClass RX13 = some m.cls := findClass_of_methodNamed B.named
  have hlocks := B.notSynchronized
  subst hsz
  have hD := hD0.self (sz := s.heap.size)
  generalize hAe : va_A [(h0, .inr (13, [.ref u0, .int 0, .ref u1, .ref u2, .int 0, .ref u3, .ref u4, .ref u5, .ref u6, .ref u7, .ref u8, .ref u9, .ref u10, .int 0, .ref u11, .ref u12, .int 0, .ref u13, .int (-1), .ref u14, .int 0, .int 0, .ref u15, .int 0, .int 0, .ref u16, .ref u17, .ref u18, .ref u19, .ref u20, .int 0, .ref u21, .int 0, .int 0, .int 0, .int 0, .int 0, .int 0, .ref u22, .ref u23, .ref u24, .ref u25, .int 0, .ref u26, .ref u27, .ref u28, .ref u29, .int 0, .ref u30, .ref u31, .int 0, .int 0, .ref u32, .int 0, .int 0, .int 0, .ref u33, .ref u34, .ref u35, .int 0, .int 0, .ref u36, .ref u37, .ref u38, .ref u39, .ref u40, .ref u41, .ref u42, .ref u43, .ref u44, .ref u45, .int 0, .ref u46, .ref u47, .ref u48]))] s.heap.size = A at hD hZ ⊢
  have hA : ∀ q : Nat, s.heap.size ≤ q → A q := fun q h => by rw [← hAe]; exact Or.inr h
  have hS : va_S A s.heap s.heap [] := va_S.rf
  have hl := lv_entry ([.ref h0, .int 3]) (n := 2) (Nat.le_of_ble_eq_true rfl)
  rw [lg_entry_eq]
  generalize (lg_sl ([.ref h0, .int 3]) ++ List.replicate (2 - (lg_sl ([.ref h0, .int 3])).length) Slot.unset).toArray = ls at hl ⊢
  have hl : lv_has ls 2 [(0, .ref h0), (1, .int 3)] := hl
  refine lv_aload_n hx hb dX13_count_0 rfl (lv_at hl 0 rfl) ?_
  refine lv_iconst (v := 0) hx hb dX13_count_1 (by decide) ?_
  refine va_put (D := (dC, dI)) (ci := 13) (v := .int 0) (ty := .int) (C := RX13) (T := TX13) (N := 75) hx hb hG zuX13 tyX13 tyX13_ok nmX13 hown hK hP hD hS 0 rfl rfl 21 (by decide) (hG _ zw302) (fun _ h9 => h9) rfl (by decide +kernel) rfl rfl (Nat.le_of_ble_eq_true rfl) dX13_count_2 (fun H locs hP hD hS => ?_)
  have hP : va_P (dC, dI) vwCl [(h0, .inr (13, [.ref u0, .int 0, .ref u1, .ref u2, .int 0, .ref u3, .ref u4, .ref u5, .ref u6, .ref u7, .ref u8, .ref u9, .ref u10, .int 0, .ref u11, .ref u12, .int 0, .ref u13, .int (-1), .ref u14, .int 0, .int 0, .ref u15, .int 0, .int 0, .ref u16, .ref u17, .ref u18, .ref u19, .ref u20, .int 0, .ref u21, .int 0, .int 0, .int 0, .int 0, .int 0, .int 0, .ref u22, .ref u23, .ref u24, .ref u25, .int 0, .ref u26, .ref u27, .ref u28, .ref u29, .int 0, .ref u30, .ref u31, .int 0, .int 0, .ref u32, .int 0, .int 0, .int 0, .ref u33, .ref u34, .ref u35, .int 0, .int 0, .ref u36, .ref u37, .ref u38, .ref u39, .ref u40, .ref u41, .ref u42, .ref u43, .ref u44, .ref u45, .int 0, .ref u46, .ref u47, .ref u48]))] H := hP
  have hD : va_D A [(h0, .inr (13, [.ref u0, .int 0, .ref u1, .ref u2, .int 0, .ref u3, .ref u4, .ref u5, .ref u6, .ref u7, .ref u8, .ref u9, .ref u10, .int 0, .ref u11, .ref u12, .int 0, .ref u13, .int (-1), .ref u14, .int 0, .int 0, .ref u15, .int 0, .int 0, .ref u16, .ref u17, .ref u18, .ref u19, .ref u20, .int 0, .ref u21, .int 0, .int 0, .int 0, .int 0, .int 0, .int 0, .ref u22, .ref u23, .ref u24, .ref u25, .int 0, .ref u26, .ref u27, .ref u28, .ref u29, .int 0, .ref u30, .ref u31, .int 0, .int 0, .ref u32, .int 0, .int 0, .int 0, .ref u33, .ref u34, .ref u35, .int 0, .int 0, .ref u36, .ref u37, .ref u38, .ref u39, .ref u40, .ref u41, .ref u42, .ref u43, .ref u44, .ref u45, .int 0, .ref u46, .ref u47, .ref u48]))] := hD
  refine lv_iload_n hx hb dX13_count_5 rfl (lv_at hl 1 rfl) ?_
  refine lv_tableIn (off := 57) (tgt := 63) hx hb dX13_count_6 (by decide) (by decide) (by decide) (by decide) ?_
  refine lv_aload_n hx hb dX13_count_63 rfl (lv_at hl 0 rfl) ?_
  have hPc := hP.sub (ws' := [(h0, .inr (13, [.ref u0, .int 0, .ref u1, .ref u2, .int 0, .ref u3, .ref u4, .ref u5, .ref u6, .ref u7, .ref u8, .ref u9, .ref u10, .int 0, .ref u11, .ref u12, .int 0, .ref u13, .int (-1), .ref u14, .int 0, .int 0, .ref u15, .int 0, .int 0, .ref u16, .ref u17, .ref u18, .ref u19, .ref u20, .int 0, .ref u21, .int 0, .int 0, .int 0, .int 0, .int 0, .int 0, .ref u22, .ref u23, .ref u24, .ref u25, .int 0, .ref u26, .ref u27, .ref u28, .ref u29, .int 0, .ref u30, .ref u31, .int 0, .int 0, .ref u32, .int 0, .int 0, .int 0, .ref u33, .ref u34, .ref u35, .int 0, .int 0, .ref u36, .ref u37, .ref u38, .ref u39, .ref u40, .ref u41, .ref u42, .ref u43, .ref u44, .ref u45, .int 0, .ref u46, .ref u47, .ref u48]))]) [0] rfl
  have hDc := hD.sub (ws' := [(h0, .inr (13, [.ref u0, .int 0, .ref u1, .ref u2, .int 0, .ref u3, .ref u4, .ref u5, .ref u6, .ref u7, .ref u8, .ref u9, .ref u10, .int 0, .ref u11, .ref u12, .int 0, .ref u13, .int (-1), .ref u14, .int 0, .int 0, .ref u15, .int 0, .int 0, .ref u16, .ref u17, .ref u18, .ref u19, .ref u20, .int 0, .ref u21, .int 0, .int 0, .int 0, .int 0, .int 0, .int 0, .ref u22, .ref u23, .ref u24, .ref u25, .int 0, .ref u26, .ref u27, .ref u28, .ref u29, .int 0, .ref u30, .ref u31, .int 0, .int 0, .ref u32, .int 0, .int 0, .int 0, .ref u33, .ref u34, .ref u35, .int 0, .int 0, .ref u36, .ref u37, .ref u38, .ref u39, .ref u40, .ref u41, .ref u42, .ref u43, .ref u44, .ref u45, .int 0, .ref u46, .ref u47, .ref u48]))]) [0] (by decide) rfl
  have hKc := hK.sub (tys' := []) [] rfl
  have hFc := va_free (wc := [(h0, .inr (13, [.ref u0, .int 0, .ref u1, .ref u2, .int 0, .ref u3, .ref u4, .ref u5, .ref u6, .ref u7, .ref u8, .ref u9, .ref u10, .int 0, .ref u11, .ref u12, .int 0, .ref u13, .int (-1), .ref u14, .int 0, .int 0, .ref u15, .int 0, .int 0, .ref u16, .ref u17, .ref u18, .ref u19, .ref u20, .int 0, .ref u21, .int 0, .int 0, .int 0, .int 0, .int 0, .int 0, .ref u22, .ref u23, .ref u24, .ref u25, .int 0, .ref u26, .ref u27, .ref u28, .ref u29, .int 0, .ref u30, .ref u31, .int 0, .int 0, .ref u32, .int 0, .int 0, .int 0, .ref u33, .ref u34, .ref u35, .int 0, .int 0, .ref u36, .ref u37, .ref u38, .ref u39, .ref u40, .ref u41, .ref u42, .ref u43, .ref u44, .ref u45, .int 0, .ref u46, .ref u47, .ref u48]))]) hD hS hA [0] rfl
  refine va_calli (va_runV (As := []) (rest := []) ⟨hx, hb, hml, hown, hG⟩ (kX13_taken_1 l dC dI h0 u0 u1 u2 u3 u4 u5 u6 u7 u8 u9 u10 u11 u12 u13 u14 u15 u16 u17 u18 u19 u20 u21 u22 u23 u24 u25 u26 u27 u28 u29 u30 u31 u32 u33 u34 u35 u36 u37 u38 u39 u40 u41 u42 u43 u44 u45 u46 u47 u48 H.size) (cwV 0 hG (zgV zw385 zw386 zw387 zw207 zw388) rfl rfl rfl (by decide +kernel) ⟨Nat.le_of_ble_eq_true rfl, Nat.le_of_ble_eq_true rfl⟩) ⟨zPc_blind, va_recv hKc hPc (ci := 13) (q0 := 0) rfl rfl, zPc_pre hPc hKc hDc hE hS hFc hZ⟩ rfl rfl hl.1 rfl (lv_room (Nat.le_of_ble_eq_true rfl)) dX13_count_64 ⟨Nat.le_of_ble_eq_true rfl, Nat.le_of_ble_eq_true rfl⟩) hS (fun q _ h => hFc q h) hFc (fun r_5332 u t H1 locs ht hvm hw hB hz1 hk1 hS => ?_)
  have hw : r_5332 = 0 := hw
  subst hw
  obtain ⟨hP1, hK1, hD1⟩ := hB
  rw [ht] at hP1
  obtain ⟨hP, hD⟩ := va_join (wr := []) (w1 := [(h0, .inr (13, [.ref u0, .int 0, .ref u1, .ref u2, .int 0, .ref u3, .ref u4, .ref u5, .ref u6, .ref u7, .ref u8, .ref u9, .ref u10, .int 0, .ref u11, .ref u12, .int 0, .ref u13, .int (-1), .ref u14, .int 0, .int 0, .ref u15, .int 0, .int 0, .ref u16, .ref u17, .ref u18, .ref u19, .ref u20, .int 0, .ref u21, .int 0, .int 0, .int 0, .int 0, .int 0, .int 0, .ref u22, .ref u23, .ref u24, .ref u25, .int 0, .ref u26, .ref u27, .ref u28, .ref u29, .int 0, .ref u30, .ref u31, .int 0, .int 0, .ref u32, .int 0, .int 0, .int 0, .ref u33, .ref u34, .ref u35, .int 0, .int 0, .ref u36, .ref u37, .ref u38, .ref u39, .ref u40, .ref u41, .ref u42, .ref u43, .ref u44, .ref u45, .int 0, .ref u46, .ref u47, .ref u48]))]) hP hD [0] [] rfl rfl (by decide) (by decide) hk1 hFc hP1 hD1
  generalize H1 = H at hP hS ⊢
  have hP : va_P (dC, dI) vwCl [(h0, .inr (13, [.ref u0, .int 0, .ref u1, .ref u2, .int 0, .ref u3, .ref u4, .ref u5, .ref u6, .ref u7, .ref u8, .ref u9, .ref u10, .int 0, .ref u11, .ref u12, .int 0, .ref u13, .int (-1), .ref u14, .int 0, .int 0, .ref u15, .int 0, .int 0, .ref u16, .ref u17, .ref u18, .ref u19, .ref u20, .int 0, .ref u21, .int 0, .int 0, .int 0, .int 0, .int 0, .int 0, .ref u22, .ref u23, .ref u24, .ref u25, .int 0, .ref u26, .ref u27, .ref u28, .ref u29, .int 0, .ref u30, .ref u31, .int 0, .int 0, .ref u32, .int 0, .int 0, .int 0, .ref u33, .ref u34, .ref u35, .int 0, .int 0, .ref u36, .ref u37, .ref u38, .ref u39, .ref u40, .ref u41, .ref u42, .ref u43, .ref u44, .ref u45, .int 0, .ref u46, .ref u47, .ref u48]))] H := hP
  have hD : va_D A [(h0, .inr (13, [.ref u0, .int 0, .ref u1, .ref u2, .int 0, .ref u3, .ref u4, .ref u5, .ref u6, .ref u7, .ref u8, .ref u9, .ref u10, .int 0, .ref u11, .ref u12, .int 0, .ref u13, .int (-1), .ref u14, .int 0, .int 0, .ref u15, .int 0, .int 0, .ref u16, .ref u17, .ref u18, .ref u19, .ref u20, .int 0, .ref u21, .int 0, .int 0, .int 0, .int 0, .int 0, .int 0, .ref u22, .ref u23, .ref u24, .ref u25, .int 0, .ref u26, .ref u27, .ref u28, .ref u29, .int 0, .ref u30, .ref u31, .int 0, .int 0, .ref u32, .int 0, .int 0, .int 0, .ref u33, .ref u34, .ref u35, .int 0, .int 0, .ref u36, .ref u37, .ref u38, .ref u39, .ref u40, .ref u41, .ref u42, .ref u43, .ref u44, .ref u45, .int 0, .ref u46, .ref u47, .ref u48]))] := hD
  have hP9 := hP.sub (ws' := [(h0, .inr (13, [.ref u0, .int 0, .ref u1, .ref u2, .int 0, .ref u3, .ref u4, .ref u5, .ref u6, .ref u7, .ref u8, .ref u9, .ref u10, .int 0, .ref u11, .ref u12, .int 0, .ref u13, .int (-1), .ref u14, .int 0, .int 0, .ref u15, .int 0, .int 0, .ref u16, .ref u17, .ref u18, .ref u19, .ref u20, .int 0, .ref u21, .int 0, .int 0, .int 0, .int 0, .int 0, .int 0, .ref u22, .ref u23, .ref u24, .ref u25, .int 0, .ref u26, .ref u27, .ref u28, .ref u29, .int 0, .ref u30, .ref u31, .int 0, .int 0, .ref u32, .int 0, .int 0, .int 0, .ref u33, .ref u34, .ref u35, .int 0, .int 0, .ref u36, .ref u37, .ref u38, .ref u39, .ref u40, .ref u41, .ref u42, .ref u43, .ref u44, .ref u45, .int 0, .ref u46, .ref u47, .ref u48]))]) [0] rfl
  have hD9 := hD.sub (ws' := [(h0, .inr (13, [.ref u0, .int 0, .ref u1, .ref u2, .int 0, .ref u3, .ref u4, .ref u5, .ref u6, .ref u7, .ref u8, .ref u9, .ref u10, .int 0, .ref u11, .ref u12, .int 0, .ref u13, .int (-1), .ref u14, .int 0, .int 0, .ref u15, .int 0, .int 0, .ref u16, .ref u17, .ref u18, .ref u19, .ref u20, .int 0, .ref u21, .int 0, .int 0, .int 0, .int 0, .int 0, .int 0, .ref u22, .ref u23, .ref u24, .ref u25, .int 0, .ref u26, .ref u27, .ref u28, .ref u29, .int 0, .ref u30, .ref u31, .int 0, .int 0, .ref u32, .int 0, .int 0, .int 0, .ref u33, .ref u34, .ref u35, .int 0, .int 0, .ref u36, .ref u37, .ref u38, .ref u39, .ref u40, .ref u41, .ref u42, .ref u43, .ref u44, .ref u45, .int 0, .ref u46, .ref u47, .ref u48]))]) [0] (by decide) rfl
  have hK9 := hK.sub (tys' := []) [] rfl
  refine W.widen (k := 0) (n := 0) (by decide) (by decide) ?_
  exact W.iret (v := 0) hx hb hr (fun t ht hW => ⟨⟨0, (), rfl, rfl, by rw [ht]; exact hP9, va_K.moved hW.alike hK9, hD9⟩, hS.F ht⟩) hS.2.2 dX13_count_67
set_option maxHeartbeats 4000000 in
set_option maxRecDepth 100000 in
theorem kX6_allBits_0 (l : Launch) (dC : Nat → ClassId) (dI : Nat → Nat → Nat) (h0 u0 u1 u2 u3 u4 u5 u6 u7 : Nat) (sz : Nat) : Met l yX6_allBits (zw yX6_allBits cX6_allBits 1 (some .int)) { frames := 0, cells := 0, slots := 0, locals := 0 } (zPc dC dI [.ref h0] sz [(h0, .inr (6, [.ref u0, .ref u1, .ref u2, .ref u3, .ref u4, .ref u5, .ref u6, .ref u7, .int 0, .int 0, .int 0, .int 0]))] []) (va_Qi (fun (r : Int32) (_ : Unit) => r = 0) (fun (_ : Unit) (t : State) => va_P (dC, dI) vwCl [(h0, .inr (6, [.ref u0, .ref u1, .ref u2, .ref u3, .ref u4, .ref u5, .ref u6, .ref u7, .int 0, .int 0, .int 0, .int 0]))] t.heap ∧ va_K (dC, dI) vwCl [] t ∧ va_D (va_A [(h0, .inr (6, [.ref u0, .ref u1, .ref u2, .ref u3, .ref u4, .ref u5, .ref u6, .ref u7, .int 0, .int 0, .int 0, .int 0]))] sz) [(h0, .inr (6, [.ref u0, .ref u1, .ref u2, .ref u3, .ref u4, .ref u5, .ref u6, .ref u7, .int 0, .int 0, .int 0, .int 0]))]) (va_A [(h0, .inr (6, [.ref u0, .ref u1, .ref u2, .ref u3, .ref u4, .ref u5, .ref u6, .ref u7, .int 0, .int 0, .int 0, .int 0]))] sz)) 0 0 (va_A [(h0, .inr (6, [.ref u0, .ref u1, .ref u2, .ref u3, .ref u4, .ref u5, .ref u6, .ref u7, .int 0, .int 0, .int 0, .int 0]))] sz) := by
  refine Met.ofW (cc := cX6_allBits) (maxL := 1) (ret := (some .int)) (by decide) rfl ?_
  intro p e s m args below meth c s₁ B hml hv
  obtain ⟨rfl, hsz, hP, hK, hD0, hE, hZ⟩ := hv
  have hx := B.exec
  have hb := B.bytes
  have hr := B.returns
  have hG : ∀ w ∈ zG, w.before _ s = true := fun w h => atoms_spec (ws := (zw yX6_allBits cX6_allBits 1 (some .int))) B.pre w (List.mem_cons_of_mem _ h)
  have hown : s.vm.findClass RX6 = some m.cls := findClass_of_methodNamed B.named
  have hlocks := B.notSynchronized
  subst hsz
  have hD := hD0.self (sz := s.heap.size)
  generalize hAe : va_A [(h0, .inr (6, [.ref u0, .ref u1, .ref u2, .ref u3, .ref u4, .ref u5, .ref u6, .ref u7, .int 0, .int 0, .int 0, .int 0]))] s.heap.size = A at hD hZ ⊢
  have hA : ∀ q : Nat, s.heap.size ≤ q → A q := fun q h => by rw [← hAe]; exact Or.inr h
  have hS : va_S A s.heap s.heap [] := va_S.rf
  have hl := lv_entry ([.ref h0]) (n := 1) (Nat.le_of_ble_eq_true rfl)
  rw [lg_entry_eq]
  generalize (lg_sl ([.ref h0]) ++ List.replicate (1 - (lg_sl ([.ref h0])).length) Slot.unset).toArray = ls at hl ⊢
  have hl : lv_has ls 1 [(0, .ref h0)] := hl
  refine lv_aload_n hx hb dX6_allBits_0 rfl (lv_at hl 0 rfl) ?_
  refine va_get (D := (dC, dI)) (ci := 6) (v := .int 0) (C := RX6) (T := TX6) (N := 12) hx hb hG zuX6 hown hK hP 0 rfl rfl 10 (by decide) (hG _ zw65) (fun _ h9 => h9) rfl dX6_allBits_1 ?_
  have hP9 := hP.sub (ws' := [(h0, .inr (6, [.ref u0, .ref u1, .ref u2, .ref u3, .ref u4, .ref u5, .ref u6, .ref u7, .int 0, .int 0, .int 0, .int 0]))]) [0] rfl
  have hD9 := hD.sub (ws' := [(h0, .inr (6, [.ref u0, .ref u1, .ref u2, .ref u3, .ref u4, .ref u5, .ref u6, .ref u7, .int 0, .int 0, .int 0, .int 0]))]) [0] (by decide) rfl
  have hK9 := hK.sub (tys' := []) [] rfl
  refine W.widen (k := 0) (n := 0) (by decide) (by decide) ?_
  exact W.iret (v := 0) hx hb hr (fun t ht hW => ⟨⟨0, (), rfl, rfl, by rw [ht]; exact hP9, va_K.moved hW.alike hK9, hD9⟩, hS.F ht⟩) hS.2.2 dX6_allBits_4
set_option maxHeartbeats 4000000 in
set_option maxRecDepth 100000 in
theorem kX11_count_5 (l : Launch) (dC : Nat → ClassId) (dI : Nat → Nat → Nat) (h0 h1 u0 u1 u2 u3 u4 u5 u6 u7 u8 u9 u10 u11 u12 u13 u14 u15 u16 : Nat) (sz : Nat) : Met l yX11_count (zw yX11_count cX11_count 2 (some .int)) { frames := 1, cells := 0, slots := 0, locals := 20 } (zPc dC dI [.ref h0, .int 4] sz [(h0, .inr (11, [.ref u0, .ref u1, .ref u2, .ref u3, .ref h1, .ref u4, .ref u5, .ref u6, .ref u7, .ref u8, .null, .long (-1)])), (h1, .inr (6, [.ref u9, .ref u10, .ref u11, .ref u12, .ref u13, .ref u14, .ref u15, .ref u16, .int 0, .int 0, .int 0, .int 0]))] []) (va_Qi (fun (r : Int32) (_ : Unit) => r = 0) (fun (_ : Unit) (t : State) => va_P (dC, dI) vwCl [(h0, .inr (11, [.ref u0, .ref u1, .ref u2, .ref u3, .ref h1, .ref u4, .ref u5, .ref u6, .ref u7, .ref u8, .null, .long (-1)])), (h1, .inr (6, [.ref u9, .ref u10, .ref u11, .ref u12, .ref u13, .ref u14, .ref u15, .ref u16, .int 0, .int 0, .int 0, .int 0]))] t.heap ∧ va_K (dC, dI) vwCl [] t ∧ va_D (va_A [(h0, .inr (11, [.ref u0, .ref u1, .ref u2, .ref u3, .ref h1, .ref u4, .ref u5, .ref u6, .ref u7, .ref u8, .null, .long (-1)])), (h1, .inr (6, [.ref u9, .ref u10, .ref u11, .ref u12, .ref u13, .ref u14, .ref u15, .ref u16, .int 0, .int 0, .int 0, .int 0]))] sz) [(h0, .inr (11, [.ref u0, .ref u1, .ref u2, .ref u3, .ref h1, .ref u4, .ref u5, .ref u6, .ref u7, .ref u8, .null, .long (-1)])), (h1, .inr (6, [.ref u9, .ref u10, .ref u11, .ref u12, .ref u13, .ref u14, .ref u15, .ref u16, .int 0, .int 0, .int 0, .int 0]))]) (va_A [(h0, .inr (11, [.ref u0, .ref u1, .ref u2, .ref u3, .ref h1, .ref u4, .ref u5, .ref u6, .ref u7, .ref u8, .null, .long (-1)])), (h1, .inr (6, [.ref u9, .ref u10, .ref u11, .ref u12, .ref u13, .ref u14, .ref u15, .ref u16, .int 0, .int 0, .int 0, .int 0]))] sz)) 0 0 (va_A [(h0, .inr (11, [.ref u0, .ref u1, .ref u2, .ref u3, .ref h1, .ref u4, .ref u5, .ref u6, .ref u7, .ref u8, .null, .long (-1)])), (h1, .inr (6, [.ref u9, .ref u10, .ref u11, .ref u12, .ref u13, .ref u14, .ref u15, .ref u16, .int 0, .int 0, .int 0, .int 0]))] sz) := by
  refine Met.ofW (cc := cX11_count) (maxL := 2) (ret := (some .int)) (by decide) rfl ?_
  intro p e s m args below meth c s₁ B hml hv
  obtain ⟨rfl, hsz, hP, hK, hD0, hE, hZ⟩ := hv
  have hx := B.exec
  have hb := B.bytes
  have hr := B.returns
  have hG : ∀ w ∈ zG, w.before _ s = true := fun w h => atoms_spec (ws := (zw yX11_count cX11_count 2 (some .int))) B.pre w (List.mem_cons_of_mem _ h)
  have hown : s.vm.findClass RX11 = some m.cls := findClass_of_methodNamed B.named
  have hlocks := B.notSynchronized
  subst hsz
  have hD := hD0.self (sz := s.heap.size)
  generalize hAe : va_A [(h0, .inr (11, [.ref u0, .ref u1, .ref u2, .ref u3, .ref h1, .ref u4, .ref u5, .ref u6, .ref u7, .ref u8, .null, .long (-1)])), (h1, .inr (6, [.ref u9, .ref u10, .ref u11, .ref u12, .ref u13, .ref u14, .ref u15, .ref u16, .int 0, .int 0, .int 0, .int 0]))] s.heap.size = A at hD hZ ⊢
  have hA : ∀ q : Nat, s.heap.size ≤ q → A q := fun q h => by rw [← hAe]; exact Or.inr h
  have hS : va_S A s.heap s.heap [] := va_S.rf
  have hl := lv_entry ([.ref h0, .int 4]) (n := 2) (Nat.le_of_ble_eq_true rfl)
  rw [lg_entry_eq]
  generalize (lg_sl ([.ref h0, .int 4]) ++ List.replicate (2 - (lg_sl ([.ref h0, .int 4])).length) Slot.unset).toArray = ls at hl ⊢
  have hl : lv_has ls 2 [(0, .ref h0), (1, .int 4)] := hl
  refine lv_iload_n hx hb dX11_count_0 rfl (lv_at hl 1 rfl) ?_
  refine lv_tableIn (off := 75) (tgt := 76) hx hb dX11_count_1 (by decide) (by decide) (by decide) (by decide) ?_
  refine lv_aload_n hx hb dX11_count_76 rfl (lv_at hl 0 rfl) ?_
  refine va_get (D := (dC, dI)) (ci := 11) (v := .ref h1) (C := RX11) (T := TX11) (N := 12) hx hb hG zuX11 hown hK hP 0 rfl rfl 4 (by decide) (hG _ zw69) (fun _ h9 => h9) rfl dX11_count_77 ?_
  have hPc := hP.sub (ws' := [(h1, .inr (6, [.ref u9, .ref u10, .ref u11, .ref u12, .ref u13, .ref u14, .ref u15, .ref u16, .int 0, .int 0, .int 0, .int 0]))]) [1] rfl
  have hDc := hD.sub (ws' := [(h1, .inr (6, [.ref u9, .ref u10, .ref u11, .ref u12, .ref u13, .ref u14, .ref u15, .ref u16, .int 0, .int 0, .int 0, .int 0]))]) [1] (by decide) rfl
  have hKc := hK.sub (tys' := []) [] rfl
  have hFc := va_free (wc := [(h1, .inr (6, [.ref u9, .ref u10, .ref u11, .ref u12, .ref u13, .ref u14, .ref u15, .ref u16, .int 0, .int 0, .int 0, .int 0]))]) hD hS hA [1] rfl
  refine va_calli (va_runV (As := []) (rest := []) ⟨hx, hb, hml, hown, hG⟩ (kX6_allBits_0 l dC dI h1 u9 u10 u11 u12 u13 u14 u15 u16 s.heap.size) (cwV 0 hG (zgV zw586 zw587 zw588 zw53 zw589) rfl rfl rfl (by decide +kernel) ⟨Nat.le_of_ble_eq_true rfl, Nat.le_of_ble_eq_true rfl⟩) ⟨zPc_blind, va_recv hKc hPc (ci := 6) (q0 := 0) rfl rfl, zPc_pre hPc hKc hDc hE hS hFc hZ⟩ rfl rfl hl.1 rfl (lv_room (Nat.le_of_ble_eq_true rfl)) dX11_count_80 ⟨Nat.le_of_ble_eq_true rfl, Nat.le_of_ble_eq_true rfl⟩) hS (fun q _ h => hFc q h) hFc (fun r_5345 u t H1 locs ht hvm hw hB hz1 hk1 hS => ?_)
  have hw : r_5345 = 0 := hw
  subst hw
  obtain ⟨hP1, hK1, hD1⟩ := hB
  rw [ht] at hP1
  obtain ⟨hP, hD⟩ := va_join (wr := [(h0, .inr (11, [.ref u0, .ref u1, .ref u2, .ref u3, .ref h1, .ref u4, .ref u5, .ref u6, .ref u7, .ref u8, .null, .long (-1)]))]) (w1 := [(h1, .inr (6, [.ref u9, .ref u10, .ref u11, .ref u12, .ref u13, .ref u14, .ref u15, .ref u16, .int 0, .int 0, .int 0, .int 0]))]) hP hD [1] [0] rfl rfl (by decide) (by decide) hk1 hFc hP1 hD1
  generalize H1 = H at hP hS ⊢
  have hP : va_P (dC, dI) vwCl [(h0, .inr (11, [.ref u0, .ref u1, .ref u2, .ref u3, .ref h1, .ref u4, .ref u5, .ref u6, .ref u7, .ref u8, .null, .long (-1)])), (h1, .inr (6, [.ref u9, .ref u10, .ref u11, .ref u12, .ref u13, .ref u14, .ref u15, .ref u16, .int 0, .int 0, .int 0, .int 0]))] H := hP
  have hD : va_D A [(h0, .inr (11, [.ref u0, .ref u1, .ref u2, .ref u3, .ref h1, .ref u4, .ref u5, .ref u6, .ref u7, .ref u8, .null, .long (-1)])), (h1, .inr (6, [.ref u9, .ref u10, .ref u11, .ref u12, .ref u13, .ref u14, .ref u15, .ref u16, .int 0, .int 0, .int 0, .int 0]))] := hD
  have hP9 := hP.sub (ws' := [(h0, .inr (11, [.ref u0, .ref u1, .ref u2, .ref u3, .ref h1, .ref u4, .ref u5, .ref u6, .ref u7, .ref u8, .null, .long (-1)])), (h1, .inr (6, [.ref u9, .ref u10, .ref u11, .ref u12, .ref u13, .ref u14, .ref u15, .ref u16, .int 0, .int 0, .int 0, .int 0]))]) [0, 1] rfl
  have hD9 := hD.sub (ws' := [(h0, .inr (11, [.ref u0, .ref u1, .ref u2, .ref u3, .ref h1, .ref u4, .ref u5, .ref u6, .ref u7, .ref u8, .null, .long (-1)])), (h1, .inr (6, [.ref u9, .ref u10, .ref u11, .ref u12, .ref u13, .ref u14, .ref u15, .ref u16, .int 0, .int 0, .int 0, .int 0]))]) [0, 1] (by decide) rfl
  have hK9 := hK.sub (tys' := []) [] rfl
  refine W.widen (k := 0) (n := 0) (by decide) (by decide) ?_
  exact W.iret (v := 0) hx hb hr (fun t ht hW => ⟨⟨0, (), rfl, rfl, by rw [ht]; exact hP9, va_K.moved hW.alike hK9, hD9⟩, hS.F ht⟩) hS.2.2 dX11_count_83
set_option maxHeartbeats 4000000 in
set_option maxRecDepth 100000 in
theorem kX13_allBits_0 (l : Launch) (dC : Nat → ClassId) (dI : Nat → Nat → Nat) (h0 u0 u1 u2 u3 u4 u5 u6 u7 u8 u9 u10 u11 u12 u13 u14 u15 u16 u17 u18 u19 u20 u21 u22 u23 u24 u25 u26 u27 u28 u29 u30 u31 u32 u33 u34 u35 u36 u37 u38 u39 u40 u41 u42 u43 u44 u45 u46 u47 u48 : Nat) (sz : Nat) : Met l yX13_allBits (zw yX13_allBits cX13_allBits 3 (some .int)) { frames := 1, cells := 0, slots := 0, locals := 23 } (zPc dC dI [.ref h0] sz [(h0, .inr (13, [.ref u0, .int 0, .ref u1, .ref u2, .int 0, .ref u3, .ref u4, .ref u5, .ref u6, .ref u7, .ref u8, .ref u9, .ref u10, .int 0, .ref u11, .ref u12, .int 0, .ref u13, .int (-1), .ref u14, .int 0, .int 0, .ref u15, .int 0, .int 0, .ref u16, .ref u17, .ref u18, .ref u19, .ref u20, .int 0, .ref u21, .int 0, .int 0, .int 0, .int 0, .int 0, .int 0, .ref u22, .ref u23, .ref u24, .ref u25, .int 0, .ref u26, .ref u27, .ref u28, .ref u29, .int 0, .ref u30, .ref u31, .int 0, .int 0, .ref u32, .int 0, .int 0, .int 0, .ref u33, .ref u34, .ref u35, .int 0, .int 0, .ref u36, .ref u37, .ref u38, .ref u39, .ref u40, .ref u41, .ref u42, .ref u43, .ref u44, .ref u45, .int 0, .ref u46, .ref u47, .ref u48]))] []) (va_Qi (fun (r : Int32) (_ : Unit) => r = 0) (fun (_ : Unit) (t : State) => va_P (dC, dI) vwCl [(h0, .inr (13, [.ref u0, .int 0, .ref u1, .ref u2, .int 0, .ref u3, .ref u4, .ref u5, .ref u6, .ref u7, .ref u8, .ref u9, .ref u10, .int 0, .ref u11, .ref u12, .int 0, .ref u13, .int (-1), .ref u14, .int 0, .int 0, .ref u15, .int 0, .int 0, .ref u16, .ref u17, .ref u18, .ref u19, .ref u20, .int 0, .ref u21, .int 0, .int 0, .int 0, .int 0, .int 0, .int 0, .ref u22, .ref u23, .ref u24, .ref u25, .int 0, .ref u26, .ref u27, .ref u28, .ref u29, .int 0, .ref u30, .ref u31, .int 0, .int 0, .ref u32, .int 0, .int 0, .int 0, .ref u33, .ref u34, .ref u35, .int 0, .int 0, .ref u36, .ref u37, .ref u38, .ref u39, .ref u40, .ref u41, .ref u42, .ref u43, .ref u44, .ref u45, .int 0, .ref u46, .ref u47, .ref u48]))] t.heap ∧ va_K (dC, dI) vwCl [] t ∧ va_D (va_A [(h0, .inr (13, [.ref u0, .int 0, .ref u1, .ref u2, .int 0, .ref u3, .ref u4, .ref u5, .ref u6, .ref u7, .ref u8, .ref u9, .ref u10, .int 0, .ref u11, .ref u12, .int 0, .ref u13, .int (-1), .ref u14, .int 0, .int 0, .ref u15, .int 0, .int 0, .ref u16, .ref u17, .ref u18, .ref u19, .ref u20, .int 0, .ref u21, .int 0, .int 0, .int 0, .int 0, .int 0, .int 0, .ref u22, .ref u23, .ref u24, .ref u25, .int 0, .ref u26, .ref u27, .ref u28, .ref u29, .int 0, .ref u30, .ref u31, .int 0, .int 0, .ref u32, .int 0, .int 0, .int 0, .ref u33, .ref u34, .ref u35, .int 0, .int 0, .ref u36, .ref u37, .ref u38, .ref u39, .ref u40, .ref u41, .ref u42, .ref u43, .ref u44, .ref u45, .int 0, .ref u46, .ref u47, .ref u48]))] sz) [(h0, .inr (13, [.ref u0, .int 0, .ref u1, .ref u2, .int 0, .ref u3, .ref u4, .ref u5, .ref u6, .ref u7, .ref u8, .ref u9, .ref u10, .int 0, .ref u11, .ref u12, .int 0, .ref u13, .int (-1), .ref u14, .int 0, .int 0, .ref u15, .int 0, .int 0, .ref u16, .ref u17, .ref u18, .ref u19, .ref u20, .int 0, .ref u21, .int 0, .int 0, .int 0, .int 0, .int 0, .int 0, .ref u22, .ref u23, .ref u24, .ref u25, .int 0, .ref u26, .ref u27, .ref u28, .ref u29, .int 0, .ref u30, .ref u31, .int 0, .int 0, .ref u32, .int 0, .int 0, .int 0, .ref u33, .ref u34, .ref u35, .int 0, .int 0, .ref u36, .ref u37, .ref u38, .ref u39, .ref u40, .ref u41, .ref u42, .ref u43, .ref u44, .ref u45, .int 0, .ref u46, .ref u47, .ref u48]))]) (va_A [(h0, .inr (13, [.ref u0, .int 0, .ref u1, .ref u2, .int 0, .ref u3, .ref u4, .ref u5, .ref u6, .ref u7, .ref u8, .ref u9, .ref u10, .int 0, .ref u11, .ref u12, .int 0, .ref u13, .int (-1), .ref u14, .int 0, .int 0, .ref u15, .int 0, .int 0, .ref u16, .ref u17, .ref u18, .ref u19, .ref u20, .int 0, .ref u21, .int 0, .int 0, .int 0, .int 0, .int 0, .int 0, .ref u22, .ref u23, .ref u24, .ref u25, .int 0, .ref u26, .ref u27, .ref u28, .ref u29, .int 0, .ref u30, .ref u31, .int 0, .int 0, .ref u32, .int 0, .int 0, .int 0, .ref u33, .ref u34, .ref u35, .int 0, .int 0, .ref u36, .ref u37, .ref u38, .ref u39, .ref u40, .ref u41, .ref u42, .ref u43, .ref u44, .ref u45, .int 0, .ref u46, .ref u47, .ref u48]))] sz)) 0 0 (va_A [(h0, .inr (13, [.ref u0, .int 0, .ref u1, .ref u2, .int 0, .ref u3, .ref u4, .ref u5, .ref u6, .ref u7, .ref u8, .ref u9, .ref u10, .int 0, .ref u11, .ref u12, .int 0, .ref u13, .int (-1), .ref u14, .int 0, .int 0, .ref u15, .int 0, .int 0, .ref u16, .ref u17, .ref u18, .ref u19, .ref u20, .int 0, .ref u21, .int 0, .int 0, .int 0, .int 0, .int 0, .int 0, .ref u22, .ref u23, .ref u24, .ref u25, .int 0, .ref u26, .ref u27, .ref u28, .ref u29, .int 0, .ref u30, .ref u31, .int 0, .int 0, .ref u32, .int 0, .int 0, .int 0, .ref u33, .ref u34, .ref u35, .int 0, .int 0, .ref u36, .ref u37, .ref u38, .ref u39, .ref u40, .ref u41, .ref u42, .ref u43, .ref u44, .ref u45, .int 0, .ref u46, .ref u47, .ref u48]))] sz) := by
  refine Met.ofW (cc := cX13_allBits) (maxL := 3) (ret := (some .int)) (by decide) rfl ?_
  intro p e s m args below meth c s₁ B hml hv
  obtain ⟨rfl, hsz, hP, hK, hD0, hE, hZ⟩ := hv
  have hx := B.exec
  have hb := B.bytes
  have hr := B.returns
  have hG : ∀ w ∈ zG, w.before _ s = true := fun w h => atoms_spec (ws := (zw yX13_allBits cX13_allBits 3 (some .int))) B.pre w (List.mem_cons_of_mem _ h)
  have hown : s.vm.findClass RX13 = some m.cls := findClass_of_methodNamed B.named
  have hlocks := B.notSynchronized
  subst hsz
  have hD := hD0.self (sz := s.heap.size)
  generalize hAe : va_A [(h0, .inr (13, [.ref u0, .int 0, .ref u1, .ref u2, .int 0, .ref u3, .ref u4, .ref u5, .ref u6, .ref u7, .ref u8, .ref u9, .ref u10, .int 0, .ref u11, .ref u12, .int 0, .ref u13, .int (-1), .ref u14, .int 0, .int 0, .ref u15, .int 0, .int 0, .ref u16, .ref u17, .ref u18, .ref u19, .ref u20, .int 0, .ref u21, .int 0, .int 0, .int 0, .int 0, .int 0, .int 0, .ref u22, .ref u23, .ref u24, .ref u25, .int 0, .ref u26, .ref u27, .ref u28, .ref u29, .int 0, .ref u30, .ref u31, .int 0, .int 0, .ref u32, .int 0, .int 0, .int 0, .ref u33, .ref u34, .ref u35, .int 0, .int 0, .ref u36, .ref u37, .ref u38, .ref u39, .ref u40, .ref u41, .ref u42, .ref u43, .ref u44, .ref u45, .int 0, .ref u46, .ref u47, .ref u48]))] s.heap.size = A at hD hZ ⊢
  have hA : ∀ q : Nat, s.heap.size ≤ q → A q := fun q h => by rw [← hAe]; exact Or.inr h
  have hS : va_S A s.heap s.heap [] := va_S.rf
  have hl := lv_entry ([.ref h0]) (n := 3) (Nat.le_of_ble_eq_true rfl)
  rw [lg_entry_eq]
  generalize (lg_sl ([.ref h0]) ++ List.replicate (3 - (lg_sl ([.ref h0])).length) Slot.unset).toArray = ls at hl ⊢
  have hl : lv_has ls 3 [(0, .ref h0)] := hl
  refine lv_aload_n hx hb dX13_allBits_0 rfl (lv_at hl 0 rfl) ?_
  have hPc := hP.sub (ws' := [(h0, .inr (13, [.ref u0, .int 0, .ref u1, .ref u2, .int 0, .ref u3, .ref u4, .ref u5, .ref u6, .ref u7, .ref u8, .ref u9, .ref u10, .int 0, .ref u11, .ref u12, .int 0, .ref u13, .int (-1), .ref u14, .int 0, .int 0, .ref u15, .int 0, .int 0, .ref u16, .ref u17, .ref u18, .ref u19, .ref u20, .int 0, .ref u21, .int 0, .int 0, .int 0, .int 0, .int 0, .int 0, .ref u22, .ref u23, .ref u24, .ref u25, .int 0, .ref u26, .ref u27, .ref u28, .ref u29, .int 0, .ref u30, .ref u31, .int 0, .int 0, .ref u32, .int 0, .int 0, .int 0, .ref u33, .ref u34, .ref u35, .int 0, .int 0, .ref u36, .ref u37, .ref u38, .ref u39, .ref u40, .ref u41, .ref u42, .ref u43, .ref u44, .ref u45, .int 0, .ref u46, .ref u47, .ref u48]))]) [0] rfl
  have hDc := hD.sub (ws' := [(h0, .inr (13, [.ref u0, .int 0, .ref u1, .ref u2, .int 0, .ref u3, .ref u4, .ref u5, .ref u6, .ref u7, .ref u8, .ref u9, .ref u10, .int 0, .ref u11, .ref u12, .int 0, .ref u13, .int (-1), .ref u14, .int 0, .int 0, .ref u15, .int 0, .int 0, .ref u16, .ref u17, .ref u18, .ref u19, .ref u20, .int 0, .ref u21, .int 0, .int 0, .int 0, .int 0, .int 0, .int 0, .ref u22, .ref u23, .ref u24, .ref u25, .int 0, .ref u26, .ref u27, .ref u28, .ref u29, .int 0, .ref u30, .ref u31, .int 0, .int 0, .ref u32, .int 0, .int 0, .int 0, .ref u33, .ref u34, .ref u35, .int 0, .int 0, .ref u36, .ref u37, .ref u38, .ref u39, .ref u40, .ref u41, .ref u42, .ref u43, .ref u44, .ref u45, .int 0, .ref u46, .ref u47, .ref u48]))]) [0] (by decide) rfl
  have hKc := hK.sub (tys' := []) [] rfl
  have hFc := va_free (wc := [(h0, .inr (13, [.ref u0, .int 0, .ref u1, .ref u2, .int 0, .ref u3, .ref u4, .ref u5, .ref u6, .ref u7, .ref u8, .ref u9, .ref u10, .int 0, .ref u11, .ref u12, .int 0, .ref u13, .int (-1), .ref u14, .int 0, .int 0, .ref u15, .int 0, .int 0, .ref u16, .ref u17, .ref u18, .ref u19, .ref u20, .int 0, .ref u21, .int 0, .int 0, .int 0, .int 0, .int 0, .int 0, .ref u22, .ref u23, .ref u24, .ref u25, .int 0, .ref u26, .ref u27, .ref u28, .ref u29, .int 0, .ref u30, .ref u31, .int 0, .int 0, .ref u32, .int 0, .int 0, .int 0, .ref u33, .ref u34, .ref u35, .int 0, .int 0, .ref u36, .ref u37, .ref u38, .ref u39, .ref u40, .ref u41, .ref u42, .ref u43, .ref u44, .ref u45, .int 0, .ref u46, .ref u47, .ref u48]))]) hD hS hA [0] rfl
  refine va_callv (va_runV (As := []) (rest := []) ⟨hx, hb, hml, hown, hG⟩ (kX13_measure_1 l dC dI h0 u0 u1 u2 u3 u4 u5 u6 u7 u8 u9 u10 u11 u12 u13 u14 u15 u16 u17 u18 u19 u20 u21 u22 u23 u24 u25 u26 u27 u28 u29 u30 u31 u32 u33 u34 u35 u36 u37 u38 u39 u40 u41 u42 u43 u44 u45 u46 u47 u48 s.heap.size) (cwV 0 hG (zgV zw381 zw382 zw383 zw207 zw384) rfl rfl rfl (by decide +kernel) ⟨Nat.le_of_ble_eq_true rfl, Nat.le_of_ble_eq_true rfl⟩) ⟨zPc_blind, va_recv hKc hPc (ci := 13) (q0 := 0) rfl rfl, zPc_pre hPc hKc hDc hE hS hFc hZ⟩ rfl rfl hl.1 rfl (lv_room (Nat.le_of_ble_eq_true rfl)) dX13_allBits_1 ⟨Nat.le_of_ble_eq_true rfl, Nat.le_of_ble_eq_true rfl⟩) hS (fun q _ h => hFc q h) hFc (fun u t H1 locs ht hvm hw hB hz1 hk1 hS => ?_)
  obtain ⟨hP1, hK1, hD1⟩ := hB
  rw [ht] at hP1
  obtain ⟨hP, hD⟩ := va_join (wr := []) (w1 := [(h0, .inr (13, [.ref u0, .int 0, .ref u1, .ref u2, .int 0, .ref u3, .ref u4, .ref u5, .ref u6, .ref u7, .ref u8, .ref u9, .ref u10, .int 0, .ref u11, .ref u12, .int 0, .ref u13, .int (-1), .ref u14, .int 0, .int 0, .ref u15, .int 0, .int 0, .ref u16, .ref u17, .ref u18, .ref u19, .ref u20, .int 0, .ref u21, .int 0, .int 0, .int 0, .int 0, .int 0, .int 0, .ref u22, .ref u23, .ref u24, .ref u25, .int 0, .ref u26, .ref u27, .ref u28, .ref u29, .int 0, .ref u30, .ref u31, .int 0, .int 0, .ref u32, .int 0, .int 0, .int 0, .ref u33, .ref u34, .ref u35, .int 0, .int 0, .ref u36, .ref u37, .ref u38, .ref u39, .ref u40, .ref u41, .ref u42, .ref u43, .ref u44, .ref u45, .int 0, .ref u46, .ref u47, .ref u48]))]) hP hD [0] [] rfl rfl (by decide) (by decide) hk1 hFc hP1 hD1
  generalize H1 = H at hP hS ⊢
  have hP : va_P (dC, dI) vwCl [(h0, .inr (13, [.ref u0, .int 0, .ref u1, .ref u2, .int 0, .ref u3, .ref u4, .ref u5, .ref u6, .ref u7, .ref u8, .ref u9, .ref u10, .int 0, .ref u11, .ref u12, .int 0, .ref u13, .int (-1), .ref u14, .int 0, .int 0, .ref u15, .int 0, .int 0, .ref u16, .ref u17, .ref u18, .ref u19, .ref u20, .int 0, .ref u21, .int 0, .int 0, .int 0, .int 0, .int 0, .int 0, .ref u22, .ref u23, .ref u24, .ref u25, .int 0, .ref u26, .ref u27, .ref u28, .ref u29, .int 0, .ref u30, .ref u31, .int 0, .int 0, .ref u32, .int 0, .int 0, .int 0, .ref u33, .ref u34, .ref u35, .int 0, .int 0, .ref u36, .ref u37, .ref u38, .ref u39, .ref u40, .ref u41, .ref u42, .ref u43, .ref u44, .ref u45, .int 0, .ref u46, .ref u47, .ref u48]))] H := hP
  have hD : va_D A [(h0, .inr (13, [.ref u0, .int 0, .ref u1, .ref u2, .int 0, .ref u3, .ref u4, .ref u5, .ref u6, .ref u7, .ref u8, .ref u9, .ref u10, .int 0, .ref u11, .ref u12, .int 0, .ref u13, .int (-1), .ref u14, .int 0, .int 0, .ref u15, .int 0, .int 0, .ref u16, .ref u17, .ref u18, .ref u19, .ref u20, .int 0, .ref u21, .int 0, .int 0, .int 0, .int 0, .int 0, .int 0, .ref u22, .ref u23, .ref u24, .ref u25, .int 0, .ref u26, .ref u27, .ref u28, .ref u29, .int 0, .ref u30, .ref u31, .int 0, .int 0, .ref u32, .int 0, .int 0, .int 0, .ref u33, .ref u34, .ref u35, .int 0, .int 0, .ref u36, .ref u37, .ref u38, .ref u39, .ref u40, .ref u41, .ref u42, .ref u43, .ref u44, .ref u45, .int 0, .ref u46, .ref u47, .ref u48]))] := hD
  refine lv_iconst (v := 0) hx hb dX13_allBits_4 (by decide) ?_
  refine lv_istore_n (lv' := [(1, .int 0), (0, .ref h0)]) hx hb dX13_allBits_5 rfl hl (by decide) rfl (fun ls hl => ?_)
  refine lv_iconst (v := 0) hx hb dX13_allBits_6 (by decide) ?_
  refine lv_istore_n (lv' := [(2, .int 0), (1, .int 0), (0, .ref h0)]) hx hb dX13_allBits_7 rfl hl (by decide) rfl (fun ls hl => ?_)
  refine lv_iload_n hx hb dX13_allBits_8 rfl (lv_at hl 0 rfl) ?_
  refine lv_aload_n hx hb dX13_allBits_9 rfl (lv_at hl 2 rfl) ?_
  refine va_get (D := (dC, dI)) (ci := 13) (v := .int 0) (C := RX13) (T := TX13) (N := 75) hx hb hG zuX13 hown hK hP 0 rfl rfl 4 (by decide) (hG _ zw376) (fun _ h9 => h9) rfl dX13_allBits_10 ?_
  refine lv_icmp_ge (tgt := 31) hx hb dX13_allBits_13 (by decide) (fun c_5364 => ?_) (fun c_5364 => absurd c_5364 (by decide))
  refine lv_iload_n hx hb dX13_allBits_31 rfl (lv_at hl 1 rfl) ?_
  have hP9 := hP.sub (ws' := [(h0, .inr (13, [.ref u0, .int 0, .ref u1, .ref u2, .int 0, .ref u3, .ref u4, .ref u5, .ref u6, .ref u7, .ref u8, .ref u9, .ref u10, .int 0, .ref u11, .ref u12, .int 0, .ref u13, .int (-1), .ref u14, .int 0, .int 0, .ref u15, .int 0, .int 0, .ref u16, .ref u17, .ref u18, .ref u19, .ref u20, .int 0, .ref u21, .int 0, .int 0, .int 0, .int 0, .int 0, .int 0, .ref u22, .ref u23, .ref u24, .ref u25, .int 0, .ref u26, .ref u27, .ref u28, .ref u29, .int 0, .ref u30, .ref u31, .int 0, .int 0, .ref u32, .int 0, .int 0, .int 0, .ref u33, .ref u34, .ref u35, .int 0, .int 0, .ref u36, .ref u37, .ref u38, .ref u39, .ref u40, .ref u41, .ref u42, .ref u43, .ref u44, .ref u45, .int 0, .ref u46, .ref u47, .ref u48]))]) [0] rfl
  have hD9 := hD.sub (ws' := [(h0, .inr (13, [.ref u0, .int 0, .ref u1, .ref u2, .int 0, .ref u3, .ref u4, .ref u5, .ref u6, .ref u7, .ref u8, .ref u9, .ref u10, .int 0, .ref u11, .ref u12, .int 0, .ref u13, .int (-1), .ref u14, .int 0, .int 0, .ref u15, .int 0, .int 0, .ref u16, .ref u17, .ref u18, .ref u19, .ref u20, .int 0, .ref u21, .int 0, .int 0, .int 0, .int 0, .int 0, .int 0, .ref u22, .ref u23, .ref u24, .ref u25, .int 0, .ref u26, .ref u27, .ref u28, .ref u29, .int 0, .ref u30, .ref u31, .int 0, .int 0, .ref u32, .int 0, .int 0, .int 0, .ref u33, .ref u34, .ref u35, .int 0, .int 0, .ref u36, .ref u37, .ref u38, .ref u39, .ref u40, .ref u41, .ref u42, .ref u43, .ref u44, .ref u45, .int 0, .ref u46, .ref u47, .ref u48]))]) [0] (by decide) rfl
  have hK9 := hK.sub (tys' := []) [] rfl
  refine W.widen (k := 0) (n := 0) (by decide) (by decide) ?_
  exact W.iret (v := 0) hx hb hr (fun t ht hW => ⟨⟨0, (), rfl, rfl, by rw [ht]; exact hP9, va_K.moved hW.alike hK9, hD9⟩, hS.F ht⟩) hS.2.2 dX13_allBits_32
set_option maxHeartbeats 4000000 in
set_option maxRecDepth 100000 in
theorem kX13_count_5 (l : Launch) (dC : Nat → ClassId) (dI : Nat → Nat → Nat) (h0 u0 u1 u2 u3 u4 u5 u6 u7 u8 u9 u10 u11 u12 u13 u14 u15 u16 u17 u18 u19 u20 u21 u22 u23 u24 u25 u26 u27 u28 u29 u30 u31 u32 u33 u34 u35 u36 u37 u38 u39 u40 u41 u42 u43 u44 u45 u46 u47 u48 : Nat) (sz : Nat) : Met l yX13_count (zw yX13_count cX13_count 2 (some .int)) { frames := 2, cells := 0, slots := 0, locals := 45 } (zPc dC dI [.ref h0, .int 4] sz [(h0, .inr (13, [.ref u0, .int 0, .ref u1, .ref u2, .int 0, .ref u3, .ref u4, .ref u5, .ref u6, .ref u7, .ref u8, .ref u9, .ref u10, .int 0, .ref u11, .ref u12, .int 0, .ref u13, .int (-1), .ref u14, .int 0, .int 0, .ref u15, .int 0, .int 0, .ref u16, .ref u17, .ref u18, .ref u19, .ref u20, .int 0, .ref u21, .int 0, .int 0, .int 0, .int 0, .int 0, .int 0, .ref u22, .ref u23, .ref u24, .ref u25, .int 0, .ref u26, .ref u27, .ref u28, .ref u29, .int 0, .ref u30, .ref u31, .int 0, .int 0, .ref u32, .int 0, .int 0, .int 0, .ref u33, .ref u34, .ref u35, .int 0, .int 0, .ref u36, .ref u37, .ref u38, .ref u39, .ref u40, .ref u41, .ref u42, .ref u43, .ref u44, .ref u45, .int 0, .ref u46, .ref u47, .ref u48]))] []) (va_Qi (fun (r : Int32) (_ : Unit) => r = 0) (fun (_ : Unit) (t : State) => va_P (dC, dI) vwCl [(h0, .inr (13, [.ref u0, .int 0, .ref u1, .ref u2, .int 0, .ref u3, .ref u4, .ref u5, .ref u6, .ref u7, .ref u8, .ref u9, .ref u10, .int 0, .ref u11, .ref u12, .int 0, .ref u13, .int (-1), .ref u14, .int 0, .int 0, .ref u15, .int 0, .int 0, .ref u16, .ref u17, .ref u18, .ref u19, .ref u20, .int 0, .ref u21, .int 0, .int 0, .int 0, .int 0, .int 0, .int 0, .ref u22, .ref u23, .ref u24, .ref u25, .int 0, .ref u26, .ref u27, .ref u28, .ref u29, .int 0, .ref u30, .ref u31, .int 0, .int 0, .ref u32, .int 0, .int 0, .int 0, .ref u33, .ref u34, .ref u35, .int 0, .int 0, .ref u36, .ref u37, .ref u38, .ref u39, .ref u40, .ref u41, .ref u42, .ref u43, .ref u44, .ref u45, .int 0, .ref u46, .ref u47, .ref u48]))] t.heap ∧ va_K (dC, dI) vwCl [] t ∧ va_D (va_A [(h0, .inr (13, [.ref u0, .int 0, .ref u1, .ref u2, .int 0, .ref u3, .ref u4, .ref u5, .ref u6, .ref u7, .ref u8, .ref u9, .ref u10, .int 0, .ref u11, .ref u12, .int 0, .ref u13, .int (-1), .ref u14, .int 0, .int 0, .ref u15, .int 0, .int 0, .ref u16, .ref u17, .ref u18, .ref u19, .ref u20, .int 0, .ref u21, .int 0, .int 0, .int 0, .int 0, .int 0, .int 0, .ref u22, .ref u23, .ref u24, .ref u25, .int 0, .ref u26, .ref u27, .ref u28, .ref u29, .int 0, .ref u30, .ref u31, .int 0, .int 0, .ref u32, .int 0, .int 0, .int 0, .ref u33, .ref u34, .ref u35, .int 0, .int 0, .ref u36, .ref u37, .ref u38, .ref u39, .ref u40, .ref u41, .ref u42, .ref u43, .ref u44, .ref u45, .int 0, .ref u46, .ref u47, .ref u48]))] sz) [(h0, .inr (13, [.ref u0, .int 0, .ref u1, .ref u2, .int 0, .ref u3, .ref u4, .ref u5, .ref u6, .ref u7, .ref u8, .ref u9, .ref u10, .int 0, .ref u11, .ref u12, .int 0, .ref u13, .int (-1), .ref u14, .int 0, .int 0, .ref u15, .int 0, .int 0, .ref u16, .ref u17, .ref u18, .ref u19, .ref u20, .int 0, .ref u21, .int 0, .int 0, .int 0, .int 0, .int 0, .int 0, .ref u22, .ref u23, .ref u24, .ref u25, .int 0, .ref u26, .ref u27, .ref u28, .ref u29, .int 0, .ref u30, .ref u31, .int 0, .int 0, .ref u32, .int 0, .int 0, .int 0, .ref u33, .ref u34, .ref u35, .int 0, .int 0, .ref u36, .ref u37, .ref u38, .ref u39, .ref u40, .ref u41, .ref u42, .ref u43, .ref u44, .ref u45, .int 0, .ref u46, .ref u47, .ref u48]))]) (va_A [(h0, .inr (13, [.ref u0, .int 0, .ref u1, .ref u2, .int 0, .ref u3, .ref u4, .ref u5, .ref u6, .ref u7, .ref u8, .ref u9, .ref u10, .int 0, .ref u11, .ref u12, .int 0, .ref u13, .int (-1), .ref u14, .int 0, .int 0, .ref u15, .int 0, .int 0, .ref u16, .ref u17, .ref u18, .ref u19, .ref u20, .int 0, .ref u21, .int 0, .int 0, .int 0, .int 0, .int 0, .int 0, .ref u22, .ref u23, .ref u24, .ref u25, .int 0, .ref u26, .ref u27, .ref u28, .ref u29, .int 0, .ref u30, .ref u31, .int 0, .int 0, .ref u32, .int 0, .int 0, .int 0, .ref u33, .ref u34, .ref u35, .int 0, .int 0, .ref u36, .ref u37, .ref u38, .ref u39, .ref u40, .ref u41, .ref u42, .ref u43, .ref u44, .ref u45, .int 0, .ref u46, .ref u47, .ref u48]))] sz)) 0 0 (va_A [(h0, .inr (13, [.ref u0, .int 0, .ref u1, .ref u2, .int 0, .ref u3, .ref u4, .ref u5, .ref u6, .ref u7, .ref u8, .ref u9, .ref u10, .int 0, .ref u11, .ref u12, .int 0, .ref u13, .int (-1), .ref u14, .int 0, .int 0, .ref u15, .int 0, .int 0, .ref u16, .ref u17, .ref u18, .ref u19, .ref u20, .int 0, .ref u21, .int 0, .int 0, .int 0, .int 0, .int 0, .int 0, .ref u22, .ref u23, .ref u24, .ref u25, .int 0, .ref u26, .ref u27, .ref u28, .ref u29, .int 0, .ref u30, .ref u31, .int 0, .int 0, .ref u32, .int 0, .int 0, .int 0, .ref u33, .ref u34, .ref u35, .int 0, .int 0, .ref u36, .ref u37, .ref u38, .ref u39, .ref u40, .ref u41, .ref u42, .ref u43, .ref u44, .ref u45, .int 0, .ref u46, .ref u47, .ref u48]))] sz) := by
  refine Met.ofW (cc := cX13_count) (maxL := 2) (ret := (some .int)) (by decide) rfl ?_
  intro p e s m args below meth c s₁ B hml hv
  obtain ⟨rfl, hsz, hP, hK, hD0, hE, hZ⟩ := hv
  have hx := B.exec
  have hb := B.bytes
  have hr := B.returns
  have hG : ∀ w ∈ zG, w.before _ s = true := fun w h => atoms_spec (ws := (zw yX13_count cX13_count 2 (some .int))) B.pre w (List.mem_cons_of_mem _ h)
  have hown : s.vm.findClass RX13 = some m.cls := findClass_of_methodNamed B.named
  have hlocks := B.notSynchronized
  subst hsz
  have hD := hD0.self (sz := s.heap.size)
  generalize hAe : va_A [(h0, .inr (13, [.ref u0, .int 0, .ref u1, .ref u2, .int 0, .ref u3, .ref u4, .ref u5, .ref u6, .ref u7, .ref u8, .ref u9, .ref u10, .int 0, .ref u11, .ref u12, .int 0, .ref u13, .int (-1), .ref u14, .int 0, .int 0, .ref u15, .int 0, .int 0, .ref u16, .ref u17, .ref u18, .ref u19, .ref u20, .int 0, .ref u21, .int 0, .int 0, .int 0, .int 0, .int 0, .int 0, .ref u22, .ref u23, .ref u24, .ref u25, .int 0, .ref u26, .ref u27, .ref u28, .ref u29, .int 0, .ref u30, .ref u31, .int 0, .int 0, .ref u32, .int 0, .int 0, .int 0, .ref u33, .ref u34, .ref u35, .int 0, .int 0, .ref u36, .ref u37, .ref u38, .ref u39, .ref u40, .ref u41, .ref u42, .ref u43, .ref u44, .ref u45, .int 0, .ref u46, .ref u47, .ref u48]))] s.heap.size = A at hD hZ ⊢
  have hA : ∀ q : Nat, s.heap.size ≤ q → A q := fun q h => by rw [← hAe]; exact Or.inr h
  have hS : va_S A s.heap s.heap [] := va_S.rf
  have hl := lv_entry ([.ref h0, .int 4]) (n := 2) (Nat.le_of_ble_eq_true rfl)
  rw [lg_entry_eq]
  generalize (lg_sl ([.ref h0, .int 4]) ++ List.replicate (2 - (lg_sl ([.ref h0, .int 4])).length) Slot.unset).toArray = ls at hl ⊢
  have hl : lv_has ls 2 [(0, .ref h0), (1, .int 4)] := hl
  refine lv_aload_n hx hb dX13_count_0 rfl (lv_at hl 0 rfl) ?_
  refine lv_iconst (v := 0) hx hb dX13_count_1 (by decide) ?_
  refine va_put (D := (dC, dI)) (ci := 13) (v := .int 0) (ty := .int) (C := RX13) (T := TX13) (N := 75) hx hb hG zuX13 tyX13 tyX13_ok nmX13 hown hK hP hD hS 0 rfl rfl 21 (by decide) (hG _ zw302) (fun _ h9 => h9) rfl (by decide +kernel) rfl rfl (Nat.le_of_ble_eq_true rfl) dX13_count_2 (fun H locs hP hD hS => ?_)
  have hP : va_P (dC, dI) vwCl [(h0, .inr (13, [.ref u0, .int 0, .ref u1, .ref u2, .int 0, .ref u3, .ref u4, .ref u5, .ref u6, .ref u7, .ref u8, .ref u9, .ref u10, .int 0, .ref u11, .ref u12, .int 0, .ref u13, .int (-1), .ref u14, .int 0, .int 0, .ref u15, .int 0, .int 0, .ref u16, .ref u17, .ref u18, .ref u19, .ref u20, .int 0, .ref u21, .int 0, .int 0, .int 0, .int 0, .int 0, .int 0, .ref u22, .ref u23, .ref u24, .ref u25, .int 0, .ref u26, .ref u27, .ref u28, .ref u29, .int 0, .ref u30, .ref u31, .int 0, .int 0, .ref u32, .int 0, .int 0, .int 0, .ref u33, .ref u34, .ref u35, .int 0, .int 0, .ref u36, .ref u37, .ref u38, .ref u39, .ref u40, .ref u41, .ref u42, .ref u43, .ref u44, .ref u45, .int 0, .ref u46, .ref u47, .ref u48]))] H := hP
  have hD : va_D A [(h0, .inr (13, [.ref u0, .int 0, .ref u1, .ref u2, .int 0, .ref u3, .ref u4, .ref u5, .ref u6, .ref u7, .ref u8, .ref u9, .ref u10, .int 0, .ref u11, .ref u12, .int 0, .ref u13, .int (-1), .ref u14, .int 0, .int 0, .ref u15, .int 0, .int 0, .ref u16, .ref u17, .ref u18, .ref u19, .ref u20, .int 0, .ref u21, .int 0, .int 0, .int 0, .int 0, .int 0, .int 0, .ref u22, .ref u23, .ref u24, .ref u25, .int 0, .ref u26, .ref u27, .ref u28, .ref u29, .int 0, .ref u30, .ref u31, .int 0, .int 0, .ref u32, .int 0, .int 0, .int 0, .ref u33, .ref u34, .ref u35, .int 0, .int 0, .ref u36, .ref u37, .ref u38, .ref u39, .ref u40, .ref u41, .ref u42, .ref u43, .ref u44, .ref u45, .int 0, .ref u46, .ref u47, .ref u48]))] := hD
  refine lv_iload_n hx hb dX13_count_5 rfl (lv_at hl 1 rfl) ?_
  refine lv_tableIn (off := 62) (tgt := 68) hx hb dX13_count_6 (by decide) (by decide) (by decide) (by decide) ?_
  refine lv_aload_n hx hb dX13_count_68 rfl (lv_at hl 0 rfl) ?_
  have hPc := hP.sub (ws' := [(h0, .inr (13, [.ref u0, .int 0, .ref u1, .ref u2, .int 0, .ref u3, .ref u4, .ref u5, .ref u6, .ref u7, .ref u8, .ref u9, .ref u10, .int 0, .ref u11, .ref u12, .int 0, .ref u13, .int (-1), .ref u14, .int 0, .int 0, .ref u15, .int 0, .int 0, .ref u16, .ref u17, .ref u18, .ref u19, .ref u20, .int 0, .ref u21, .int 0, .int 0, .int 0, .int 0, .int 0, .int 0, .ref u22, .ref u23, .ref u24, .ref u25, .int 0, .ref u26, .ref u27, .ref u28, .ref u29, .int 0, .ref u30, .ref u31, .int 0, .int 0, .ref u32, .int 0, .int 0, .int 0, .ref u33, .ref u34, .ref u35, .int 0, .int 0, .ref u36, .ref u37, .ref u38, .ref u39, .ref u40, .ref u41, .ref u42, .ref u43, .ref u44, .ref u45, .int 0, .ref u46, .ref u47, .ref u48]))]) [0] rfl
  have hDc := hD.sub (ws' := [(h0, .inr (13, [.ref u0, .int 0, .ref u1, .ref u2, .int 0, .ref u3, .ref u4, .ref u5, .ref u6, .ref u7, .ref u8, .ref u9, .ref u10, .int 0, .ref u11, .ref u12, .int 0, .ref u13, .int (-1), .ref u14, .int 0, .int 0, .ref u15, .int 0, .int 0, .ref u16, .ref u17, .ref u18, .ref u19, .ref u20, .int 0, .ref u21, .int 0, .int 0, .int 0, .int 0, .int 0, .int 0, .ref u22, .ref u23, .ref u24, .ref u25, .int 0, .ref u26, .ref u27, .ref u28, .ref u29, .int 0, .ref u30, .ref u31, .int 0, .int 0, .ref u32, .int 0, .int 0, .int 0, .ref u33, .ref u34, .ref u35, .int 0, .int 0, .ref u36, .ref u37, .ref u38, .ref u39, .ref u40, .ref u41, .ref u42, .ref u43, .ref u44, .ref u45, .int 0, .ref u46, .ref u47, .ref u48]))]) [0] (by decide) rfl
  have hKc := hK.sub (tys' := []) [] rfl
  have hFc := va_free (wc := [(h0, .inr (13, [.ref u0, .int 0, .ref u1, .ref u2, .int 0, .ref u3, .ref u4, .ref u5, .ref u6, .ref u7, .ref u8, .ref u9, .ref u10, .int 0, .ref u11, .ref u12, .int 0, .ref u13, .int (-1), .ref u14, .int 0, .int 0, .ref u15, .int 0, .int 0, .ref u16, .ref u17, .ref u18, .ref u19, .ref u20, .int 0, .ref u21, .int 0, .int 0, .int 0, .int 0, .int 0, .int 0, .ref u22, .ref u23, .ref u24, .ref u25, .int 0, .ref u26, .ref u27, .ref u28, .ref u29, .int 0, .ref u30, .ref u31, .int 0, .int 0, .ref u32, .int 0, .int 0, .int 0, .ref u33, .ref u34, .ref u35, .int 0, .int 0, .ref u36, .ref u37, .ref u38, .ref u39, .ref u40, .ref u41, .ref u42, .ref u43, .ref u44, .ref u45, .int 0, .ref u46, .ref u47, .ref u48]))]) hD hS hA [0] rfl
  refine va_calli (va_runV (As := []) (rest := []) ⟨hx, hb, hml, hown, hG⟩ (kX13_allBits_0 l dC dI h0 u0 u1 u2 u3 u4 u5 u6 u7 u8 u9 u10 u11 u12 u13 u14 u15 u16 u17 u18 u19 u20 u21 u22 u23 u24 u25 u26 u27 u28 u29 u30 u31 u32 u33 u34 u35 u36 u37 u38 u39 u40 u41 u42 u43 u44 u45 u46 u47 u48 H.size) (cwV 0 hG (zgV zw590 zw591 zw592 zw207 zw593) rfl rfl rfl (by decide +kernel) ⟨Nat.le_of_ble_eq_true rfl, Nat.le_of_ble_eq_true rfl⟩) ⟨zPc_blind, va_recv hKc hPc (ci := 13) (q0 := 0) rfl rfl, zPc_pre hPc hKc hDc hE hS hFc hZ⟩ rfl rfl hl.1 rfl (lv_room (Nat.le_of_ble_eq_true rfl)) dX13_count_69 ⟨Nat.le_of_ble_eq_true rfl, Nat.le_of_ble_eq_true rfl⟩) hS (fun q _ h => hFc q h) hFc (fun r_5379 u t H1 locs ht hvm hw hB hz1 hk1 hS => ?_)
  have hw : r_5379 = 0 := hw
  subst hw
  obtain ⟨hP1, hK1, hD1⟩ := hB
  rw [ht] at hP1
  obtain ⟨hP, hD⟩ := va_join (wr := []) (w1 := [(h0, .inr (13, [.ref u0, .int 0, .ref u1, .ref u2, .int 0, .ref u3, .ref u4, .ref u5, .ref u6, .ref u7, .ref u8, .ref u9, .ref u10, .int 0, .ref u11, .ref u12, .int 0, .ref u13, .int (-1), .ref u14, .int 0, .int 0, .ref u15, .int 0, .int 0, .ref u16, .ref u17, .ref u18, .ref u19, .ref u20, .int 0, .ref u21, .int 0, .int 0, .int 0, .int 0, .int 0, .int 0, .ref u22, .ref u23, .ref u24, .ref u25, .int 0, .ref u26, .ref u27, .ref u28, .ref u29, .int 0, .ref u30, .ref u31, .int 0, .int 0, .ref u32, .int 0, .int 0, .int 0, .ref u33, .ref u34, .ref u35, .int 0, .int 0, .ref u36, .ref u37, .ref u38, .ref u39, .ref u40, .ref u41, .ref u42, .ref u43, .ref u44, .ref u45, .int 0, .ref u46, .ref u47, .ref u48]))]) hP hD [0] [] rfl rfl (by decide) (by decide) hk1 hFc hP1 hD1
  generalize H1 = H at hP hS ⊢
  have hP : va_P (dC, dI) vwCl [(h0, .inr (13, [.ref u0, .int 0, .ref u1, .ref u2, .int 0, .ref u3, .ref u4, .ref u5, .ref u6, .ref u7, .ref u8, .ref u9, .ref u10, .int 0, .ref u11, .ref u12, .int 0, .ref u13, .int (-1), .ref u14, .int 0, .int 0, .ref u15, .int 0, .int 0, .ref u16, .ref u17, .ref u18, .ref u19, .ref u20, .int 0, .ref u21, .int 0, .int 0, .int 0, .int 0, .int 0, .int 0, .ref u22, .ref u23, .ref u24, .ref u25, .int 0, .ref u26, .ref u27, .ref u28, .ref u29, .int 0, .ref u30, .ref u31, .int 0, .int 0, .ref u32, .int 0, .int 0, .int 0, .ref u33, .ref u34, .ref u35, .int 0, .int 0, .ref u36, .ref u37, .ref u38, .ref u39, .ref u40, .ref u41, .ref u42, .ref u43, .ref u44, .ref u45, .int 0, .ref u46, .ref u47, .ref u48]))] H := hP
  have hD : va_D A [(h0, .inr (13, [.ref u0, .int 0, .ref u1, .ref u2, .int 0, .ref u3, .ref u4, .ref u5, .ref u6, .ref u7, .ref u8, .ref u9, .ref u10, .int 0, .ref u11, .ref u12, .int 0, .ref u13, .int (-1), .ref u14, .int 0, .int 0, .ref u15, .int 0, .int 0, .ref u16, .ref u17, .ref u18, .ref u19, .ref u20, .int 0, .ref u21, .int 0, .int 0, .int 0, .int 0, .int 0, .int 0, .ref u22, .ref u23, .ref u24, .ref u25, .int 0, .ref u26, .ref u27, .ref u28, .ref u29, .int 0, .ref u30, .ref u31, .int 0, .int 0, .ref u32, .int 0, .int 0, .int 0, .ref u33, .ref u34, .ref u35, .int 0, .int 0, .ref u36, .ref u37, .ref u38, .ref u39, .ref u40, .ref u41, .ref u42, .ref u43, .ref u44, .ref u45, .int 0, .ref u46, .ref u47, .ref u48]))] := hD
  have hP9 := hP.sub (ws' := [(h0, .inr (13, [.ref u0, .int 0, .ref u1, .ref u2, .int 0, .ref u3, .ref u4, .ref u5, .ref u6, .ref u7, .ref u8, .ref u9, .ref u10, .int 0, .ref u11, .ref u12, .int 0, .ref u13, .int (-1), .ref u14, .int 0, .int 0, .ref u15, .int 0, .int 0, .ref u16, .ref u17, .ref u18, .ref u19, .ref u20, .int 0, .ref u21, .int 0, .int 0, .int 0, .int 0, .int 0, .int 0, .ref u22, .ref u23, .ref u24, .ref u25, .int 0, .ref u26, .ref u27, .ref u28, .ref u29, .int 0, .ref u30, .ref u31, .int 0, .int 0, .ref u32, .int 0, .int 0, .int 0, .ref u33, .ref u34, .ref u35, .int 0, .int 0, .ref u36, .ref u37, .ref u38, .ref u39, .ref u40, .ref u41, .ref u42, .ref u43, .ref u44, .ref u45, .int 0, .ref u46, .ref u47, .ref u48]))]) [0] rfl
  have hD9 := hD.sub (ws' := [(h0, .inr (13, [.ref u0, .int 0, .ref u1, .ref u2, .int 0, .ref u3, .ref u4, .ref u5, .ref u6, .ref u7, .ref u8, .ref u9, .ref u10, .int 0, .ref u11, .ref u12, .int 0, .ref u13, .int (-1), .ref u14, .int 0, .int 0, .ref u15, .int 0, .int 0, .ref u16, .ref u17, .ref u18, .ref u19, .ref u20, .int 0, .ref u21, .int 0, .int 0, .int 0, .int 0, .int 0, .int 0, .ref u22, .ref u23, .ref u24, .ref u25, .int 0, .ref u26, .ref u27, .ref u28, .ref u29, .int 0, .ref u30, .ref u31, .int 0, .int 0, .ref u32, .int 0, .int 0, .int 0, .ref u33, .ref u34, .ref u35, .int 0, .int 0, .ref u36, .ref u37, .ref u38, .ref u39, .ref u40, .ref u41, .ref u42, .ref u43, .ref u44, .ref u45, .int 0, .ref u46, .ref u47, .ref u48]))]) [0] (by decide) rfl
  have hK9 := hK.sub (tys' := []) [] rfl
  refine W.widen (k := 0) (n := 0) (by decide) (by decide) ?_
  exact W.iret (v := 0) hx hb hr (fun t ht hW => ⟨⟨0, (), rfl, rfl, by rw [ht]; exact hP9, va_K.moved hW.alike hK9, hD9⟩, hS.F ht⟩) hS.2.2 dX13_count_72
set_option maxHeartbeats 4000000 in
set_option maxRecDepth 100000 in
theorem kX10_size_1 (l : Launch) (dC : Nat → ClassId) (dI : Nat → Nat → Nat) (h0 u0 u1 u2 u3 u4 u5 : Nat) (sz : Nat) : Met l yX10_size (zw yX10_size cX10_size 1 (some .int)) { frames := 0, cells := 0, slots := 0, locals := 0 } (zPc dC dI [.ref h0] sz [(h0, .inr (10, [.int 10, .ref u0, .ref u1, .ref u2, .ref u3, .ref u4, .ref u5, .int 0]))] []) (va_Qi (fun (r : Int32) (_ : Unit) => r = 0) (fun (_ : Unit) (t : State) => va_P (dC, dI) vwCl [(h0, .inr (10, [.int 10, .ref u0, .ref u1, .ref u2, .ref u3, .ref u4, .ref u5, .int 0]))] t.heap ∧ va_K (dC, dI) vwCl [] t ∧ va_D (va_A [(h0, .inr (10, [.int 10, .ref u0, .ref u1, .ref u2, .ref u3, .ref u4, .ref u5, .int 0]))] sz) [(h0, .inr (10, [.int 10, .ref u0, .ref u1, .ref u2, .ref u3, .ref u4, .ref u5, .int 0]))]) (va_A [(h0, .inr (10, [.int 10, .ref u0, .ref u1, .ref u2, .ref u3, .ref u4, .ref u5, .int 0]))] sz)) 0 0 (va_A [(h0, .inr (10, [.int 10, .ref u0, .ref u1, .ref u2, .ref u3, .ref u4, .ref u5, .int 0]))] sz) := by
  refine Met.ofW (cc := cX10_size) (maxL := 1) (ret := (some .int)) (by decide) rfl ?_
  intro p e s m args below meth c s₁ B hml hv
  obtain ⟨rfl, hsz, hP, hK, hD0, hE, hZ⟩ := hv
  have hx := B.exec
  have hb := B.bytes
  have hr := B.returns
  have hG : ∀ w ∈ zG, w.before _ s = true := fun w h => atoms_spec (ws := (zw yX10_size cX10_size 1 (some .int))) B.pre w (List.mem_cons_of_mem _ h)
  have hown : s.vm.findClass RX10 = some m.cls := findClass_of_methodNamed B.named
  have hlocks := B.notSynchronized
  subst hsz
  have hD := hD0.self (sz := s.heap.size)
  generalize hAe : va_A [(h0, .inr (10, [.int 10, .ref u0, .ref u1, .ref u2, .ref u3, .ref u4, .ref u5, .int 0]))] s.heap.size = A at hD hZ ⊢
  have hA : ∀ q : Nat, s.heap.size ≤ q → A q := fun q h => by rw [← hAe]; exact Or.inr h
  have hS : va_S A s.heap s.heap [] := va_S.rf
  have hl := lv_entry ([.ref h0]) (n := 1) (Nat.le_of_ble_eq_true rfl)
  rw [lg_entry_eq]
  generalize (lg_sl ([.ref h0]) ++ List.replicate (1 - (lg_sl ([.ref h0])).length) Slot.unset).toArray = ls at hl ⊢
  have hl : lv_has ls 1 [(0, .ref h0)] := hl
  refine lv_aload_n hx hb dX10_size_0 rfl (lv_at hl 0 rfl) ?_
  refine va_get (D := (dC, dI)) (ci := 10) (v := .int 0) (C := RX10) (T := TX10) (N := 8) hx hb hG zuX10 hown hK hP 0 rfl rfl 7 (by decide) (hG _ zw26) (fun _ h9 => h9) rfl dX10_size_1 ?_
  have hP9 := hP.sub (ws' := [(h0, .inr (10, [.int 10, .ref u0, .ref u1, .ref u2, .ref u3, .ref u4, .ref u5, .int 0]))]) [0] rfl
  have hD9 := hD.sub (ws' := [(h0, .inr (10, [.int 10, .ref u0, .ref u1, .ref u2, .ref u3, .ref u4, .ref u5, .int 0]))]) [0] (by decide) rfl
  have hK9 := hK.sub (tys' := []) [] rfl
  refine W.widen (k := 0) (n := 0) (by decide) (by decide) ?_
  exact W.iret (v := 0) hx hb hr (fun t ht hW => ⟨⟨0, (), rfl, rfl, by rw [ht]; exact hP9, va_K.moved hW.alike hK9, hD9⟩, hS.F ht⟩) hS.2.2 dX10_size_4
set_option maxHeartbeats 4000000 in
set_option maxRecDepth 100000 in
theorem kX11_count_6 (l : Launch) (dC : Nat → ClassId) (dI : Nat → Nat → Nat) (h0 h1 u0 u1 u2 u3 u4 u5 u6 u7 u8 u9 u10 u11 u12 u13 u14 : Nat) (sz : Nat) : Met l yX11_count (zw yX11_count cX11_count 2 (some .int)) { frames := 1, cells := 0, slots := 0, locals := 20 } (zPc dC dI [.ref h0, .int 5] sz [(h0, .inr (11, [.ref u0, .ref u1, .ref h1, .ref u2, .ref u3, .ref u4, .ref u5, .ref u6, .ref u7, .ref u8, .null, .long (-1)])), (h1, .inr (10, [.int 10, .ref u9, .ref u10, .ref u11, .ref u12, .ref u13, .ref u14, .int 0]))] []) (va_Qi (fun (r : Int32) (_ : Unit) => r = 0) (fun (_ : Unit) (t : State) => va_P (dC, dI) vwCl [(h0, .inr (11, [.ref u0, .ref u1, .ref h1, .ref u2, .ref u3, .ref u4, .ref u5, .ref u6, .ref u7, .ref u8, .null, .long (-1)])), (h1, .inr (10, [.int 10, .ref u9, .ref u10, .ref u11, .ref u12, .ref u13, .ref u14, .int 0]))] t.heap ∧ va_K (dC, dI) vwCl [] t ∧ va_D (va_A [(h0, .inr (11, [.ref u0, .ref u1, .ref h1, .ref u2, .ref u3, .ref u4, .ref u5, .ref u6, .ref u7, .ref u8, .null, .long (-1)])), (h1, .inr (10, [.int 10, .ref u9, .ref u10, .ref u11, .ref u12, .ref u13, .ref u14, .int 0]))] sz) [(h0, .inr (11, [.ref u0, .ref u1, .ref h1, .ref u2, .ref u3, .ref u4, .ref u5, .ref u6, .ref u7, .ref u8, .null, .long (-1)])), (h1, .inr (10, [.int 10, .ref u9, .ref u10, .ref u11, .ref u12, .ref u13, .ref u14, .int 0]))]) (va_A [(h0, .inr (11, [.ref u0, .ref u1, .ref h1, .ref u2, .ref u3, .ref u4, .ref u5, .ref u6, .ref u7, .ref u8, .null, .long (-1)])), (h1, .inr (10, [.int 10, .ref u9, .ref u10, .ref u11, .ref u12, .ref u13, .ref u14, .int 0]))] sz)) 0 0 (va_A [(h0, .inr (11, [.ref u0, .ref u1, .ref h1, .ref u2, .ref u3, .ref u4, .ref u5, .ref u6, .ref u7, .ref u8, .null, .long (-1)])), (h1, .inr (10, [.int 10, .ref u9, .ref u10, .ref u11, .ref u12, .ref u13, .ref u14, .int 0]))] sz) := by
  refine Met.ofW (cc := cX11_count) (maxL := 2) (ret := (some .int)) (by decide) rfl ?_
  intro p e s m args below meth c s₁ B hml hv
  obtain ⟨rfl, hsz, hP, hK, hD0, hE, hZ⟩ := hv
  have hx := B.exec
  have hb := B.bytes
  have hr := B.returns
  have hG : ∀ w ∈ zG, w.before _ s = true := fun w h => atoms_spec (ws := (zw yX11_count cX11_count 2 (some .int))) B.pre w (List.mem_cons_of_mem _ h)
  have hown : s.vm.findClass RX11 = some m.cls := findClass_of_methodNamed B.named
  have hlocks := B.notSynchronized
  subst hsz
  have hD := hD0.self (sz := s.heap.size)
  generalize hAe : va_A [(h0, .inr (11, [.ref u0, .ref u1, .ref h1, .ref u2, .ref u3, .ref u4, .ref u5, .ref u6, .ref u7, .ref u8, .null, .long (-1)])), (h1, .inr (10, [.int 10, .ref u9, .ref u10, .ref u11, .ref u12, .ref u13, .ref u14, .int 0]))] s.heap.size = A at hD hZ ⊢
  have hA : ∀ q : Nat, s.heap.size ≤ q → A q := fun q h => by rw [← hAe]; exact Or.inr h
  have hS : va_S A s.heap s.heap [] := va_S.rf
  have hl := lv_entry ([.ref h0, .int 5]) (n := 2) (Nat.le_of_ble_eq_true rfl)
  rw [lg_entry_eq]
  generalize (lg_sl ([.ref h0, .int 5]) ++ List.replicate (2 - (lg_sl ([.ref h0, .int 5])).length) Slot.unset).toArray = ls at hl ⊢
  have hl : lv_has ls 2 [(0, .ref h0), (1, .int 5)] := hl
  refine lv_iload_n hx hb dX11_count_0 rfl (lv_at hl 1 rfl) ?_
  refine lv_tableIn (off := 83) (tgt := 84) hx hb dX11_count_1 (by decide) (by decide) (by decide) (by decide) ?_
  refine lv_aload_n hx hb dX11_count_84 rfl (lv_at hl 0 rfl) ?_
  refine va_get (D := (dC, dI)) (ci := 11) (v := .ref h1) (C := RX11) (T := TX11) (N := 12) hx hb hG zuX11 hown hK hP 0 rfl rfl 2 (by decide) (hG _ zw36) (fun _ h9 => h9) rfl dX11_count_85 ?_
  have hPc := hP.sub (ws' := [(h1, .inr (10, [.int 10, .ref u9, .ref u10, .ref u11, .ref u12, .ref u13, .ref u14, .int 0]))]) [1] rfl
  have hDc := hD.sub (ws' := [(h1, .inr (10, [.int 10, .ref u9, .ref u10, .ref u11, .ref u12, .ref u13, .ref u14, .int 0]))]) [1] (by decide) rfl
  have hKc := hK.sub (tys' := []) [] rfl
  have hFc := va_free (wc := [(h1, .inr (10, [.int 10, .ref u9, .ref u10, .ref u11, .ref u12, .ref u13, .ref u14, .int 0]))]) hD hS hA [1] rfl
  refine va_calli (va_runV (As := []) (rest := []) ⟨hx, hb, hml, hown, hG⟩ (kX10_size_1 l dC dI h1 u9 u10 u11 u12 u13 u14 s.heap.size) (cwV 0 hG (zgV zw328 zw329 zw330 zw20 zw331) rfl rfl rfl (by decide +kernel) ⟨Nat.le_of_ble_eq_true rfl, Nat.le_of_ble_eq_true rfl⟩) ⟨zPc_blind, va_recv hKc hPc (ci := 10) (q0 := 0) rfl rfl, zPc_pre hPc hKc hDc hE hS hFc hZ⟩ rfl rfl hl.1 rfl (lv_room (Nat.le_of_ble_eq_true rfl)) dX11_count_88 ⟨Nat.le_of_ble_eq_true rfl, Nat.le_of_ble_eq_true rfl⟩) hS (fun q _ h => hFc q h) hFc (fun r_5392 u t H1 locs ht hvm hw hB hz1 hk1 hS => ?_)
  have hw : r_5392 = 0 := hw
  subst hw
  obtain ⟨hP1, hK1, hD1⟩ := hB
  rw [ht] at hP1
  obtain ⟨hP, hD⟩ := va_join (wr := [(h0, .inr (11, [.ref u0, .ref u1, .ref h1, .ref u2, .ref u3, .ref u4, .ref u5, .ref u6, .ref u7, .ref u8, .null, .long (-1)]))]) (w1 := [(h1, .inr (10, [.int 10, .ref u9, .ref u10, .ref u11, .ref u12, .ref u13, .ref u14, .int 0]))]) hP hD [1] [0] rfl rfl (by decide) (by decide) hk1 hFc hP1 hD1
  generalize H1 = H at hP hS ⊢
  have hP : va_P (dC, dI) vwCl [(h0, .inr (11, [.ref u0, .ref u1, .ref h1, .ref u2, .ref u3, .ref u4, .ref u5, .ref u6, .ref u7, .ref u8, .null, .long (-1)])), (h1, .inr (10, [.int 10, .ref u9, .ref u10, .ref u11, .ref u12, .ref u13, .ref u14, .int 0]))] H := hP
  have hD : va_D A [(h0, .inr (11, [.ref u0, .ref u1, .ref h1, .ref u2, .ref u3, .ref u4, .ref u5, .ref u6, .ref u7, .ref u8, .null, .long (-1)])), (h1, .inr (10, [.int 10, .ref u9, .ref u10, .ref u11, .ref u12, .ref u13, .ref u14, .int 0]))] := hD
  have hP9 := hP.sub (ws' := [(h0, .inr (11, [.ref u0, .ref u1, .ref h1, .ref u2, .ref u3, .ref u4, .ref u5, .ref u6, .ref u7, .ref u8, .null, .long (-1)])), (h1, .inr (10, [.int 10, .ref u9, .ref u10, .ref u11, .ref u12, .ref u13, .ref u14, .int 0]))]) [0, 1] rfl
  have hD9 := hD.sub (ws' := [(h0, .inr (11, [.ref u0, .ref u1, .ref h1, .ref u2, .ref u3, .ref u4, .ref u5, .ref u6, .ref u7, .ref u8, .null, .long (-1)])), (h1, .inr (10, [.int 10, .ref u9, .ref u10, .ref u11, .ref u12, .ref u13, .ref u14, .int 0]))]) [0, 1] (by decide) rfl
  have hK9 := hK.sub (tys' := []) [] rfl
  refine W.widen (k := 0) (n := 0) (by decide) (by decide) ?_
  exact W.iret (v := 0) hx hb hr (fun t ht hW => ⟨⟨0, (), rfl, rfl, by rw [ht]; exact hP9, va_K.moved hW.alike hK9, hD9⟩, hS.F ht⟩) hS.2.2 dX11_count_91
set_option maxHeartbeats 4000000 in
set_option maxRecDepth 100000 in
theorem kX13_count_6 (l : Launch) (dC : Nat → ClassId) (dI : Nat → Nat → Nat) (h0 u0 u1 u2 u3 u4 u5 u6 u7 u8 u9 u10 u11 u12 u13 u14 u15 u16 u17 u18 u19 u20 u21 u22 u23 u24 u25 u26 u27 u28 u29 u30 u31 u32 u33 u34 u35 u36 u37 u38 u39 u40 u41 u42 u43 u44 u45 u46 u47 u48 : Nat) (sz : Nat) : Met l yX13_count (zw yX13_count cX13_count 2 (some .int)) { frames := 0, cells := 0, slots := 0, locals := 0 } (zPc dC dI [.ref h0, .int 5] sz [(h0, .inr (13, [.ref u0, .int 0, .ref u1, .ref u2, .int 0, .ref u3, .ref u4, .ref u5, .ref u6, .ref u7, .ref u8, .ref u9, .ref u10, .int 0, .ref u11, .ref u12, .int 0, .ref u13, .int (-1), .ref u14, .int 0, .int 0, .ref u15, .int 0, .int 0, .ref u16, .ref u17, .ref u18, .ref u19, .ref u20, .int 0, .ref u21, .int 0, .int 0, .int 0, .int 0, .int 0, .int 0, .ref u22, .ref u23, .ref u24, .ref u25, .int 0, .ref u26, .ref u27, .ref u28, .ref u29, .int 0, .ref u30, .ref u31, .int 0, .int 0, .ref u32, .int 0, .int 0, .int 0, .ref u33, .ref u34, .ref u35, .int 0, .int 0, .ref u36, .ref u37, .ref u38, .ref u39, .ref u40, .ref u41, .ref u42, .ref u43, .ref u44, .ref u45, .int 0, .ref u46, .ref u47, .ref u48]))] []) (va_Qi (fun (r : Int32) (_ : Unit) => r = 0) (fun (_ : Unit) (t : State) => va_P (dC, dI) vwCl [(h0, .inr (13, [.ref u0, .int 0, .ref u1, .ref u2, .int 0, .ref u3, .ref u4, .ref u5, .ref u6, .ref u7, .ref u8, .ref u9, .ref u10, .int 0, .ref u11, .ref u12, .int 0, .ref u13, .int (-1), .ref u14, .int 0, .int 0, .ref u15, .int 0, .int 0, .ref u16, .ref u17, .ref u18, .ref u19, .ref u20, .int 0, .ref u21, .int 0, .int 0, .int 0, .int 0, .int 0, .int 0, .ref u22, .ref u23, .ref u24, .ref u25, .int 0, .ref u26, .ref u27, .ref u28, .ref u29, .int 0, .ref u30, .ref u31, .int 0, .int 0, .ref u32, .int 0, .int 0, .int 0, .ref u33, .ref u34, .ref u35, .int 0, .int 0, .ref u36, .ref u37, .ref u38, .ref u39, .ref u40, .ref u41, .ref u42, .ref u43, .ref u44, .ref u45, .int 0, .ref u46, .ref u47, .ref u48]))] t.heap ∧ va_K (dC, dI) vwCl [] t ∧ va_D (va_A [(h0, .inr (13, [.ref u0, .int 0, .ref u1, .ref u2, .int 0, .ref u3, .ref u4, .ref u5, .ref u6, .ref u7, .ref u8, .ref u9, .ref u10, .int 0, .ref u11, .ref u12, .int 0, .ref u13, .int (-1), .ref u14, .int 0, .int 0, .ref u15, .int 0, .int 0, .ref u16, .ref u17, .ref u18, .ref u19, .ref u20, .int 0, .ref u21, .int 0, .int 0, .int 0, .int 0, .int 0, .int 0, .ref u22, .ref u23, .ref u24, .ref u25, .int 0, .ref u26, .ref u27, .ref u28, .ref u29, .int 0, .ref u30, .ref u31, .int 0, .int 0, .ref u32, .int 0, .int 0, .int 0, .ref u33, .ref u34, .ref u35, .int 0, .int 0, .ref u36, .ref u37, .ref u38, .ref u39, .ref u40, .ref u41, .ref u42, .ref u43, .ref u44, .ref u45, .int 0, .ref u46, .ref u47, .ref u48]))] sz) [(h0, .inr (13, [.ref u0, .int 0, .ref u1, .ref u2, .int 0, .ref u3, .ref u4, .ref u5, .ref u6, .ref u7, .ref u8, .ref u9, .ref u10, .int 0, .ref u11, .ref u12, .int 0, .ref u13, .int (-1), .ref u14, .int 0, .int 0, .ref u15, .int 0, .int 0, .ref u16, .ref u17, .ref u18, .ref u19, .ref u20, .int 0, .ref u21, .int 0, .int 0, .int 0, .int 0, .int 0, .int 0, .ref u22, .ref u23, .ref u24, .ref u25, .int 0, .ref u26, .ref u27, .ref u28, .ref u29, .int 0, .ref u30, .ref u31, .int 0, .int 0, .ref u32, .int 0, .int 0, .int 0, .ref u33, .ref u34, .ref u35, .int 0, .int 0, .ref u36, .ref u37, .ref u38, .ref u39, .ref u40, .ref u41, .ref u42, .ref u43, .ref u44, .ref u45, .int 0, .ref u46, .ref u47, .ref u48]))]) (va_A [(h0, .inr (13, [.ref u0, .int 0, .ref u1, .ref u2, .int 0, .ref u3, .ref u4, .ref u5, .ref u6, .ref u7, .ref u8, .ref u9, .ref u10, .int 0, .ref u11, .ref u12, .int 0, .ref u13, .int (-1), .ref u14, .int 0, .int 0, .ref u15, .int 0, .int 0, .ref u16, .ref u17, .ref u18, .ref u19, .ref u20, .int 0, .ref u21, .int 0, .int 0, .int 0, .int 0, .int 0, .int 0, .ref u22, .ref u23, .ref u24, .ref u25, .int 0, .ref u26, .ref u27, .ref u28, .ref u29, .int 0, .ref u30, .ref u31, .int 0, .int 0, .ref u32, .int 0, .int 0, .int 0, .ref u33, .ref u34, .ref u35, .int 0, .int 0, .ref u36, .ref u37, .ref u38, .ref u39, .ref u40, .ref u41, .ref u42, .ref u43, .ref u44, .ref u45, .int 0, .ref u46, .ref u47, .ref u48]))] sz)) 0 0 (va_A [(h0, .inr (13, [.ref u0, .int 0, .ref u1, .ref u2, .int 0, .ref u3, .ref u4, .ref u5, .ref u6, .ref u7, .ref u8, .ref u9, .ref u10, .int 0, .ref u11, .ref u12, .int 0, .ref u13, .int (-1), .ref u14, .int 0, .int 0, .ref u15, .int 0, .int 0, .ref u16, .ref u17, .ref u18, .ref u19, .ref u20, .int 0, .ref u21, .int 0, .int 0, .int 0, .int 0, .int 0, .int 0, .ref u22, .ref u23, .ref u24, .ref u25, .int 0, .ref u26, .ref u27, .ref u28, .ref u29, .int 0, .ref u30, .ref u31, .int 0, .int 0, .ref u32, .int 0, .int 0, .int 0, .ref u33, .ref u34, .ref u35, .int 0, .int 0, .ref u36, .ref u37, .ref u38, .ref u39, .ref u40, .ref u41, .ref u42, .ref u43, .ref u44, .ref u45, .int 0, .ref u46, .ref u47, .ref u48]))] sz) := by
  refine Met.ofW (cc := cX13_count) (maxL := 2) (ret := (some .int)) (by decide) rfl ?_
  intro p e s m args below meth c s₁ B hml hv
  obtain ⟨rfl, hsz, hP, hK, hD0, hE, hZ⟩ := hv
  have hx := B.exec
  have hb := B.bytes
  have hr := B.returns
  have hG : ∀ w ∈ zG, w.before _ s = true := fun w h => atoms_spec (ws := (zw yX13_count cX13_count 2 (some .int))) B.pre w (List.mem_cons_of_mem _ h)
  have hown : s.vm.findClass RX13 = some m.cls := findClass_of_methodNamed B.named
  have hlocks := B.notSynchronized
  subst hsz
  have hD := hD0.self (sz := s.heap.size)
  generalize hAe : va_A [(h0, .inr (13, [.ref u0, .int 0, .ref u1, .ref u2, .int 0, .ref u3, .ref u4, .ref u5, .ref u6, .ref u7, .ref u8, .ref u9, .ref u10, .int 0, .ref u11, .ref u12, .int 0, .ref u13, .int (-1), .ref u14, .int 0, .int 0, .ref u15, .int 0, .int 0, .ref u16, .ref u17, .ref u18, .ref u19, .ref u20, .int 0, .ref u21, .int 0, .int 0, .int 0, .int 0, .int 0, .int 0, .ref u22, .ref u23, .ref u24, .ref u25, .int 0, .ref u26, .ref u27, .ref u28, .ref u29, .int 0, .ref u30, .ref u31, .int 0, .int 0, .ref u32, .int 0, .int 0, .int 0, .ref u33, .ref u34, .ref u35, .int 0, .int 0, .ref u36, .ref u37, .ref u38, .ref u39, .ref u40, .ref u41, .ref u42, .ref u43, .ref u44, .ref u45, .int 0, .ref u46, .ref u47, .ref u48]))] s.heap.size = A at hD hZ ⊢
  have hA : ∀ q : Nat, s.heap.size ≤ q → A q := fun q h => by rw [← hAe]; exact Or.inr h
  have hS : va_S A s.heap s.heap [] := va_S.rf
  have hl := lv_entry ([.ref h0, .int 5]) (n := 2) (Nat.le_of_ble_eq_true rfl)
  rw [lg_entry_eq]
  generalize (lg_sl ([.ref h0, .int 5]) ++ List.replicate (2 - (lg_sl ([.ref h0, .int 5])).length) Slot.unset).toArray = ls at hl ⊢
  have hl : lv_has ls 2 [(0, .ref h0), (1, .int 5)] := hl
  refine lv_aload_n hx hb dX13_count_0 rfl (lv_at hl 0 rfl) ?_
  refine lv_iconst (v := 0) hx hb dX13_count_1 (by decide) ?_
  refine va_put (D := (dC, dI)) (ci := 13) (v := .int 0) (ty := .int) (C := RX13) (T := TX13) (N := 75) hx hb hG zuX13 tyX13 tyX13_ok nmX13 hown hK hP hD hS 0 rfl rfl 21 (by decide) (hG _ zw302) (fun _ h9 => h9) rfl (by decide +kernel) rfl rfl (Nat.le_of_ble_eq_true rfl) dX13_count_2 (fun H locs hP hD hS => ?_)
  have hP : va_P (dC, dI) vwCl [(h0, .inr (13, [.ref u0, .int 0, .ref u1, .ref u2, .int 0, .ref u3, .ref u4, .ref u5, .ref u6, .ref u7, .ref u8, .ref u9, .ref u10, .int 0, .ref u11, .ref u12, .int 0, .ref u13, .int (-1), .ref u14, .int 0, .int 0, .ref u15, .int 0, .int 0, .ref u16, .ref u17, .ref u18, .ref u19, .ref u20, .int 0, .ref u21, .int 0, .int 0, .int 0, .int 0, .int 0, .int 0, .ref u22, .ref u23, .ref u24, .ref u25, .int 0, .ref u26, .ref u27, .ref u28, .ref u29, .int 0, .ref u30, .ref u31, .int 0, .int 0, .ref u32, .int 0, .int 0, .int 0, .ref u33, .ref u34, .ref u35, .int 0, .int 0, .ref u36, .ref u37, .ref u38, .ref u39, .ref u40, .ref u41, .ref u42, .ref u43, .ref u44, .ref u45, .int 0, .ref u46, .ref u47, .ref u48]))] H := hP
  have hD : va_D A [(h0, .inr (13, [.ref u0, .int 0, .ref u1, .ref u2, .int 0, .ref u3, .ref u4, .ref u5, .ref u6, .ref u7, .ref u8, .ref u9, .ref u10, .int 0, .ref u11, .ref u12, .int 0, .ref u13, .int (-1), .ref u14, .int 0, .int 0, .ref u15, .int 0, .int 0, .ref u16, .ref u17, .ref u18, .ref u19, .ref u20, .int 0, .ref u21, .int 0, .int 0, .int 0, .int 0, .int 0, .int 0, .ref u22, .ref u23, .ref u24, .ref u25, .int 0, .ref u26, .ref u27, .ref u28, .ref u29, .int 0, .ref u30, .ref u31, .int 0, .int 0, .ref u32, .int 0, .int 0, .int 0, .ref u33, .ref u34, .ref u35, .int 0, .int 0, .ref u36, .ref u37, .ref u38, .ref u39, .ref u40, .ref u41, .ref u42, .ref u43, .ref u44, .ref u45, .int 0, .ref u46, .ref u47, .ref u48]))] := hD
  refine lv_iload_n hx hb dX13_count_5 rfl (lv_at hl 1 rfl) ?_
  refine lv_tableIn (off := 67) (tgt := 73) hx hb dX13_count_6 (by decide) (by decide) (by decide) (by decide) ?_
  refine lv_aload_n hx hb dX13_count_73 rfl (lv_at hl 0 rfl) ?_
  refine va_get (D := (dC, dI)) (ci := 13) (v := .int 0) (C := RX13) (T := TX13) (N := 75) hx hb hG zuX13 hown hK hP 0 rfl rfl 16 (by decide) (hG _ zw594) (fun _ h9 => h9) rfl dX13_count_74 ?_
  have hP9 := hP.sub (ws' := [(h0, .inr (13, [.ref u0, .int 0, .ref u1, .ref u2, .int 0, .ref u3, .ref u4, .ref u5, .ref u6, .ref u7, .ref u8, .ref u9, .ref u10, .int 0, .ref u11, .ref u12, .int 0, .ref u13, .int (-1), .ref u14, .int 0, .int 0, .ref u15, .int 0, .int 0, .ref u16, .ref u17, .ref u18, .ref u19, .ref u20, .int 0, .ref u21, .int 0, .int 0, .int 0, .int 0, .int 0, .int 0, .ref u22, .ref u23, .ref u24, .ref u25, .int 0, .ref u26, .ref u27, .ref u28, .ref u29, .int 0, .ref u30, .ref u31, .int 0, .int 0, .ref u32, .int 0, .int 0, .int 0, .ref u33, .ref u34, .ref u35, .int 0, .int 0, .ref u36, .ref u37, .ref u38, .ref u39, .ref u40, .ref u41, .ref u42, .ref u43, .ref u44, .ref u45, .int 0, .ref u46, .ref u47, .ref u48]))]) [0] rfl
  have hD9 := hD.sub (ws' := [(h0, .inr (13, [.ref u0, .int 0, .ref u1, .ref u2, .int 0, .ref u3, .ref u4, .ref u5, .ref u6, .ref u7, .ref u8, .ref u9, .ref u10, .int 0, .ref u11, .ref u12, .int 0, .ref u13, .int (-1), .ref u14, .int 0, .int 0, .ref u15, .int 0, .int 0, .ref u16, .ref u17, .ref u18, .ref u19, .ref u20, .int 0, .ref u21, .int 0, .int 0, .int 0, .int 0, .int 0, .int 0, .ref u22, .ref u23, .ref u24, .ref u25, .int 0, .ref u26, .ref u27, .ref u28, .ref u29, .int 0, .ref u30, .ref u31, .int 0, .int 0, .ref u32, .int 0, .int 0, .int 0, .ref u33, .ref u34, .ref u35, .int 0, .int 0, .ref u36, .ref u37, .ref u38, .ref u39, .ref u40, .ref u41, .ref u42, .ref u43, .ref u44, .ref u45, .int 0, .ref u46, .ref u47, .ref u48]))]) [0] (by decide) rfl
  have hK9 := hK.sub (tys' := []) [] rfl
  refine W.widen (k := 0) (n := 0) (by decide) (by decide) ?_
  exact W.iret (v := 0) hx hb hr (fun t ht hW => ⟨⟨0, (), rfl, rfl, by rw [ht]; exact hP9, va_K.moved hW.alike hK9, hD9⟩, hS.F ht⟩) hS.2.2 dX13_count_77
set_option maxHeartbeats 4000000 in
set_option maxRecDepth 100000 in
theorem kX11_count_7 (l : Launch) (dC : Nat → ClassId) (dI : Nat → Nat → Nat) (h0 h1 u0 u1 u2 u3 u4 u5 u6 u7 u8 u9 u10 : Nat) (sz : Nat) : Met l yX11_count (zw yX11_count cX11_count 2 (some .int)) { frames := 1, cells := 0, slots := 0, locals := 20 } (zPc dC dI [.ref h0, .int 6] sz [(h0, .inr (11, [.ref h1, .ref u0, .ref u1, .ref u2, .ref u3, .ref u4, .ref u5, .ref u6, .ref u7, .ref u8, .null, .long (-1)])), (h1, .inr (9, [.ref u9, .ref u10, .int 0, .int 0]))] []) (va_Qi (fun (r : Int32) (_ : Unit) => r = 0) (fun (_ : Unit) (t : State) => va_P (dC, dI) vwCl [(h0, .inr (11, [.ref h1, .ref u0, .ref u1, .ref u2, .ref u3, .ref u4, .ref u5, .ref u6, .ref u7, .ref u8, .null, .long (-1)])), (h1, .inr (9, [.ref u9, .ref u10, .int 0, .int 0]))] t.heap ∧ va_K (dC, dI) vwCl [] t ∧ va_D (va_A [(h0, .inr (11, [.ref h1, .ref u0, .ref u1, .ref u2, .ref u3, .ref u4, .ref u5, .ref u6, .ref u7, .ref u8, .null, .long (-1)])), (h1, .inr (9, [.ref u9, .ref u10, .int 0, .int 0]))] sz) [(h0, .inr (11, [.ref h1, .ref u0, .ref u1, .ref u2, .ref u3, .ref u4, .ref u5, .ref u6, .ref u7, .ref u8, .null, .long (-1)])), (h1, .inr (9, [.ref u9, .ref u10, .int 0, .int 0]))]) (va_A [(h0, .inr (11, [.ref h1, .ref u0, .ref u1, .ref u2, .ref u3, .ref u4, .ref u5, .ref u6, .ref u7, .ref u8, .null, .long (-1)])), (h1, .inr (9, [.ref u9, .ref u10, .int 0, .int 0]))] sz)) 0 0 (va_A [(h0, .inr (11, [.ref h1, .ref u0, .ref u1, .ref u2, .ref u3, .ref u4, .ref u5, .ref u6, .ref u7, .ref u8, .null, .long (-1)])), (h1, .inr (9, [.ref u9, .ref u10, .int 0, .int 0]))] sz) := by
  refine Met.ofW (cc := cX11_count) (maxL := 2) (ret := (some .int)) (by decide) rfl ?_
  intro p e s m args below meth c s₁ B hml hv
  obtain ⟨rfl, hsz, hP, hK, hD0, hE, hZ⟩ := hv
  have hx := B.exec
  have hb := B.bytes
  have hr := B.returns
  have hG : ∀ w ∈ zG, w.before _ s = true := fun w h => atoms_spec (ws := (zw yX11_count cX11_count 2 (some .int))) B.pre w (List.mem_cons_of_mem _ h)
  have hown : s.vm.findClass RX11 = some m.cls := findClass_of_methodNamed B.named
  have hlocks := B.notSynchronized
  subst hsz
  have hD := hD0.self (sz := s.heap.size)
  generalize hAe : va_A [(h0, .inr (11, [.ref h1, .ref u0, .ref u1, .ref u2, .ref u3, .ref u4, .ref u5, .ref u6, .ref u7, .ref u8, .null, .long (-1)])), (h1, .inr (9, [.ref u9, .ref u10, .int 0, .int 0]))] s.heap.size = A at hD hZ ⊢
  have hA : ∀ q : Nat, s.heap.size ≤ q → A q := fun q h => by rw [← hAe]; exact Or.inr h
  have hS : va_S A s.heap s.heap [] := va_S.rf
  have hl := lv_entry ([.ref h0, .int 6]) (n := 2) (Nat.le_of_ble_eq_true rfl)
  rw [lg_entry_eq]
  generalize (lg_sl ([.ref h0, .int 6]) ++ List.replicate (2 - (lg_sl ([.ref h0, .int 6])).length) Slot.unset).toArray = ls at hl ⊢
  have hl : lv_has ls 2 [(0, .ref h0), (1, .int 6)] := hl
  refine lv_iload_n hx hb dX11_count_0 rfl (lv_at hl 1 rfl) ?_
  refine lv_tableIn (off := 91) (tgt := 92) hx hb dX11_count_1 (by decide) (by decide) (by decide) (by decide) ?_
  refine lv_aload_n hx hb dX11_count_92 rfl (lv_at hl 0 rfl) ?_
  refine va_get (D := (dC, dI)) (ci := 11) (v := .ref h1) (C := RX11) (T := TX11) (N := 12) hx hb hG zuX11 hown hK hP 0 rfl rfl 0 (by decide) (hG _ zw17) (fun _ h9 => h9) rfl dX11_count_93 ?_
  have hPc := hP.sub (ws' := [(h1, .inr (9, [.ref u9, .ref u10, .int 0, .int 0]))]) [1] rfl
  have hDc := hD.sub (ws' := [(h1, .inr (9, [.ref u9, .ref u10, .int 0, .int 0]))]) [1] (by decide) rfl
  have hKc := hK.sub (tys' := []) [] rfl
  have hFc := va_free (wc := [(h1, .inr (9, [.ref u9, .ref u10, .int 0, .int 0]))]) hD hS hA [1] rfl
  refine va_calli (va_runV (As := []) (rest := []) ⟨hx, hb, hml, hown, hG⟩ (kX9_size_1 l dC dI h1 u9 u10 s.heap.size) (cwV 0 hG (zgV zw294 zw295 zw296 zw8 zw297) rfl rfl rfl (by decide +kernel) ⟨Nat.le_of_ble_eq_true rfl, Nat.le_of_ble_eq_true rfl⟩) ⟨zPc_blind, va_recv hKc hPc (ci := 9) (q0 := 0) rfl rfl, zPc_pre hPc hKc hDc hE hS hFc hZ⟩ rfl rfl hl.1 rfl (lv_room (Nat.le_of_ble_eq_true rfl)) dX11_count_96 ⟨Nat.le_of_ble_eq_true rfl, Nat.le_of_ble_eq_true rfl⟩) hS (fun q _ h => hFc q h) hFc (fun r_5408 u t H1 locs ht hvm hw hB hz1 hk1 hS => ?_)
  have hw : r_5408 = 0 := hw
  subst hw
  obtain ⟨hP1, hK1, hD1⟩ := hB
  rw [ht] at hP1
  obtain ⟨hP, hD⟩ := va_join (wr := [(h0, .inr (11, [.ref h1, .ref u0, .ref u1, .ref u2, .ref u3, .ref u4, .ref u5, .ref u6, .ref u7, .ref u8, .null, .long (-1)]))]) (w1 := [(h1, .inr (9, [.ref u9, .ref u10, .int 0, .int 0]))]) hP hD [1] [0] rfl rfl (by decide) (by decide) hk1 hFc hP1 hD1
  generalize H1 = H at hP hS ⊢
  have hP : va_P (dC, dI) vwCl [(h0, .inr (11, [.ref h1, .ref u0, .ref u1, .ref u2, .ref u3, .ref u4, .ref u5, .ref u6, .ref u7, .ref u8, .null, .long (-1)])), (h1, .inr (9, [.ref u9, .ref u10, .int 0, .int 0]))] H := hP
  have hD : va_D A [(h0, .inr (11, [.ref h1, .ref u0, .ref u1, .ref u2, .ref u3, .ref u4, .ref u5, .ref u6, .ref u7, .ref u8, .null, .long (-1)])), (h1, .inr (9, [.ref u9, .ref u10, .int 0, .int 0]))] := hD
  have hP9 := hP.sub (ws' := [(h0, .inr (11, [.ref h1, .ref u0, .ref u1, .ref u2, .ref u3, .ref u4, .ref u5, .ref u6, .ref u7, .ref u8, .null, .long (-1)])), (h1, .inr (9, [.ref u9, .ref u10, .int 0, .int 0]))]) [0, 1] rfl
  have hD9 := hD.sub (ws' := [(h0, .inr (11, [.ref h1, .ref u0, .ref u1, .ref u2, .ref u3, .ref u4, .ref u5, .ref u6, .ref u7, .ref u8, .null, .long (-1)])), (h1, .inr (9, [.ref u9, .ref u10, .int 0, .int 0]))]) [0, 1] (by decide) rfl
  have hK9 := hK.sub (tys' := []) [] rfl
  refine W.widen (k := 0) (n := 0) (by decide) (by decide) ?_
  exact W.iret (v := 0) hx hb hr (fun t ht hW => ⟨⟨0, (), rfl, rfl, by rw [ht]; exact hP9, va_K.moved hW.alike hK9, hD9⟩, hS.F ht⟩) hS.2.2 dX11_count_99
set_option maxHeartbeats 4000000 in
set_option maxRecDepth 100000 in
theorem kX13_count_7 (l : Launch) (dC : Nat → ClassId) (dI : Nat → Nat → Nat) (h0 u0 u1 u2 u3 u4 u5 u6 u7 u8 u9 u10 u11 u12 u13 u14 u15 u16 u17 u18 u19 u20 u21 u22 u23 u24 u25 u26 u27 u28 u29 u30 u31 u32 u33 u34 u35 u36 u37 u38 u39 u40 u41 u42 u43 u44 u45 u46 u47 u48 : Nat) (sz : Nat) : Met l yX13_count (zw yX13_count cX13_count 2 (some .int)) { frames := 0, cells := 0, slots := 0, locals := 0 } (zPc dC dI [.ref h0, .int 6] sz [(h0, .inr (13, [.ref u0, .int 0, .ref u1, .ref u2, .int 0, .ref u3, .ref u4, .ref u5, .ref u6, .ref u7, .ref u8, .ref u9, .ref u10, .int 0, .ref u11, .ref u12, .int 0, .ref u13, .int (-1), .ref u14, .int 0, .int 0, .ref u15, .int 0, .int 0, .ref u16, .ref u17, .ref u18, .ref u19, .ref u20, .int 0, .ref u21, .int 0, .int 0, .int 0, .int 0, .int 0, .int 0, .ref u22, .ref u23, .ref u24, .ref u25, .int 0, .ref u26, .ref u27, .ref u28, .ref u29, .int 0, .ref u30, .ref u31, .int 0, .int 0, .ref u32, .int 0, .int 0, .int 0, .ref u33, .ref u34, .ref u35, .int 0, .int 0, .ref u36, .ref u37, .ref u38, .ref u39, .ref u40, .ref u41, .ref u42, .ref u43, .ref u44, .ref u45, .int 0, .ref u46, .ref u47, .ref u48]))] []) (va_Qi (fun (r : Int32) (_ : Unit) => r = 0) (fun (_ : Unit) (t : State) => va_P (dC, dI) vwCl [(h0, .inr (13, [.ref u0, .int 0, .ref u1, .ref u2, .int 0, .ref u3, .ref u4, .ref u5, .ref u6, .ref u7, .ref u8, .ref u9, .ref u10, .int 0, .ref u11, .ref u12, .int 0, .ref u13, .int (-1), .ref u14, .int 0, .int 0, .ref u15, .int 0, .int 0, .ref u16, .ref u17, .ref u18, .ref u19, .ref u20, .int 0, .ref u21, .int 0, .int 0, .int 0, .int 0, .int 0, .int 0, .ref u22, .ref u23, .ref u24, .ref u25, .int 0, .ref u26, .ref u27, .ref u28, .ref u29, .int 0, .ref u30, .ref u31, .int 0, .int 0, .ref u32, .int 0, .int 0, .int 0, .ref u33, .ref u34, .ref u35, .int 0, .int 0, .ref u36, .ref u37, .ref u38, .ref u39, .ref u40, .ref u41, .ref u42, .ref u43, .ref u44, .ref u45, .int 0, .ref u46, .ref u47, .ref u48]))] t.heap ∧ va_K (dC, dI) vwCl [] t ∧ va_D (va_A [(h0, .inr (13, [.ref u0, .int 0, .ref u1, .ref u2, .int 0, .ref u3, .ref u4, .ref u5, .ref u6, .ref u7, .ref u8, .ref u9, .ref u10, .int 0, .ref u11, .ref u12, .int 0, .ref u13, .int (-1), .ref u14, .int 0, .int 0, .ref u15, .int 0, .int 0, .ref u16, .ref u17, .ref u18, .ref u19, .ref u20, .int 0, .ref u21, .int 0, .int 0, .int 0, .int 0, .int 0, .int 0, .ref u22, .ref u23, .ref u24, .ref u25, .int 0, .ref u26, .ref u27, .ref u28, .ref u29, .int 0, .ref u30, .ref u31, .int 0, .int 0, .ref u32, .int 0, .int 0, .int 0, .ref u33, .ref u34, .ref u35, .int 0, .int 0, .ref u36, .ref u37, .ref u38, .ref u39, .ref u40, .ref u41, .ref u42, .ref u43, .ref u44, .ref u45, .int 0, .ref u46, .ref u47, .ref u48]))] sz) [(h0, .inr (13, [.ref u0, .int 0, .ref u1, .ref u2, .int 0, .ref u3, .ref u4, .ref u5, .ref u6, .ref u7, .ref u8, .ref u9, .ref u10, .int 0, .ref u11, .ref u12, .int 0, .ref u13, .int (-1), .ref u14, .int 0, .int 0, .ref u15, .int 0, .int 0, .ref u16, .ref u17, .ref u18, .ref u19, .ref u20, .int 0, .ref u21, .int 0, .int 0, .int 0, .int 0, .int 0, .int 0, .ref u22, .ref u23, .ref u24, .ref u25, .int 0, .ref u26, .ref u27, .ref u28, .ref u29, .int 0, .ref u30, .ref u31, .int 0, .int 0, .ref u32, .int 0, .int 0, .int 0, .ref u33, .ref u34, .ref u35, .int 0, .int 0, .ref u36, .ref u37, .ref u38, .ref u39, .ref u40, .ref u41, .ref u42, .ref u43, .ref u44, .ref u45, .int 0, .ref u46, .ref u47, .ref u48]))]) (va_A [(h0, .inr (13, [.ref u0, .int 0, .ref u1, .ref u2, .int 0, .ref u3, .ref u4, .ref u5, .ref u6, .ref u7, .ref u8, .ref u9, .ref u10, .int 0, .ref u11, .ref u12, .int 0, .ref u13, .int (-1), .ref u14, .int 0, .int 0, .ref u15, .int 0, .int 0, .ref u16, .ref u17, .ref u18, .ref u19, .ref u20, .int 0, .ref u21, .int 0, .int 0, .int 0, .int 0, .int 0, .int 0, .ref u22, .ref u23, .ref u24, .ref u25, .int 0, .ref u26, .ref u27, .ref u28, .ref u29, .int 0, .ref u30, .ref u31, .int 0, .int 0, .ref u32, .int 0, .int 0, .int 0, .ref u33, .ref u34, .ref u35, .int 0, .int 0, .ref u36, .ref u37, .ref u38, .ref u39, .ref u40, .ref u41, .ref u42, .ref u43, .ref u44, .ref u45, .int 0, .ref u46, .ref u47, .ref u48]))] sz)) 0 0 (va_A [(h0, .inr (13, [.ref u0, .int 0, .ref u1, .ref u2, .int 0, .ref u3, .ref u4, .ref u5, .ref u6, .ref u7, .ref u8, .ref u9, .ref u10, .int 0, .ref u11, .ref u12, .int 0, .ref u13, .int (-1), .ref u14, .int 0, .int 0, .ref u15, .int 0, .int 0, .ref u16, .ref u17, .ref u18, .ref u19, .ref u20, .int 0, .ref u21, .int 0, .int 0, .int 0, .int 0, .int 0, .int 0, .ref u22, .ref u23, .ref u24, .ref u25, .int 0, .ref u26, .ref u27, .ref u28, .ref u29, .int 0, .ref u30, .ref u31, .int 0, .int 0, .ref u32, .int 0, .int 0, .int 0, .ref u33, .ref u34, .ref u35, .int 0, .int 0, .ref u36, .ref u37, .ref u38, .ref u39, .ref u40, .ref u41, .ref u42, .ref u43, .ref u44, .ref u45, .int 0, .ref u46, .ref u47, .ref u48]))] sz) := by
  refine Met.ofW (cc := cX13_count) (maxL := 2) (ret := (some .int)) (by decide) rfl ?_
  intro p e s m args below meth c s₁ B hml hv
  obtain ⟨rfl, hsz, hP, hK, hD0, hE, hZ⟩ := hv
  have hx := B.exec
  have hb := B.bytes
  have hr := B.returns
  have hG : ∀ w ∈ zG, w.before _ s = true := fun w h => atoms_spec (ws := (zw yX13_count cX13_count 2 (some .int))) B.pre w (List.mem_cons_of_mem _ h)
  have hown : s.vm.findClass RX13 = some m.cls := findClass_of_methodNamed B.named
  have hlocks := B.notSynchronized
  subst hsz
  have hD := hD0.self (sz := s.heap.size)
  generalize hAe : va_A [(h0, .inr (13, [.ref u0, .int 0, .ref u1, .ref u2, .int 0, .ref u3, .ref u4, .ref u5, .ref u6, .ref u7, .ref u8, .ref u9, .ref u10, .int 0, .ref u11, .ref u12, .int 0, .ref u13, .int (-1), .ref u14, .int 0, .int 0, .ref u15, .int 0, .int 0, .ref u16, .ref u17, .ref u18, .ref u19, .ref u20, .int 0, .ref u21, .int 0, .int 0, .int 0, .int 0, .int 0, .int 0, .ref u22, .ref u23, .ref u24, .ref u25, .int 0, .ref u26, .ref u27, .ref u28, .ref u29, .int 0, .ref u30, .ref u31, .int 0, .int 0, .ref u32, .int 0, .int 0, .int 0, .ref u33, .ref u34, .ref u35, .int 0, .int 0, .ref u36, .ref u37, .ref u38, .ref u39, .ref u40, .ref u41, .ref u42, .ref u43, .ref u44, .ref u45, .int 0, .ref u46, .ref u47, .ref u48]))] s.heap.size = A at hD hZ ⊢
  have hA : ∀ q : Nat, s.heap.size ≤ q → A q := fun q h => by rw [← hAe]; exact Or.inr h
  have hS : va_S A s.heap s.heap [] := va_S.rf
  have hl := lv_entry ([.ref h0, .int 6]) (n := 2) (Nat.le_of_ble_eq_true rfl)
  rw [lg_entry_eq]
  generalize (lg_sl ([.ref h0, .int 6]) ++ List.replicate (2 - (lg_sl ([.ref h0, .int 6])).length) Slot.unset).toArray = ls at hl ⊢
  have hl : lv_has ls 2 [(0, .ref h0), (1, .int 6)] := hl
  refine lv_aload_n hx hb dX13_count_0 rfl (lv_at hl 0 rfl) ?_
  refine lv_iconst (v := 0) hx hb dX13_count_1 (by decide) ?_
  refine va_put (D := (dC, dI)) (ci := 13) (v := .int 0) (ty := .int) (C := RX13) (T := TX13) (N := 75) hx hb hG zuX13 tyX13 tyX13_ok nmX13 hown hK hP hD hS 0 rfl rfl 21 (by decide) (hG _ zw302) (fun _ h9 => h9) rfl (by decide +kernel) rfl rfl (Nat.le_of_ble_eq_true rfl) dX13_count_2 (fun H locs hP hD hS => ?_)
  have hP : va_P (dC, dI) vwCl [(h0, .inr (13, [.ref u0, .int 0, .ref u1, .ref u2, .int 0, .ref u3, .ref u4, .ref u5, .ref u6, .ref u7, .ref u8, .ref u9, .ref u10, .int 0, .ref u11, .ref u12, .int 0, .ref u13, .int (-1), .ref u14, .int 0, .int 0, .ref u15, .int 0, .int 0, .ref u16, .ref u17, .ref u18, .ref u19, .ref u20, .int 0, .ref u21, .int 0, .int 0, .int 0, .int 0, .int 0, .int 0, .ref u22, .ref u23, .ref u24, .ref u25, .int 0, .ref u26, .ref u27, .ref u28, .ref u29, .int 0, .ref u30, .ref u31, .int 0, .int 0, .ref u32, .int 0, .int 0, .int 0, .ref u33, .ref u34, .ref u35, .int 0, .int 0, .ref u36, .ref u37, .ref u38, .ref u39, .ref u40, .ref u41, .ref u42, .ref u43, .ref u44, .ref u45, .int 0, .ref u46, .ref u47, .ref u48]))] H := hP
  have hD : va_D A [(h0, .inr (13, [.ref u0, .int 0, .ref u1, .ref u2, .int 0, .ref u3, .ref u4, .ref u5, .ref u6, .ref u7, .ref u8, .ref u9, .ref u10, .int 0, .ref u11, .ref u12, .int 0, .ref u13, .int (-1), .ref u14, .int 0, .int 0, .ref u15, .int 0, .int 0, .ref u16, .ref u17, .ref u18, .ref u19, .ref u20, .int 0, .ref u21, .int 0, .int 0, .int 0, .int 0, .int 0, .int 0, .ref u22, .ref u23, .ref u24, .ref u25, .int 0, .ref u26, .ref u27, .ref u28, .ref u29, .int 0, .ref u30, .ref u31, .int 0, .int 0, .ref u32, .int 0, .int 0, .int 0, .ref u33, .ref u34, .ref u35, .int 0, .int 0, .ref u36, .ref u37, .ref u38, .ref u39, .ref u40, .ref u41, .ref u42, .ref u43, .ref u44, .ref u45, .int 0, .ref u46, .ref u47, .ref u48]))] := hD
  refine lv_iload_n hx hb dX13_count_5 rfl (lv_at hl 1 rfl) ?_
  refine lv_tableIn (off := 72) (tgt := 78) hx hb dX13_count_6 (by decide) (by decide) (by decide) (by decide) ?_
  refine lv_aload_n hx hb dX13_count_78 rfl (lv_at hl 0 rfl) ?_
  refine va_get (D := (dC, dI)) (ci := 13) (v := .int 0) (C := RX13) (T := TX13) (N := 75) hx hb hG zuX13 hown hK hP 0 rfl rfl 1 (by decide) (hG _ zw303) (fun _ h9 => h9) rfl dX13_count_79 ?_
  have hP9 := hP.sub (ws' := [(h0, .inr (13, [.ref u0, .int 0, .ref u1, .ref u2, .int 0, .ref u3, .ref u4, .ref u5, .ref u6, .ref u7, .ref u8, .ref u9, .ref u10, .int 0, .ref u11, .ref u12, .int 0, .ref u13, .int (-1), .ref u14, .int 0, .int 0, .ref u15, .int 0, .int 0, .ref u16, .ref u17, .ref u18, .ref u19, .ref u20, .int 0, .ref u21, .int 0, .int 0, .int 0, .int 0, .int 0, .int 0, .ref u22, .ref u23, .ref u24, .ref u25, .int 0, .ref u26, .ref u27, .ref u28, .ref u29, .int 0, .ref u30, .ref u31, .int 0, .int 0, .ref u32, .int 0, .int 0, .int 0, .ref u33, .ref u34, .ref u35, .int 0, .int 0, .ref u36, .ref u37, .ref u38, .ref u39, .ref u40, .ref u41, .ref u42, .ref u43, .ref u44, .ref u45, .int 0, .ref u46, .ref u47, .ref u48]))]) [0] rfl
  have hD9 := hD.sub (ws' := [(h0, .inr (13, [.ref u0, .int 0, .ref u1, .ref u2, .int 0, .ref u3, .ref u4, .ref u5, .ref u6, .ref u7, .ref u8, .ref u9, .ref u10, .int 0, .ref u11, .ref u12, .int 0, .ref u13, .int (-1), .ref u14, .int 0, .int 0, .ref u15, .int 0, .int 0, .ref u16, .ref u17, .ref u18, .ref u19, .ref u20, .int 0, .ref u21, .int 0, .int 0, .int 0, .int 0, .int 0, .int 0, .ref u22, .ref u23, .ref u24, .ref u25, .int 0, .ref u26, .ref u27, .ref u28, .ref u29, .int 0, .ref u30, .ref u31, .int 0, .int 0, .ref u32, .int 0, .int 0, .int 0, .ref u33, .ref u34, .ref u35, .int 0, .int 0, .ref u36, .ref u37, .ref u38, .ref u39, .ref u40, .ref u41, .ref u42, .ref u43, .ref u44, .ref u45, .int 0, .ref u46, .ref u47, .ref u48]))]) [0] (by decide) rfl
  have hK9 := hK.sub (tys' := []) [] rfl
  refine W.widen (k := 0) (n := 0) (by decide) (by decide) ?_
  exact W.iret (v := 0) hx hb hr (fun t ht hW => ⟨⟨0, (), rfl, rfl, by rw [ht]; exact hP9, va_K.moved hW.alike hK9, hD9⟩, hS.F ht⟩) hS.2.2 dX13_count_82
set_option maxHeartbeats 4000000 in
set_option maxRecDepth 100000 in
theorem kX11_letter_0 (l : Launch) (hl0 : l.stackTraces = false) (dC : Nat → ClassId) (dI : Nat → Nat → Nat) (h0 h1 u0 u1 u2 u3 u4 u5 u6 u7 u8 u9 u10 u11 u12 u13 u14 : Nat) (sz : Nat) (s0 : Int32) (s1 : Int32) : vx_Met l yX11_letter (zw yX11_letter cX11_letter 3 (some .int)) { frames := 8, cells := 1, slots := 6, locals := 120 } (zPc dC dI [.ref h0, .int s0, .int s1] sz [(h0, .inr (11, [.ref u0, .ref h1, .ref u1, .ref u2, .ref u3, .ref u4, .ref u5, .ref u6, .ref u7, .ref u8, .null, .long (-1)])), (h1, .inr (10, [.int 400, .ref u9, .ref u10, .ref u11, .ref u12, .ref u13, .ref u14, .int 0]))] []) (va_Qi (fun (_ : Int32) (_ : Unit) => False) (fun (_ : Unit) (_ : State) => True) (va_A [(h0, .inr (11, [.ref u0, .ref h1, .ref u1, .ref u2, .ref u3, .ref u4, .ref u5, .ref u6, .ref u7, .ref u8, .null, .long (-1)])), (h1, .inr (10, [.int 400, .ref u9, .ref u10, .ref u11, .ref u12, .ref u13, .ref u14, .int 0]))] sz)) (vx_X (fun _ : Unit => True) (fun (E : String) (_ : Unit) (t : State) => E = "java/lang/IndexOutOfBoundsException" ∧ va_P (dC, dI) vwCl [(h0, .inr (11, [.ref u0, .ref h1, .ref u1, .ref u2, .ref u3, .ref u4, .ref u5, .ref u6, .ref u7, .ref u8, .null, .long (-1)])), (h1, .inr (10, [.int 400, .ref u9, .ref u10, .ref u11, .ref u12, .ref u13, .ref u14, .int 0]))] t.heap ∧ va_K (dC, dI) vwCl [] t ∧ va_D (va_A [(h0, .inr (11, [.ref u0, .ref h1, .ref u1, .ref u2, .ref u3, .ref u4, .ref u5, .ref u6, .ref u7, .ref u8, .null, .long (-1)])), (h1, .inr (10, [.int 400, .ref u9, .ref u10, .ref u11, .ref u12, .ref u13, .ref u14, .int 0]))] sz) [(h0, .inr (11, [.ref u0, .ref h1, .ref u1, .ref u2, .ref u3, .ref u4, .ref u5, .ref u6, .ref u7, .ref u8, .null, .long (-1)])), (h1, .inr (10, [.int 400, .ref u9, .ref u10, .ref u11, .ref u12, .ref u13, .ref u14, .int 0]))]) (va_A [(h0, .inr (11, [.ref u0, .ref h1, .ref u1, .ref u2, .ref u3, .ref u4, .ref u5, .ref u6, .ref u7, .ref u8, .null, .long (-1)])), (h1, .inr (10, [.int 400, .ref u9, .ref u10, .ref u11, .ref u12, .ref u13, .ref u14, .int 0]))] sz)) 1 6 (va_A [(h0, .inr (11, [.ref u0, .ref h1, .ref u1, .ref u2, .ref u3, .ref u4, .ref u5, .ref u6, .ref u7, .ref u8, .null, .long (-1)])), (h1, .inr (10, [.int 400, .ref u9, .ref u10, .ref u11, .ref u12, .ref u13, .ref u14, .int 0]))] sz) := by
  refine vx_ofW (cc := cX11_letter) (maxL := 3) (ret := (some .int)) (by decide) rfl ?_
  intro p e s m args below meth c s₁ B hml hout hv
  obtain ⟨rfl, hsz, hP, hK, hD0, hE, hZ⟩ := hv
  have hx := B.exec
  have hb := B.bytes
  have hr := B.returns
  have hG : ∀ w ∈ zG, w.before _ s = true := fun w h => atoms_spec (ws := (zw yX11_letter cX11_letter 3 (some .int))) B.pre w (List.mem_cons_of_mem _ h)
  have hown : s.vm.findClass RX11 = some m.cls := findClass_of_methodNamed B.named
  have hlocks := B.notSynchronized
  subst hsz
  have hD := hD0.self (sz := s.heap.size)
  generalize hAe : va_A [(h0, .inr (11, [.ref u0, .ref h1, .ref u1, .ref u2, .ref u3, .ref u4, .ref u5, .ref u6, .ref u7, .ref u8, .null, .long (-1)])), (h1, .inr (10, [.int 400, .ref u9, .ref u10, .ref u11, .ref u12, .ref u13, .ref u14, .int 0]))] s.heap.size = A at hD hZ ⊢
  have hA : ∀ q : Nat, s.heap.size ≤ q → A q := fun q h => by rw [← hAe]; exact Or.inr h
  have hS : va_S A s.heap s.heap [] := va_S.rf
  have hl := lv_entry ([.ref h0, .int s0, .int s1]) (n := 3) (Nat.le_of_ble_eq_true rfl)
  rw [lg_entry_eq]
  generalize (lg_sl ([.ref h0, .int s0, .int s1]) ++ List.replicate (3 - (lg_sl ([.ref h0, .int s0, .int s1])).length) Slot.unset).toArray = ls at hl ⊢
  have hl : lv_has ls 3 [(0, .ref h0), (1, .int s0), (2, .int s1)] := hl
  refine lv_iload_n hx hb dX11_letter_0 rfl (lv_at hl 1 rfl) ?_
  refine lv_if_lt (tgt := 19) hx hb dX11_letter_1 (by decide) (fun c_5429 => ?_) (fun c_5429 => ?_)
  · skip
    have hP9 := hP.sub (ws' := [(h0, .inr (11, [.ref u0, .ref h1, .ref u1, .ref u2, .ref u3, .ref u4, .ref u5, .ref u6, .ref u7, .ref u8, .null, .long (-1)])), (h1, .inr (10, [.int 400, .ref u9, .ref u10, .ref u11, .ref u12, .ref u13, .ref u14, .int 0]))]) [0, 1] rfl
    have hD9 := hD.sub (ws' := [(h0, .inr (11, [.ref u0, .ref h1, .ref u1, .ref u2, .ref u3, .ref u4, .ref u5, .ref u6, .ref u7, .ref u8, .null, .long (-1)])), (h1, .inr (10, [.int 400, .ref u9, .ref u10, .ref u11, .ref u12, .ref u13, .ref u14, .int 0]))]) [0, 1] (by decide) rfl
    have hK9 := hK.sub (tys' := []) [] rfl
    obtain ⟨sa, hstr⟩ := zE_S232 hE
    exact vx_throwS (names := ["java/lang/RuntimeException", "java/lang/Exception"]) (A := A) hx hb hl0 hown (by decide +kernel) (by decide +kernel) (hG _ zw489) (hG _ zw490) hstr (zhat hG hE) zAT_ot hZ.1 hZ.2 hS (hl.1.trans hml.symm) dX11_letter_19 dX11_letter_22 dX11_letter_23 dX11_letter_25 dX11_letter_28 (fun x h => (hout x h).elim) (by decide) (by decide +kernel) (Nat.le_of_ble_eq_true rfl) (Nat.le_of_ble_eq_true rfl) hlocks (fun t hvm hz hk => ⟨(), trivial, ⟨rfl, zkeepP hP9 hk, va_K.moved hvm hK9, hD9⟩, zkeepF hS hz hk⟩) hS.2.2 (Nat.le_of_ble_eq_true rfl) (Nat.le_of_ble_eq_true rfl)
  · skip
    refine lv_iload_n hx hb dX11_letter_4 rfl (lv_at hl 1 rfl) ?_
    refine lv_aload_n hx hb dX11_letter_5 rfl (lv_at hl 0 rfl) ?_
    refine va_get (D := (dC, dI)) (ci := 11) (v := .ref h1) (C := RX11) (T := TX11) (N := 12) hx hb hG zuX11 hown hK hP 0 rfl rfl 1 (by decide) (hG _ zw35) (fun _ h9 => h9) rfl dX11_letter_6 ?_
    have hPc := hP.sub (ws' := [(h1, .inr (10, [.int 400, .ref u9, .ref u10, .ref u11, .ref u12, .ref u13, .ref u14, .int 0]))]) [1] rfl
    have hDc := hD.sub (ws' := [(h1, .inr (10, [.int 400, .ref u9, .ref u10, .ref u11, .ref u12, .ref u13, .ref u14, .int 0]))]) [1] (by decide) rfl
    have hKc := hK.sub (tys' := []) [] rfl
    have hFc := va_free (wc := [(h1, .inr (10, [.int 400, .ref u9, .ref u10, .ref u11, .ref u12, .ref u13, .ref u14, .int 0]))]) hD hS hA [1] rfl
    refine va_calli (va_runV (As := []) (rest := [.int s0]) ⟨hx, hb, hml, hown, hG⟩ (kX10_size_0 l dC dI h1 u9 u10 u11 u12 u13 u14 s.heap.size) (cwV 0 hG (zgV zw328 zw329 zw330 zw20 zw331) rfl rfl rfl (by decide +kernel) ⟨Nat.le_of_ble_eq_true rfl, Nat.le_of_ble_eq_true rfl⟩) ⟨zPc_blind, va_recv hKc hPc (ci := 10) (q0 := 0) rfl rfl, zPc_pre hPc hKc hDc hE hS hFc hZ⟩ rfl rfl hl.1 rfl (lv_room (Nat.le_of_ble_eq_true rfl)) dX11_letter_9 ⟨Nat.le_of_ble_eq_true rfl, Nat.le_of_ble_eq_true rfl⟩) hS (fun q _ h => hFc q h) hFc (fun r_5430 u t H1 locs ht hvm hw hB hz1 hk1 hS => ?_)
    have hw : r_5430 = 0 := hw
    subst hw
    obtain ⟨hP1, hK1, hD1⟩ := hB
    rw [ht] at hP1
    obtain ⟨hP, hD⟩ := va_join (wr := [(h0, .inr (11, [.ref u0, .ref h1, .ref u1, .ref u2, .ref u3, .ref u4, .ref u5, .ref u6, .ref u7, .ref u8, .null, .long (-1)]))]) (w1 := [(h1, .inr (10, [.int 400, .ref u9, .ref u10, .ref u11, .ref u12, .ref u13, .ref u14, .int 0]))]) hP hD [1] [0] rfl rfl (by decide) (by decide) hk1 hFc hP1 hD1
    generalize H1 = H at hP hS ⊢
    have hP : va_P (dC, dI) vwCl [(h0, .inr (11, [.ref u0, .ref h1, .ref u1, .ref u2, .ref u3, .ref u4, .ref u5, .ref u6, .ref u7, .ref u8, .null, .long (-1)])), (h1, .inr (10, [.int 400, .ref u9, .ref u10, .ref u11, .ref u12, .ref u13, .ref u14, .int 0]))] H := hP
    have hD : va_D A [(h0, .inr (11, [.ref u0, .ref h1, .ref u1, .ref u2, .ref u3, .ref u4, .ref u5, .ref u6, .ref u7, .ref u8, .null, .long (-1)])), (h1, .inr (10, [.int 400, .ref u9, .ref u10, .ref u11, .ref u12, .ref u13, .ref u14, .int 0]))] := hD
    refine lv_icmp_ge (tgt := 19) hx hb dX11_letter_12 (by decide) (fun c_5432 => ?_) (fun c_5432 => False.elim (by simp only [Int32.lt_iff_toInt_lt, Int32.le_iff_toInt_le, zeqi, zlit] at c_5429 c_5432; omega))
    have hP9 := hP.sub (ws' := [(h0, .inr (11, [.ref u0, .ref h1, .ref u1, .ref u2, .ref u3, .ref u4, .ref u5, .ref u6, .ref u7, .ref u8, .null, .long (-1)])), (h1, .inr (10, [.int 400, .ref u9, .ref u10, .ref u11, .ref u12, .ref u13, .ref u14, .int 0]))]) [0, 1] rfl
    have hD9 := hD.sub (ws' := [(h0, .inr (11, [.ref u0, .ref h1, .ref u1, .ref u2, .ref u3, .ref u4, .ref u5, .ref u6, .ref u7, .ref u8, .null, .long (-1)])), (h1, .inr (10, [.int 400, .ref u9, .ref u10, .ref u11, .ref u12, .ref u13, .ref u14, .int 0]))]) [0, 1] (by decide) rfl
    have hK9 := hK.sub (tys' := []) [] rfl
    obtain ⟨sa, hstr⟩ := zE_S232 hE
    exact vx_throwS (names := ["java/lang/RuntimeException", "java/lang/Exception"]) (A := A) hx hb hl0 hown (by decide +kernel) (by decide +kernel) (hG _ zw489) (hG _ zw490) hstr (zhat hG hE) zAT_ot hZ.1 hZ.2 hS (hl.1.trans hml.symm) dX11_letter_19 dX11_letter_22 dX11_letter_23 dX11_letter_25 dX11_letter_28 (fun x h => (hout x h).elim) (by decide) (by decide +kernel) (Nat.le_of_ble_eq_true rfl) (Nat.le_of_ble_eq_true rfl) hlocks (fun t hvm hz hk => ⟨(), trivial, ⟨rfl, zkeepP hP9 hk, va_K.moved hvm hK9, hD9⟩, zkeepF hS hz hk⟩) hS.2.2 (Nat.le_of_ble_eq_true rfl) (Nat.le_of_ble_eq_true rfl)
set_option maxHeartbeats 4000000 in
set_option maxRecDepth 100000 in
theorem kL_letter_0 (l : Launch) (hl0 : l.stackTraces = false) (dC : Nat → ClassId) (dI : Nat → Nat → Nat) (h0 h1 u0 u1 u2 u3 u4 u5 u6 u7 u8 u9 u10 u11 u12 u13 u14 u15 : Nat) (sz : Nat) (s0 : Int32) (s1 : Int32) : Met l yL_letter (.codeWith yL_letter cL_letter 5 (some .int) [(0, 10, 13, 13)] :: zG) { frames := 9, cells := 1, slots := 6, locals := 142 } (zPc dC dI [.ref h0, .int s0, .int s1, .ref u0] sz [(h0, .inr (11, [.ref u1, .ref h1, .ref u2, .ref u3, .ref u4, .ref u5, .ref u6, .ref u7, .ref u8, .ref u9, .null, .long (-1)])), (h1, .inr (10, [.int 400, .ref u10, .ref u11, .ref u12, .ref u13, .ref u14, .ref u15, .int 0]))] []) (va_Qi (fun (r : Int32) (_ : Unit) => r = 1) (fun (_ : Unit) (t : State) => va_P (dC, dI) vwCl [(h0, .inr (11, [.ref u1, .ref h1, .ref u2, .ref u3, .ref u4, .ref u5, .ref u6, .ref u7, .ref u8, .ref u9, .null, .long (-1)])), (h1, .inr (10, [.int 400, .ref u10, .ref u11, .ref u12, .ref u13, .ref u14, .ref u15, .int 0]))] t.heap ∧ va_K (dC, dI) vwCl [] t ∧ va_D (va_A [(h0, .inr (11, [.ref u1, .ref h1, .ref u2, .ref u3, .ref u4, .ref u5, .ref u6, .ref u7, .ref u8, .ref u9, .null, .long (-1)])), (h1, .inr (10, [.int 400, .ref u10, .ref u11, .ref u12, .ref u13, .ref u14, .ref u15, .int 0]))] sz) [(h0, .inr (11, [.ref u1, .ref h1, .ref u2, .ref u3, .ref u4, .ref u5, .ref u6, .ref u7, .ref u8, .ref u9, .null, .long (-1)])), (h1, .inr (10, [.int 400, .ref u10, .ref u11, .ref u12, .ref u13, .ref u14, .ref u15, .int 0]))]) (va_A [(h0, .inr (11, [.ref u1, .ref h1, .ref u2, .ref u3, .ref u4, .ref u5, .ref u6, .ref u7, .ref u8, .ref u9, .null, .long (-1)])), (h1, .inr (10, [.int 400, .ref u10, .ref u11, .ref u12, .ref u13, .ref u14, .ref u15, .int 0]))] sz)) 1 6 (va_A [(h0, .inr (11, [.ref u1, .ref h1, .ref u2, .ref u3, .ref u4, .ref u5, .ref u6, .ref u7, .ref u8, .ref u9, .null, .long (-1)])), (h1, .inr (10, [.int 400, .ref u10, .ref u11, .ref u12, .ref u13, .ref u14, .ref u15, .int 0]))] sz) := by
  refine zmet_of (vx_ofWH (cc := cL_letter) (maxL := 5) (ret := (some .int)) (hh := [(0, 10, 13, 13)]) (by decide) rfl ?_)
  intro p e s m args below meth c s₁ B hml hv
  obtain ⟨rfl, hsz, hP, hK, hD0, hE, hZ⟩ := hv
  have hx := B.exec
  have hb := B.bytes
  have hr := B.returns
  have hG : ∀ w ∈ zG, w.before _ s = true := fun w h => atoms_spec (ws := (.codeWith yL_letter cL_letter 5 (some .int) [(0, 10, 13, 13)] :: zG)) B.pre w (List.mem_cons_of_mem _ h)
  have hown : s.vm.findClass RL = some m.cls := findClass_of_methodNamed B.named
  have hlocks := B.notSynchronized
  have htab : c.exceptionTable.toList = tableOf [(0, 10, 13, 13)] := vx_table (x := yL_law) B (atoms_spec (ws := (.codeWith yL_letter cL_letter 5 (some .int) [(0, 10, 13, 13)] :: zG)) B.pre _ List.mem_cons_self)
  subst hsz
  have hD := hD0.self (sz := s.heap.size)
  generalize hAe : va_A [(h0, .inr (11, [.ref u1, .ref h1, .ref u2, .ref u3, .ref u4, .ref u5, .ref u6, .ref u7, .ref u8, .ref u9, .null, .long (-1)])), (h1, .inr (10, [.int 400, .ref u10, .ref u11, .ref u12, .ref u13, .ref u14, .ref u15, .int 0]))] s.heap.size = A at hD hZ ⊢
  have hA : ∀ q : Nat, s.heap.size ≤ q → A q := fun q h => by rw [← hAe]; exact Or.inr h
  have hS : va_S A s.heap s.heap [] := va_S.rf
  have hl := lv_entry ([.ref h0, .int s0, .int s1, .ref u0]) (n := 5) (Nat.le_of_ble_eq_true rfl)
  rw [lg_entry_eq]
  generalize (lg_sl ([.ref h0, .int s0, .int s1, .ref u0]) ++ List.replicate (5 - (lg_sl ([.ref h0, .int s0, .int s1, .ref u0])).length) Slot.unset).toArray = ls at hl ⊢
  have hl : lv_has ls 5 [(0, .ref h0), (1, .int s0), (2, .int s1), (3, .ref u0)] := hl
  refine lv_aload_n hx hb dL_letter_0 rfl (lv_at hl 3 rfl) ?_
  refine lv_iconst (v := 0) hx hb dL_letter_1 (by decide) ?_
  refine lv_aload_n hx hb dL_letter_2 rfl (lv_at hl 0 rfl) ?_
  refine lv_iload_n hx hb dL_letter_3 rfl (lv_at hl 1 rfl) ?_
  refine lv_iload_n hx hb dL_letter_4 rfl (lv_at hl 2 rfl) ?_
  have hPc := hP.sub (ws' := [(h0, .inr (11, [.ref u1, .ref h1, .ref u2, .ref u3, .ref u4, .ref u5, .ref u6, .ref u7, .ref u8, .ref u9, .null, .long (-1)])), (h1, .inr (10, [.int 400, .ref u10, .ref u11, .ref u12, .ref u13, .ref u14, .ref u15, .int 0]))]) [0, 1] rfl
  have hDc := hD.sub (ws' := [(h0, .inr (11, [.ref u1, .ref h1, .ref u2, .ref u3, .ref u4, .ref u5, .ref u6, .ref u7, .ref u8, .ref u9, .null, .long (-1)])), (h1, .inr (10, [.int 400, .ref u10, .ref u11, .ref u12, .ref u13, .ref u14, .ref u15, .int 0]))]) [0, 1] (by decide) rfl
  have hKc := hK.sub (tys' := []) [] rfl
  have hFc := va_free (wc := [(h0, .inr (11, [.ref u1, .ref h1, .ref u2, .ref u3, .ref u4, .ref u5, .ref u6, .ref u7, .ref u8, .ref u9, .null, .long (-1)])), (h1, .inr (10, [.int 400, .ref u10, .ref u11, .ref u12, .ref u13, .ref u14, .ref u15, .int 0]))]) hD hS hA [0, 1] rfl
  refine vx_calli (vx_runV (As := [.int s0, .int s1]) (rest := [.int 0, .ref u0]) ⟨hx, hb, hml, hown, hG⟩ (kX11_letter_0 l hl0 dC dI h0 h1 u1 u2 u3 u4 u5 u6 u7 u8 u9 u10 u11 u12 u13 u14 u15 s.heap.size s0 s1) (cwV 2 hG (zgV zw595 zw596 zw597 zw2 zw598) rfl rfl rfl (by decide +kernel) ⟨Nat.le_of_ble_eq_true rfl, Nat.le_of_ble_eq_true rfl⟩) ⟨zPc_blind, va_recv hKc hPc (ci := 11) (q0 := 0) rfl rfl, zPc_pre hPc hKc hDc hE hS hFc hZ⟩ rfl rfl hl.1 rfl (lv_room (Nat.le_of_ble_eq_true rfl)) dL_letter_5 ⟨Nat.le_of_ble_eq_true rfl, Nat.le_of_ble_eq_true rfl⟩) hS (fun q _ h => hFc q h) hFc (fun q _ h => hFc q h) (fun E ce q9 u t H1 locs ht hvm hpx hBX hz1 hk1 hS hce hcv hcl => ?_) (fun r u t H1 locs ht hvm hw => (hw : False).elim)
  obtain ⟨rfl, hP1, hK1, hD1⟩ := hBX
  rw [ht] at hP1
  obtain ⟨hP, hD⟩ := va_join (wr := []) (w1 := [(h0, .inr (11, [.ref u1, .ref h1, .ref u2, .ref u3, .ref u4, .ref u5, .ref u6, .ref u7, .ref u8, .ref u9, .null, .long (-1)])), (h1, .inr (10, [.int 400, .ref u10, .ref u11, .ref u12, .ref u13, .ref u14, .ref u15, .int 0]))]) hP hD [0, 1] [] rfl rfl (by decide) (by decide) hk1 hFc hP1 hD1
  have hP : va_P (dC, dI) vwCl [(h0, .inr (11, [.ref u1, .ref h1, .ref u2, .ref u3, .ref u4, .ref u5, .ref u6, .ref u7, .ref u8, .ref u9, .null, .long (-1)])), (h1, .inr (10, [.int 400, .ref u10, .ref u11, .ref u12, .ref u13, .ref u14, .ref u15, .int 0]))] H1 := hP
  have hD : va_D A [(h0, .inr (11, [.ref u1, .ref h1, .ref u2, .ref u3, .ref u4, .ref u5, .ref u6, .ref u7, .ref u8, .ref u9, .null, .long (-1)])), (h1, .inr (10, [.int 400, .ref u10, .ref u11, .ref u12, .ref u13, .ref u14, .ref u15, .int 0]))] := hD
  refine z_catch (x := _) (suf := []) hown htab (by decide) (by decide) (hG _ zw495) (va_Nw.use rfl (zE_castI hE)) hce hcv hcl ?_
  refine W.widen (k := 1) (n := 6) (by decide) (by decide) ?_
  refine W.eq (g2 := F0 m 13 ls [.ref q9]) rfl ?_
  generalize H1 = H at hP hS ⊢
  have hP : va_P (dC, dI) vwCl [(h0, .inr (11, [.ref u1, .ref h1, .ref u2, .ref u3, .ref u4, .ref u5, .ref u6, .ref u7, .ref u8, .ref u9, .null, .long (-1)])), (h1, .inr (10, [.int 400, .ref u10, .ref u11, .ref u12, .ref u13, .ref u14, .ref u15, .int 0]))] H := hP
  refine lv_astore (lv' := [(4, .ref q9), (0, .ref h0), (1, .int s0), (2, .int s1), (3, .ref u0)]) hx hb dL_letter_13 hl (by decide) rfl (fun ls hl => ?_)
  refine lv_iconst (v := 1) hx hb dL_letter_15 (by decide) ?_
  have hP9 := hP.sub (ws' := [(h0, .inr (11, [.ref u1, .ref h1, .ref u2, .ref u3, .ref u4, .ref u5, .ref u6, .ref u7, .ref u8, .ref u9, .null, .long (-1)])), (h1, .inr (10, [.int 400, .ref u10, .ref u11, .ref u12, .ref u13, .ref u14, .ref u15, .int 0]))]) [0, 1] rfl
  have hD9 := hD.sub (ws' := [(h0, .inr (11, [.ref u1, .ref h1, .ref u2, .ref u3, .ref u4, .ref u5, .ref u6, .ref u7, .ref u8, .ref u9, .null, .long (-1)])), (h1, .inr (10, [.int 400, .ref u10, .ref u11, .ref u12, .ref u13, .ref u14, .ref u15, .int 0]))]) [0, 1] (by decide) rfl
  have hK9 := hK.sub (tys' := []) [] rfl
  refine W.widen (k := 1) (n := 6) (by decide) (by decide) ?_
  exact vx_ret (W.iret (v := 1) hx hb hr (fun t ht hW => ⟨⟨1, (), rfl, rfl, by rw [ht]; exact hP9, va_K.moved hW.alike hK9, hD9⟩, hS.F ht⟩) hS.2.2 dL_letter_16)
set_option maxHeartbeats 4000000 in
set_option maxRecDepth 100000 in
theorem kX13_letter_0 (l : Launch) (dC : Nat → ClassId) (dI : Nat → Nat → Nat) (h0 u0 u1 u2 u3 u4 u5 u6 u7 u8 u9 u10 u11 u12 u13 u14 u15 u16 u17 u18 u19 u20 u21 u22 u23 u24 u25 u26 u27 u28 u29 u30 u31 u32 u33 u34 u35 u36 u37 u38 u39 u40 u41 u42 u43 u44 u45 u46 u47 u48 : Nat) (sz : Nat) (s0 : Int32) (s1 : Int32) : Met l yX13_letter (zw yX13_letter cX13_letter 4 (some .int)) { frames := 1, cells := 0, slots := 0, locals := 20 } (zPc dC dI [.ref h0, .int s0, .int s1] sz [(h0, .inr (13, [.ref u0, .int 0, .ref u1, .ref u2, .int 0, .ref u3, .ref u4, .ref u5, .ref u6, .ref u7, .ref u8, .ref u9, .ref u10, .int 0, .ref u11, .ref u12, .int 0, .ref u13, .int (-1), .ref u14, .int 0, .int 0, .ref u15, .int 0, .int 0, .ref u16, .ref u17, .ref u18, .ref u19, .ref u20, .int 0, .ref u21, .int 0, .int 0, .int 0, .int 0, .int 0, .int 0, .ref u22, .ref u23, .ref u24, .ref u25, .int 0, .ref u26, .ref u27, .ref u28, .ref u29, .int 0, .ref u30, .ref u31, .int 0, .int 0, .ref u32, .int 0, .int 0, .int 0, .ref u33, .ref u34, .ref u35, .int 0, .int 0, .ref u36, .ref u37, .ref u38, .ref u39, .ref u40, .ref u41, .ref u42, .ref u43, .ref u44, .ref u45, .int 0, .ref u46, .ref u47, .ref u48]))] []) (va_Qi (fun (r : Int32) (_ : Unit) => r = 0) (fun (_ : Unit) (t : State) => va_P (dC, dI) vwCl [(h0, .inr (13, [.ref u0, .int 0, .ref u1, .ref u2, .int 0, .ref u3, .ref u4, .ref u5, .ref u6, .ref u7, .ref u8, .ref u9, .ref u10, .int 0, .ref u11, .ref u12, .int 0, .ref u13, .int (-1), .ref u14, .int 0, .int 1, .ref u15, .int 0, .int 0, .ref u16, .ref u17, .ref u18, .ref u19, .ref u20, .int 0, .ref u21, .int 0, .int 0, .int 0, .int 0, .int 0, .int 0, .ref u22, .ref u23, .ref u24, .ref u25, .int 0, .ref u26, .ref u27, .ref u28, .ref u29, .int 0, .ref u30, .ref u31, .int 0, .int 0, .ref u32, .int 0, .int 0, .int 0, .ref u33, .ref u34, .ref u35, .int 0, .int 0, .ref u36, .ref u37, .ref u38, .ref u39, .ref u40, .ref u41, .ref u42, .ref u43, .ref u44, .ref u45, .int 0, .ref u46, .ref u47, .ref u48]))] t.heap ∧ va_K (dC, dI) vwCl [] t ∧ va_D (va_A [(h0, .inr (13, [.ref u0, .int 0, .ref u1, .ref u2, .int 0, .ref u3, .ref u4, .ref u5, .ref u6, .ref u7, .ref u8, .ref u9, .ref u10, .int 0, .ref u11, .ref u12, .int 0, .ref u13, .int (-1), .ref u14, .int 0, .int 0, .ref u15, .int 0, .int 0, .ref u16, .ref u17, .ref u18, .ref u19, .ref u20, .int 0, .ref u21, .int 0, .int 0, .int 0, .int 0, .int 0, .int 0, .ref u22, .ref u23, .ref u24, .ref u25, .int 0, .ref u26, .ref u27, .ref u28, .ref u29, .int 0, .ref u30, .ref u31, .int 0, .int 0, .ref u32, .int 0, .int 0, .int 0, .ref u33, .ref u34, .ref u35, .int 0, .int 0, .ref u36, .ref u37, .ref u38, .ref u39, .ref u40, .ref u41, .ref u42, .ref u43, .ref u44, .ref u45, .int 0, .ref u46, .ref u47, .ref u48]))] sz) [(h0, .inr (13, [.ref u0, .int 0, .ref u1, .ref u2, .int 0, .ref u3, .ref u4, .ref u5, .ref u6, .ref u7, .ref u8, .ref u9, .ref u10, .int 0, .ref u11, .ref u12, .int 0, .ref u13, .int (-1), .ref u14, .int 0, .int 1, .ref u15, .int 0, .int 0, .ref u16, .ref u17, .ref u18, .ref u19, .ref u20, .int 0, .ref u21, .int 0, .int 0, .int 0, .int 0, .int 0, .int 0, .ref u22, .ref u23, .ref u24, .ref u25, .int 0, .ref u26, .ref u27, .ref u28, .ref u29, .int 0, .ref u30, .ref u31, .int 0, .int 0, .ref u32, .int 0, .int 0, .int 0, .ref u33, .ref u34, .ref u35, .int 0, .int 0, .ref u36, .ref u37, .ref u38, .ref u39, .ref u40, .ref u41, .ref u42, .ref u43, .ref u44, .ref u45, .int 0, .ref u46, .ref u47, .ref u48]))]) (va_A [(h0, .inr (13, [.ref u0, .int 0, .ref u1, .ref u2, .int 0, .ref u3, .ref u4, .ref u5, .ref u6, .ref u7, .ref u8, .ref u9, .ref u10, .int 0, .ref u11, .ref u12, .int 0, .ref u13, .int (-1), .ref u14, .int 0, .int 0, .ref u15, .int 0, .int 0, .ref u16, .ref u17, .ref u18, .ref u19, .ref u20, .int 0, .ref u21, .int 0, .int 0, .int 0, .int 0, .int 0, .int 0, .ref u22, .ref u23, .ref u24, .ref u25, .int 0, .ref u26, .ref u27, .ref u28, .ref u29, .int 0, .ref u30, .ref u31, .int 0, .int 0, .ref u32, .int 0, .int 0, .int 0, .ref u33, .ref u34, .ref u35, .int 0, .int 0, .ref u36, .ref u37, .ref u38, .ref u39, .ref u40, .ref u41, .ref u42, .ref u43, .ref u44, .ref u45, .int 0, .ref u46, .ref u47, .ref u48]))] sz)) 0 0 (va_A [(h0, .inr (13, [.ref u0, .int 0, .ref u1, .ref u2, .int 0, .ref u3, .ref u4, .ref u5, .ref u6, .ref u7, .ref u8, .ref u9, .ref u10, .int 0, .ref u11, .ref u12, .int 0, .ref u13, .int (-1), .ref u14, .int 0, .int 0, .ref u15, .int 0, .int 0, .ref u16, .ref u17, .ref u18, .ref u19, .ref u20, .int 0, .ref u21, .int 0, .int 0, .int 0, .int 0, .int 0, .int 0, .ref u22, .ref u23, .ref u24, .ref u25, .int 0, .ref u26, .ref u27, .ref u28, .ref u29, .int 0, .ref u30, .ref u31, .int 0, .int 0, .ref u32, .int 0, .int 0, .int 0, .ref u33, .ref u34, .ref u35, .int 0, .int 0, .ref u36, .ref u37, .ref u38, .ref u39, .ref u40, .ref u41, .ref u42, .ref u43, .ref u44, .ref u45, .int 0, .ref u46, .ref u47, .ref u48]))] sz) := by
  refine Met.ofW (cc := cX13_letter) (maxL := 4) (ret := (some .int)) (by decide) rfl ?_
  intro p e s m args below meth c s₁ B hml hv
  obtain ⟨rfl, hsz, hP, hK, hD0, hE, hZ⟩ := hv
  have hx := B.exec
  have hb := B.bytes
  have hr := B.returns
  have hG : ∀ w ∈ zG, w.before _ s = true := fun w h => atoms_spec (ws := (zw yX13_letter cX13_letter 4 (some .int))) B.pre w (List.mem_cons_of_mem _ h)
  have hown : s.vm.findClass RX13 = some m.cls := findClass_of_methodNamed B.named
  have hlocks := B.notSynchronized
  subst hsz
  have hD := hD0.self (sz := s.heap.size)
  generalize hAe : va_A [(h0, .inr (13, [.ref u0, .int 0, .ref u1, .ref u2, .int 0, .ref u3, .ref u4, .ref u5, .ref u6, .ref u7, .ref u8, .ref u9, .ref u10, .int 0, .ref u11, .ref u12, .int 0, .ref u13, .int (-1), .ref u14, .int 0, .int 0, .ref u15, .int 0, .int 0, .ref u16, .ref u17, .ref u18, .ref u19, .ref u20, .int 0, .ref u21, .int 0, .int 0, .int 0, .int 0, .int 0, .int 0, .ref u22, .ref u23, .ref u24, .ref u25, .int 0, .ref u26, .ref u27, .ref u28, .ref u29, .int 0, .ref u30, .ref u31, .int 0, .int 0, .ref u32, .int 0, .int 0, .int 0, .ref u33, .ref u34, .ref u35, .int 0, .int 0, .ref u36, .ref u37, .ref u38, .ref u39, .ref u40, .ref u41, .ref u42, .ref u43, .ref u44, .ref u45, .int 0, .ref u46, .ref u47, .ref u48]))] s.heap.size = A at hD hZ ⊢
  have hA : ∀ q : Nat, s.heap.size ≤ q → A q := fun q h => by rw [← hAe]; exact Or.inr h
  have hS : va_S A s.heap s.heap [] := va_S.rf
  have hl := lv_entry ([.ref h0, .int s0, .int s1]) (n := 4) (Nat.le_of_ble_eq_true rfl)
  rw [lg_entry_eq]
  generalize (lg_sl ([.ref h0, .int s0, .int s1]) ++ List.replicate (4 - (lg_sl ([.ref h0, .int s0, .int s1])).length) Slot.unset).toArray = ls at hl ⊢
  have hl : lv_has ls 4 [(0, .ref h0), (1, .int s0), (2, .int s1)] := hl
  refine lv_aload_n hx hb dX13_letter_0 rfl (lv_at hl 0 rfl) ?_
  refine lv_iconst (v := 0) hx hb dX13_letter_1 (by decide) ?_
  refine va_put (D := (dC, dI)) (ci := 13) (v := .int 0) (ty := .int) (C := RX13) (T := TX13) (N := 75) hx hb hG zuX13 tyX13 tyX13_ok nmX13 hown hK hP hD hS 0 rfl rfl 21 (by decide) (hG _ zw302) (fun _ h9 => h9) rfl (by decide +kernel) rfl rfl (Nat.le_of_ble_eq_true rfl) dX13_letter_2 (fun H locs hP hD hS => ?_)
  have hP : va_P (dC, dI) vwCl [(h0, .inr (13, [.ref u0, .int 0, .ref u1, .ref u2, .int 0, .ref u3, .ref u4, .ref u5, .ref u6, .ref u7, .ref u8, .ref u9, .ref u10, .int 0, .ref u11, .ref u12, .int 0, .ref u13, .int (-1), .ref u14, .int 0, .int 0, .ref u15, .int 0, .int 0, .ref u16, .ref u17, .ref u18, .ref u19, .ref u20, .int 0, .ref u21, .int 0, .int 0, .int 0, .int 0, .int 0, .int 0, .ref u22, .ref u23, .ref u24, .ref u25, .int 0, .ref u26, .ref u27, .ref u28, .ref u29, .int 0, .ref u30, .ref u31, .int 0, .int 0, .ref u32, .int 0, .int 0, .int 0, .ref u33, .ref u34, .ref u35, .int 0, .int 0, .ref u36, .ref u37, .ref u38, .ref u39, .ref u40, .ref u41, .ref u42, .ref u43, .ref u44, .ref u45, .int 0, .ref u46, .ref u47, .ref u48]))] H := hP
  have hD : va_D A [(h0, .inr (13, [.ref u0, .int 0, .ref u1, .ref u2, .int 0, .ref u3, .ref u4, .ref u5, .ref u6, .ref u7, .ref u8, .ref u9, .ref u10, .int 0, .ref u11, .ref u12, .int 0, .ref u13, .int (-1), .ref u14, .int 0, .int 0, .ref u15, .int 0, .int 0, .ref u16, .ref u17, .ref u18, .ref u19, .ref u20, .int 0, .ref u21, .int 0, .int 0, .int 0, .int 0, .int 0, .int 0, .ref u22, .ref u23, .ref u24, .ref u25, .int 0, .ref u26, .ref u27, .ref u28, .ref u29, .int 0, .ref u30, .ref u31, .int 0, .int 0, .ref u32, .int 0, .int 0, .int 0, .ref u33, .ref u34, .ref u35, .int 0, .int 0, .ref u36, .ref u37, .ref u38, .ref u39, .ref u40, .ref u41, .ref u42, .ref u43, .ref u44, .ref u45, .int 0, .ref u46, .ref u47, .ref u48]))] := hD
  refine lv_iload_n hx hb dX13_letter_5 rfl (lv_at hl 1 rfl) ?_
  refine lv_if_lt (tgt := 21) hx hb dX13_letter_6 (by decide) (fun c_5457 => ?_) (fun c_5457 => ?_)
  · skip
    refine lv_aload_n hx hb dX13_letter_21 rfl (lv_at hl 0 rfl) ?_
    have hPc := hP.sub (ws' := [(h0, .inr (13, [.ref u0, .int 0, .ref u1, .ref u2, .int 0, .ref u3, .ref u4, .ref u5, .ref u6, .ref u7, .ref u8, .ref u9, .ref u10, .int 0, .ref u11, .ref u12, .int 0, .ref u13, .int (-1), .ref u14, .int 0, .int 0, .ref u15, .int 0, .int 0, .ref u16, .ref u17, .ref u18, .ref u19, .ref u20, .int 0, .ref u21, .int 0, .int 0, .int 0, .int 0, .int 0, .int 0, .ref u22, .ref u23, .ref u24, .ref u25, .int 0, .ref u26, .ref u27, .ref u28, .ref u29, .int 0, .ref u30, .ref u31, .int 0, .int 0, .ref u32, .int 0, .int 0, .int 0, .ref u33, .ref u34, .ref u35, .int 0, .int 0, .ref u36, .ref u37, .ref u38, .ref u39, .ref u40, .ref u41, .ref u42, .ref u43, .ref u44, .ref u45, .int 0, .ref u46, .ref u47, .ref u48]))]) [0] rfl
    have hDc := hD.sub (ws' := [(h0, .inr (13, [.ref u0, .int 0, .ref u1, .ref u2, .int 0, .ref u3, .ref u4, .ref u5, .ref u6, .ref u7, .ref u8, .ref u9, .ref u10, .int 0, .ref u11, .ref u12, .int 0, .ref u13, .int (-1), .ref u14, .int 0, .int 0, .ref u15, .int 0, .int 0, .ref u16, .ref u17, .ref u18, .ref u19, .ref u20, .int 0, .ref u21, .int 0, .int 0, .int 0, .int 0, .int 0, .int 0, .ref u22, .ref u23, .ref u24, .ref u25, .int 0, .ref u26, .ref u27, .ref u28, .ref u29, .int 0, .ref u30, .ref u31, .int 0, .int 0, .ref u32, .int 0, .int 0, .int 0, .ref u33, .ref u34, .ref u35, .int 0, .int 0, .ref u36, .ref u37, .ref u38, .ref u39, .ref u40, .ref u41, .ref u42, .ref u43, .ref u44, .ref u45, .int 0, .ref u46, .ref u47, .ref u48]))]) [0] (by decide) rfl
    have hKc := hK.sub (tys' := []) [] rfl
    have hFc := va_free (wc := [(h0, .inr (13, [.ref u0, .int 0, .ref u1, .ref u2, .int 0, .ref u3, .ref u4, .ref u5, .ref u6, .ref u7, .ref u8, .ref u9, .ref u10, .int 0, .ref u11, .ref u12, .int 0, .ref u13, .int (-1), .ref u14, .int 0, .int 0, .ref u15, .int 0, .int 0, .ref u16, .ref u17, .ref u18, .ref u19, .ref u20, .int 0, .ref u21, .int 0, .int 0, .int 0, .int 0, .int 0, .int 0, .ref u22, .ref u23, .ref u24, .ref u25, .int 0, .ref u26, .ref u27, .ref u28, .ref u29, .int 0, .ref u30, .ref u31, .int 0, .int 0, .ref u32, .int 0, .int 0, .int 0, .ref u33, .ref u34, .ref u35, .int 0, .int 0, .ref u36, .ref u37, .ref u38, .ref u39, .ref u40, .ref u41, .ref u42, .ref u43, .ref u44, .ref u45, .int 0, .ref u46, .ref u47, .ref u48]))]) hD hS hA [0] rfl
    refine va_calli (va_runV (As := []) (rest := []) ⟨hx, hb, hml, hown, hG⟩ (kX13_refuse_0 l dC dI h0 u0 u1 u2 u3 u4 u5 u6 u7 u8 u9 u10 u11 u12 u13 u14 u15 u16 u17 u18 u19 u20 u21 u22 u23 u24 u25 u26 u27 u28 u29 u30 u31 u32 u33 u34 u35 u36 u37 u38 u39 u40 u41 u42 u43 u44 u45 u46 u47 u48 H.size) (cwV 0 hG (zgV zw500 zw501 zw502 zw207 zw503) rfl rfl rfl (by decide +kernel) ⟨Nat.le_of_ble_eq_true rfl, Nat.le_of_ble_eq_true rfl⟩) ⟨zPc_blind, va_recv hKc hPc (ci := 13) (q0 := 0) rfl rfl, zPc_pre hPc hKc hDc hE hS hFc hZ⟩ rfl rfl hl.1 rfl (lv_room (Nat.le_of_ble_eq_true rfl)) dX13_letter_22 ⟨Nat.le_of_ble_eq_true rfl, Nat.le_of_ble_eq_true rfl⟩) hS (fun q _ h => hFc q h) hFc (fun r_5458 u t H1 locs ht hvm hw hB hz1 hk1 hS => ?_)
    have hw : r_5458 = 0 := hw
    subst hw
    obtain ⟨hP1, hK1, hD1⟩ := hB
    rw [ht] at hP1
    obtain ⟨hP, hD⟩ := va_join (wr := []) (w1 := [(h0, .inr (13, [.ref u0, .int 0, .ref u1, .ref u2, .int 0, .ref u3, .ref u4, .ref u5, .ref u6, .ref u7, .ref u8, .ref u9, .ref u10, .int 0, .ref u11, .ref u12, .int 0, .ref u13, .int (-1), .ref u14, .int 0, .int 1, .ref u15, .int 0, .int 0, .ref u16, .ref u17, .ref u18, .ref u19, .ref u20, .int 0, .ref u21, .int 0, .int 0, .int 0, .int 0, .int 0, .int 0, .ref u22, .ref u23, .ref u24, .ref u25, .int 0, .ref u26, .ref u27, .ref u28, .ref u29, .int 0, .ref u30, .ref u31, .int 0, .int 0, .ref u32, .int 0, .int 0, .int 0, .ref u33, .ref u34, .ref u35, .int 0, .int 0, .ref u36, .ref u37, .ref u38, .ref u39, .ref u40, .ref u41, .ref u42, .ref u43, .ref u44, .ref u45, .int 0, .ref u46, .ref u47, .ref u48]))]) hP hD [0] [] rfl rfl (by decide) (by decide) hk1 hFc hP1 hD1
    generalize H1 = H at hP hS ⊢
    have hP : va_P (dC, dI) vwCl [(h0, .inr (13, [.ref u0, .int 0, .ref u1, .ref u2, .int 0, .ref u3, .ref u4, .ref u5, .ref u6, .ref u7, .ref u8, .ref u9, .ref u10, .int 0, .ref u11, .ref u12, .int 0, .ref u13, .int (-1), .ref u14, .int 0, .int 1, .ref u15, .int 0, .int 0, .ref u16, .ref u17, .ref u18, .ref u19, .ref u20, .int 0, .ref u21, .int 0, .int 0, .int 0, .int 0, .int 0, .int 0, .ref u22, .ref u23, .ref u24, .ref u25, .int 0, .ref u26, .ref u27, .ref u28, .ref u29, .int 0, .ref u30, .ref u31, .int 0, .int 0, .ref u32, .int 0, .int 0, .int 0, .ref u33, .ref u34, .ref u35, .int 0, .int 0, .ref u36, .ref u37, .ref u38, .ref u39, .ref u40, .ref u41, .ref u42, .ref u43, .ref u44, .ref u45, .int 0, .ref u46, .ref u47, .ref u48]))] H := hP
    have hD : va_D A [(h0, .inr (13, [.ref u0, .int 0, .ref u1, .ref u2, .int 0, .ref u3, .ref u4, .ref u5, .ref u6, .ref u7, .ref u8, .ref u9, .ref u10, .int 0, .ref u11, .ref u12, .int 0, .ref u13, .int (-1), .ref u14, .int 0, .int 1, .ref u15, .int 0, .int 0, .ref u16, .ref u17, .ref u18, .ref u19, .ref u20, .int 0, .ref u21, .int 0, .int 0, .int 0, .int 0, .int 0, .int 0, .ref u22, .ref u23, .ref u24, .ref u25, .int 0, .ref u26, .ref u27, .ref u28, .ref u29, .int 0, .ref u30, .ref u31, .int 0, .int 0, .ref u32, .int 0, .int 0, .int 0, .ref u33, .ref u34, .ref u35, .int 0, .int 0, .ref u36, .ref u37, .ref u38, .ref u39, .ref u40, .ref u41, .ref u42, .ref u43, .ref u44, .ref u45, .int 0, .ref u46, .ref u47, .ref u48]))] := hD
    have hP9 := hP.sub (ws' := [(h0, .inr (13, [.ref u0, .int 0, .ref u1, .ref u2, .int 0, .ref u3, .ref u4, .ref u5, .ref u6, .ref u7, .ref u8, .ref u9, .ref u10, .int 0, .ref u11, .ref u12, .int 0, .ref u13, .int (-1), .ref u14, .int 0, .int 1, .ref u15, .int 0, .int 0, .ref u16, .ref u17, .ref u18, .ref u19, .ref u20, .int 0, .ref u21, .int 0, .int 0, .int 0, .int 0, .int 0, .int 0, .ref u22, .ref u23, .ref u24, .ref u25, .int 0, .ref u26, .ref u27, .ref u28, .ref u29, .int 0, .ref u30, .ref u31, .int 0, .int 0, .ref u32, .int 0, .int 0, .int 0, .ref u33, .ref u34, .ref u35, .int 0, .int 0, .ref u36, .ref u37, .ref u38, .ref u39, .ref u40, .ref u41, .ref u42, .ref u43, .ref u44, .ref u45, .int 0, .ref u46, .ref u47, .ref u48]))]) [0] rfl
    have hD9 := hD.sub (ws' := [(h0, .inr (13, [.ref u0, .int 0, .ref u1, .ref u2, .int 0, .ref u3, .ref u4, .ref u5, .ref u6, .ref u7, .ref u8, .ref u9, .ref u10, .int 0, .ref u11, .ref u12, .int 0, .ref u13, .int (-1), .ref u14, .int 0, .int 1, .ref u15, .int 0, .int 0, .ref u16, .ref u17, .ref u18, .ref u19, .ref u20, .int 0, .ref u21, .int 0, .int 0, .int 0, .int 0, .int 0, .int 0, .ref u22, .ref u23, .ref u24, .ref u25, .int 0, .ref u26, .ref u27, .ref u28, .ref u29, .int 0, .ref u30, .ref u31, .int 0, .int 0, .ref u32, .int 0, .int 0, .int 0, .ref u33, .ref u34, .ref u35, .int 0, .int 0, .ref u36, .ref u37, .ref u38, .ref u39, .ref u40, .ref u41, .ref u42, .ref u43, .ref u44, .ref u45, .int 0, .ref u46, .ref u47, .ref u48]))]) [0] (by decide) rfl
    have hK9 := hK.sub (tys' := []) [] rfl
    refine W.widen (k := 0) (n := 0) (by decide) (by decide) ?_
    exact W.iret (v := 0) hx hb hr (fun t ht hW => ⟨⟨0, (), rfl, rfl, by rw [ht]; exact hP9, va_K.moved hW.alike hK9, hD9⟩, hS.F ht⟩) hS.2.2 dX13_letter_25
  · skip
    refine lv_iload_n hx hb dX13_letter_9 rfl (lv_at hl 1 rfl) ?_
    refine lv_aload_n hx hb dX13_letter_10 rfl (lv_at hl 0 rfl) ?_
    refine va_get (D := (dC, dI)) (ci := 13) (v := .int 0) (C := RX13) (T := TX13) (N := 75) hx hb hG zuX13 hown hK hP 0 rfl rfl 4 (by decide) (hG _ zw376) (fun _ h9 => h9) rfl dX13_letter_11 ?_
    refine lv_icmp_ge (tgt := 21) hx hb dX13_letter_14 (by decide) (fun c_5460 => ?_) (fun c_5460 => False.elim (by simp only [Int32.lt_iff_toInt_lt, Int32.le_iff_toInt_le, zeqi, zlit] at c_5457 c_5460; omega))
    refine lv_aload_n hx hb dX13_letter_21 rfl (lv_at hl 0 rfl) ?_
    have hPc := hP.sub (ws' := [(h0, .inr (13, [.ref u0, .int 0, .ref u1, .ref u2, .int 0, .ref u3, .ref u4, .ref u5, .ref u6, .ref u7, .ref u8, .ref u9, .ref u10, .int 0, .ref u11, .ref u12, .int 0, .ref u13, .int (-1), .ref u14, .int 0, .int 0, .ref u15, .int 0, .int 0, .ref u16, .ref u17, .ref u18, .ref u19, .ref u20, .int 0, .ref u21, .int 0, .int 0, .int 0, .int 0, .int 0, .int 0, .ref u22, .ref u23, .ref u24, .ref u25, .int 0, .ref u26, .ref u27, .ref u28, .ref u29, .int 0, .ref u30, .ref u31, .int 0, .int 0, .ref u32, .int 0, .int 0, .int 0, .ref u33, .ref u34, .ref u35, .int 0, .int 0, .ref u36, .ref u37, .ref u38, .ref u39, .ref u40, .ref u41, .ref u42, .ref u43, .ref u44, .ref u45, .int 0, .ref u46, .ref u47, .ref u48]))]) [0] rfl
    have hDc := hD.sub (ws' := [(h0, .inr (13, [.ref u0, .int 0, .ref u1, .ref u2, .int 0, .ref u3, .ref u4, .ref u5, .ref u6, .ref u7, .ref u8, .ref u9, .ref u10, .int 0, .ref u11, .ref u12, .int 0, .ref u13, .int (-1), .ref u14, .int 0, .int 0, .ref u15, .int 0, .int 0, .ref u16, .ref u17, .ref u18, .ref u19, .ref u20, .int 0, .ref u21, .int 0, .int 0, .int 0, .int 0, .int 0, .int 0, .ref u22, .ref u23, .ref u24, .ref u25, .int 0, .ref u26, .ref u27, .ref u28, .ref u29, .int 0, .ref u30, .ref u31, .int 0, .int 0, .ref u32, .int 0, .int 0, .int 0, .ref u33, .ref u34, .ref u35, .int 0, .int 0, .ref u36, .ref u37, .ref u38, .ref u39, .ref u40, .ref u41, .ref u42, .ref u43, .ref u44, .ref u45, .int 0, .ref u46, .ref u47, .ref u48]))]) [0] (by decide) rfl
    have hKc := hK.sub (tys' := []) [] rfl
    have hFc := va_free (wc := [(h0, .inr (13, [.ref u0, .int 0, .ref u1, .ref u2, .int 0, .ref u3, .ref u4, .ref u5, .ref u6, .ref u7, .ref u8, .ref u9, .ref u10, .int 0, .ref u11, .ref u12, .int 0, .ref u13, .int (-1), .ref u14, .int 0, .int 0, .ref u15, .int 0, .int 0, .ref u16, .ref u17, .ref u18, .ref u19, .ref u20, .int 0, .ref u21, .int 0, .int 0, .int 0, .int 0, .int 0, .int 0, .ref u22, .ref u23, .ref u24, .ref u25, .int 0, .ref u26, .ref u27, .ref u28, .ref u29, .int 0, .ref u30, .ref u31, .int 0, .int 0, .ref u32, .int 0, .int 0, .int 0, .ref u33, .ref u34, .ref u35, .int 0, .int 0, .ref u36, .ref u37, .ref u38, .ref u39, .ref u40, .ref u41, .ref u42, .ref u43, .ref u44, .ref u45, .int 0, .ref u46, .ref u47, .ref u48]))]) hD hS hA [0] rfl
    refine va_calli (va_runV (As := []) (rest := []) ⟨hx, hb, hml, hown, hG⟩ (kX13_refuse_0 l dC dI h0 u0 u1 u2 u3 u4 u5 u6 u7 u8 u9 u10 u11 u12 u13 u14 u15 u16 u17 u18 u19 u20 u21 u22 u23 u24 u25 u26 u27 u28 u29 u30 u31 u32 u33 u34 u35 u36 u37 u38 u39 u40 u41 u42 u43 u44 u45 u46 u47 u48 H.size) (cwV 0 hG (zgV zw500 zw501 zw502 zw207 zw503) rfl rfl rfl (by decide +kernel) ⟨Nat.le_of_ble_eq_true rfl, Nat.le_of_ble_eq_true rfl⟩) ⟨zPc_blind, va_recv hKc hPc (ci := 13) (q0 := 0) rfl rfl, zPc_pre hPc hKc hDc hE hS hFc hZ⟩ rfl rfl hl.1 rfl (lv_room (Nat.le_of_ble_eq_true rfl)) dX13_letter_22 ⟨Nat.le_of_ble_eq_true rfl, Nat.le_of_ble_eq_true rfl⟩) hS (fun q _ h => hFc q h) hFc (fun r_5461 u t H1 locs ht hvm hw hB hz1 hk1 hS => ?_)
    have hw : r_5461 = 0 := hw
    subst hw
    obtain ⟨hP1, hK1, hD1⟩ := hB
    rw [ht] at hP1
    obtain ⟨hP, hD⟩ := va_join (wr := []) (w1 := [(h0, .inr (13, [.ref u0, .int 0, .ref u1, .ref u2, .int 0, .ref u3, .ref u4, .ref u5, .ref u6, .ref u7, .ref u8, .ref u9, .ref u10, .int 0, .ref u11, .ref u12, .int 0, .ref u13, .int (-1), .ref u14, .int 0, .int 1, .ref u15, .int 0, .int 0, .ref u16, .ref u17, .ref u18, .ref u19, .ref u20, .int 0, .ref u21, .int 0, .int 0, .int 0, .int 0, .int 0, .int 0, .ref u22, .ref u23, .ref u24, .ref u25, .int 0, .ref u26, .ref u27, .ref u28, .ref u29, .int 0, .ref u30, .ref u31, .int 0, .int 0, .ref u32, .int 0, .int 0, .int 0, .ref u33, .ref u34, .ref u35, .int 0, .int 0, .ref u36, .ref u37, .ref u38, .ref u39, .ref u40, .ref u41, .ref u42, .ref u43, .ref u44, .ref u45, .int 0, .ref u46, .ref u47, .ref u48]))]) hP hD [0] [] rfl rfl (by decide) (by decide) hk1 hFc hP1 hD1
    generalize H1 = H at hP hS ⊢
    have hP : va_P (dC, dI) vwCl [(h0, .inr (13, [.ref u0, .int 0, .ref u1, .ref u2, .int 0, .ref u3, .ref u4, .ref u5, .ref u6, .ref u7, .ref u8, .ref u9, .ref u10, .int 0, .ref u11, .ref u12, .int 0, .ref u13, .int (-1), .ref u14, .int 0, .int 1, .ref u15, .int 0, .int 0, .ref u16, .ref u17, .ref u18, .ref u19, .ref u20, .int 0, .ref u21, .int 0, .int 0, .int 0, .int 0, .int 0, .int 0, .ref u22, .ref u23, .ref u24, .ref u25, .int 0, .ref u26, .ref u27, .ref u28, .ref u29, .int 0, .ref u30, .ref u31, .int 0, .int 0, .ref u32, .int 0, .int 0, .int 0, .ref u33, .ref u34, .ref u35, .int 0, .int 0, .ref u36, .ref u37, .ref u38, .ref u39, .ref u40, .ref u41, .ref u42, .ref u43, .ref u44, .ref u45, .int 0, .ref u46, .ref u47, .ref u48]))] H := hP
    have hD : va_D A [(h0, .inr (13, [.ref u0, .int 0, .ref u1, .ref u2, .int 0, .ref u3, .ref u4, .ref u5, .ref u6, .ref u7, .ref u8, .ref u9, .ref u10, .int 0, .ref u11, .ref u12, .int 0, .ref u13, .int (-1), .ref u14, .int 0, .int 1, .ref u15, .int 0, .int 0, .ref u16, .ref u17, .ref u18, .ref u19, .ref u20, .int 0, .ref u21, .int 0, .int 0, .int 0, .int 0, .int 0, .int 0, .ref u22, .ref u23, .ref u24, .ref u25, .int 0, .ref u26, .ref u27, .ref u28, .ref u29, .int 0, .ref u30, .ref u31, .int 0, .int 0, .ref u32, .int 0, .int 0, .int 0, .ref u33, .ref u34, .ref u35, .int 0, .int 0, .ref u36, .ref u37, .ref u38, .ref u39, .ref u40, .ref u41, .ref u42, .ref u43, .ref u44, .ref u45, .int 0, .ref u46, .ref u47, .ref u48]))] := hD
    have hP9 := hP.sub (ws' := [(h0, .inr (13, [.ref u0, .int 0, .ref u1, .ref u2, .int 0, .ref u3, .ref u4, .ref u5, .ref u6, .ref u7, .ref u8, .ref u9, .ref u10, .int 0, .ref u11, .ref u12, .int 0, .ref u13, .int (-1), .ref u14, .int 0, .int 1, .ref u15, .int 0, .int 0, .ref u16, .ref u17, .ref u18, .ref u19, .ref u20, .int 0, .ref u21, .int 0, .int 0, .int 0, .int 0, .int 0, .int 0, .ref u22, .ref u23, .ref u24, .ref u25, .int 0, .ref u26, .ref u27, .ref u28, .ref u29, .int 0, .ref u30, .ref u31, .int 0, .int 0, .ref u32, .int 0, .int 0, .int 0, .ref u33, .ref u34, .ref u35, .int 0, .int 0, .ref u36, .ref u37, .ref u38, .ref u39, .ref u40, .ref u41, .ref u42, .ref u43, .ref u44, .ref u45, .int 0, .ref u46, .ref u47, .ref u48]))]) [0] rfl
    have hD9 := hD.sub (ws' := [(h0, .inr (13, [.ref u0, .int 0, .ref u1, .ref u2, .int 0, .ref u3, .ref u4, .ref u5, .ref u6, .ref u7, .ref u8, .ref u9, .ref u10, .int 0, .ref u11, .ref u12, .int 0, .ref u13, .int (-1), .ref u14, .int 0, .int 1, .ref u15, .int 0, .int 0, .ref u16, .ref u17, .ref u18, .ref u19, .ref u20, .int 0, .ref u21, .int 0, .int 0, .int 0, .int 0, .int 0, .int 0, .ref u22, .ref u23, .ref u24, .ref u25, .int 0, .ref u26, .ref u27, .ref u28, .ref u29, .int 0, .ref u30, .ref u31, .int 0, .int 0, .ref u32, .int 0, .int 0, .int 0, .ref u33, .ref u34, .ref u35, .int 0, .int 0, .ref u36, .ref u37, .ref u38, .ref u39, .ref u40, .ref u41, .ref u42, .ref u43, .ref u44, .ref u45, .int 0, .ref u46, .ref u47, .ref u48]))]) [0] (by decide) rfl
    have hK9 := hK.sub (tys' := []) [] rfl
    refine W.widen (k := 0) (n := 0) (by decide) (by decide) ?_
    exact W.iret (v := 0) hx hb hr (fun t ht hW => ⟨⟨0, (), rfl, rfl, by rw [ht]; exact hP9, va_K.moved hW.alike hK9, hD9⟩, hS.F ht⟩) hS.2.2 dX13_letter_25
set_option maxHeartbeats 4000000 in
set_option maxRecDepth 100000 in
theorem kX7_clear_0 (l : Launch) (dC : Nat → ClassId) (dI : Nat → Nat → Nat) (h0 u0 u1 u2 u3 u4 u5 u6 : Nat) (sz : Nat) : Met l yX7_clear (zw yX7_clear cX7_clear 1 none) { frames := 0, cells := 0, slots := 0, locals := 0 } (zPc dC dI [.ref h0] sz [(h0, .inr (7, [.ref u0, .ref u1, .ref u2, .ref u3, .ref u4, .ref u5, .ref u6, .int 0, .int 0, .int 0, .int 0, .int 0]))] []) (va_Qv (fun _ : Unit => True) (fun (_ : Unit) (t : State) => va_P (dC, dI) vwCl [(h0, .inr (7, [.ref u0, .ref u1, .ref u2, .ref u3, .ref u4, .ref u5, .ref u6, .int 0, .int 0, .int 0, .int 0, .int 0]))] t.heap ∧ va_K (dC, dI) vwCl [] t ∧ va_D (va_A [(h0, .inr (7, [.ref u0, .ref u1, .ref u2, .ref u3, .ref u4, .ref u5, .ref u6, .int 0, .int 0, .int 0, .int 0, .int 0]))] sz) [(h0, .inr (7, [.ref u0, .ref u1, .ref u2, .ref u3, .ref u4, .ref u5, .ref u6, .int 0, .int 0, .int 0, .int 0, .int 0]))]) (va_A [(h0, .inr (7, [.ref u0, .ref u1, .ref u2, .ref u3, .ref u4, .ref u5, .ref u6, .int 0, .int 0, .int 0, .int 0, .int 0]))] sz)) 0 0 (va_A [(h0, .inr (7, [.ref u0, .ref u1, .ref u2, .ref u3, .ref u4, .ref u5, .ref u6, .int 0, .int 0, .int 0, .int 0, .int 0]))] sz) := by
  refine Met.ofW (cc := cX7_clear) (maxL := 1) (ret := none) (by decide) rfl ?_
  intro p e s m args below meth c s₁ B hml hv
  obtain ⟨rfl, hsz, hP, hK, hD0, hE, hZ⟩ := hv
  have hx := B.exec
  have hb := B.bytes
  have hr := B.returns
  have hG : ∀ w ∈ zG, w.before _ s = true := fun w h => atoms_spec (ws := (zw yX7_clear cX7_clear 1 none)) B.pre w (List.mem_cons_of_mem _ h)
  have hown : s.vm.findClass RX7 = some m.cls := findClass_of_methodNamed B.named
  have hlocks := B.notSynchronized
  subst hsz
  have hD := hD0.self (sz := s.heap.size)
  generalize hAe : va_A [(h0, .inr (7, [.ref u0, .ref u1, .ref u2, .ref u3, .ref u4, .ref u5, .ref u6, .int 0, .int 0, .int 0, .int 0, .int 0]))] s.heap.size = A at hD hZ ⊢
  have hA : ∀ q : Nat, s.heap.size ≤ q → A q := fun q h => by rw [← hAe]; exact Or.inr h
  have hS : va_S A s.heap s.heap [] := va_S.rf
  have hl := lv_entry ([.ref h0]) (n := 1) (Nat.le_of_ble_eq_true rfl)
  rw [lg_entry_eq]
  generalize (lg_sl ([.ref h0]) ++ List.replicate (1 - (lg_sl ([.ref h0])).length) Slot.unset).toArray = ls at hl ⊢
  have hl : lv_has ls 1 [(0, .ref h0)] := hl
  refine lv_aload_n hx hb dX7_clear_0 rfl (lv_at hl 0 rfl) ?_
  refine lv_iconst (v := 0) hx hb dX7_clear_1 (by decide) ?_
  refine va_put (D := (dC, dI)) (ci := 7) (v := .int 0) (ty := .int) (C := RX7) (T := TX7) (N := 12) hx hb hG zuX7 tyX7 tyX7_ok nmX7 hown hK hP hD hS 0 rfl rfl 7 (by decide) (hG _ zw117) (fun _ h9 => h9) rfl (by decide +kernel) rfl rfl (Nat.le_of_ble_eq_true rfl) dX7_clear_2 (fun H locs hP hD hS => ?_)
  have hP : va_P (dC, dI) vwCl [(h0, .inr (7, [.ref u0, .ref u1, .ref u2, .ref u3, .ref u4, .ref u5, .ref u6, .int 0, .int 0, .int 0, .int 0, .int 0]))] H := hP
  have hD : va_D A [(h0, .inr (7, [.ref u0, .ref u1, .ref u2, .ref u3, .ref u4, .ref u5, .ref u6, .int 0, .int 0, .int 0, .int 0, .int 0]))] := hD
  refine lv_aload_n hx hb dX7_clear_5 rfl (lv_at hl 0 rfl) ?_
  refine lv_iconst (v := 0) hx hb dX7_clear_6 (by decide) ?_
  refine va_put (D := (dC, dI)) (ci := 7) (v := .int 0) (ty := .int) (C := RX7) (T := TX7) (N := 12) hx hb hG zuX7 tyX7 tyX7_ok nmX7 hown hK hP hD hS 0 rfl rfl 8 (by decide) (hG _ zw118) (fun _ h9 => h9) rfl (by decide +kernel) rfl rfl (Nat.le_of_ble_eq_true rfl) dX7_clear_7 (fun H locs hP hD hS => ?_)
  have hP : va_P (dC, dI) vwCl [(h0, .inr (7, [.ref u0, .ref u1, .ref u2, .ref u3, .ref u4, .ref u5, .ref u6, .int 0, .int 0, .int 0, .int 0, .int 0]))] H := hP
  have hD : va_D A [(h0, .inr (7, [.ref u0, .ref u1, .ref u2, .ref u3, .ref u4, .ref u5, .ref u6, .int 0, .int 0, .int 0, .int 0, .int 0]))] := hD
  refine lv_aload_n hx hb dX7_clear_10 rfl (lv_at hl 0 rfl) ?_
  refine lv_iconst (v := 0) hx hb dX7_clear_11 (by decide) ?_
  refine va_put (D := (dC, dI)) (ci := 7) (v := .int 0) (ty := .int) (C := RX7) (T := TX7) (N := 12) hx hb hG zuX7 tyX7 tyX7_ok nmX7 hown hK hP hD hS 0 rfl rfl 9 (by decide) (hG _ zw119) (fun _ h9 => h9) rfl (by decide +kernel) rfl rfl (Nat.le_of_ble_eq_true rfl) dX7_clear_12 (fun H locs hP hD hS => ?_)
  have hP : va_P (dC, dI) vwCl [(h0, .inr (7, [.ref u0, .ref u1, .ref u2, .ref u3, .ref u4, .ref u5, .ref u6, .int 0, .int 0, .int 0, .int 0, .int 0]))] H := hP
  have hD : va_D A [(h0, .inr (7, [.ref u0, .ref u1, .ref u2, .ref u3, .ref u4, .ref u5, .ref u6, .int 0, .int 0, .int 0, .int 0, .int 0]))] := hD
  refine lv_aload_n hx hb dX7_clear_15 rfl (lv_at hl 0 rfl) ?_
  refine lv_iconst (v := 0) hx hb dX7_clear_16 (by decide) ?_
  refine va_put (D := (dC, dI)) (ci := 7) (v := .int 0) (ty := .int) (C := RX7) (T := TX7) (N := 12) hx hb hG zuX7 tyX7 tyX7_ok nmX7 hown hK hP hD hS 0 rfl rfl 10 (by decide) (hG _ zw120) (fun _ h9 => h9) rfl (by decide +kernel) rfl rfl (Nat.le_of_ble_eq_true rfl) dX7_clear_17 (fun H locs hP hD hS => ?_)
  have hP : va_P (dC, dI) vwCl [(h0, .inr (7, [.ref u0, .ref u1, .ref u2, .ref u3, .ref u4, .ref u5, .ref u6, .int 0, .int 0, .int 0, .int 0, .int 0]))] H := hP
  have hD : va_D A [(h0, .inr (7, [.ref u0, .ref u1, .ref u2, .ref u3, .ref u4, .ref u5, .ref u6, .int 0, .int 0, .int 0, .int 0, .int 0]))] := hD
  refine lv_aload_n hx hb dX7_clear_20 rfl (lv_at hl 0 rfl) ?_
  refine lv_iconst (v := 0) hx hb dX7_clear_21 (by decide) ?_
  refine va_put (D := (dC, dI)) (ci := 7) (v := .int 0) (ty := .int) (C := RX7) (T := TX7) (N := 12) hx hb hG zuX7 tyX7 tyX7_ok nmX7 hown hK hP hD hS 0 rfl rfl 11 (by decide) (hG _ zw121) (fun _ h9 => h9) rfl (by decide +kernel) rfl rfl (Nat.le_of_ble_eq_true rfl) dX7_clear_22 (fun H locs hP hD hS => ?_)
  have hP : va_P (dC, dI) vwCl [(h0, .inr (7, [.ref u0, .ref u1, .ref u2, .ref u3, .ref u4, .ref u5, .ref u6, .int 0, .int 0, .int 0, .int 0, .int 0]))] H := hP
  have hD : va_D A [(h0, .inr (7, [.ref u0, .ref u1, .ref u2, .ref u3, .ref u4, .ref u5, .ref u6, .int 0, .int 0, .int 0, .int 0, .int 0]))] := hD
  have hP9 := hP.sub (ws' := [(h0, .inr (7, [.ref u0, .ref u1, .ref u2, .ref u3, .ref u4, .ref u5, .ref u6, .int 0, .int 0, .int 0, .int 0, .int 0]))]) [0] rfl
  have hD9 := hD.sub (ws' := [(h0, .inr (7, [.ref u0, .ref u1, .ref u2, .ref u3, .ref u4, .ref u5, .ref u6, .int 0, .int 0, .int 0, .int 0, .int 0]))]) [0] (by decide) rfl
  have hK9 := hK.sub (tys' := []) [] rfl
  refine W.widen (k := 0) (n := 0) (by decide) (by decide) ?_
  exact W.vret hx hb hr (fun t ht hW => ⟨⟨(), rfl, trivial, by rw [ht]; exact hP9, va_K.moved hW.alike hK9, hD9⟩, hS.F ht⟩) hS.2.2 dX7_clear_25
set_option maxHeartbeats 4000000 in
set_option maxRecDepth 100000 in
theorem kX4_settleNear_0 (l : Launch) (dC : Nat → ClassId) (dI : Nat → Nat → Nat) (h0 u0 u1 u2 u3 : Nat) (sz : Nat) : Met l yX4_settleNear (zw yX4_settleNear cX4_settleNear 1 none) { frames := 0, cells := 0, slots := 0, locals := 0 } (zPc dC dI [.ref h0] sz [(h0, .inr (4, [.ref u0, .ref u1, .ref u2, .ref u3, .int 256, .int 0, .int 0, .int 0, .int (-1), .int 0, .int 0, .int 0]))] []) (va_Qv (fun _ : Unit => True) (fun (_ : Unit) (t : State) => va_P (dC, dI) vwCl [(h0, .inr (4, [.ref u0, .ref u1, .ref u2, .ref u3, .int 256, .int 0, .int 0, .int 0, .int (-1), .int 0, .int 0, .int 0]))] t.heap ∧ va_K (dC, dI) vwCl [] t ∧ va_D (va_A [(h0, .inr (4, [.ref u0, .ref u1, .ref u2, .ref u3, .int 256, .int 0, .int 0, .int 0, .int (-1), .int 0, .int 0, .int 0]))] sz) [(h0, .inr (4, [.ref u0, .ref u1, .ref u2, .ref u3, .int 256, .int 0, .int 0, .int 0, .int (-1), .int 0, .int 0, .int 0]))]) (va_A [(h0, .inr (4, [.ref u0, .ref u1, .ref u2, .ref u3, .int 256, .int 0, .int 0, .int 0, .int (-1), .int 0, .int 0, .int 0]))] sz)) 0 0 (va_A [(h0, .inr (4, [.ref u0, .ref u1, .ref u2, .ref u3, .int 256, .int 0, .int 0, .int 0, .int (-1), .int 0, .int 0, .int 0]))] sz) := by
  refine Met.ofW (cc := cX4_settleNear) (maxL := 1) (ret := none) (by decide) rfl ?_
  intro p e s m args below meth c s₁ B hml hv
  obtain ⟨rfl, hsz, hP, hK, hD0, hE, hZ⟩ := hv
  have hx := B.exec
  have hb := B.bytes
  have hr := B.returns
  have hG : ∀ w ∈ zG, w.before _ s = true := fun w h => atoms_spec (ws := (zw yX4_settleNear cX4_settleNear 1 none)) B.pre w (List.mem_cons_of_mem _ h)
  have hown : s.vm.findClass RX4 = some m.cls := findClass_of_methodNamed B.named
  have hlocks := B.notSynchronized
  subst hsz
  have hD := hD0.self (sz := s.heap.size)
  generalize hAe : va_A [(h0, .inr (4, [.ref u0, .ref u1, .ref u2, .ref u3, .int 256, .int 0, .int 0, .int 0, .int (-1), .int 0, .int 0, .int 0]))] s.heap.size = A at hD hZ ⊢
  have hA : ∀ q : Nat, s.heap.size ≤ q → A q := fun q h => by rw [← hAe]; exact Or.inr h
  have hS : va_S A s.heap s.heap [] := va_S.rf
  have hl := lv_entry ([.ref h0]) (n := 1) (Nat.le_of_ble_eq_true rfl)
  rw [lg_entry_eq]
  generalize (lg_sl ([.ref h0]) ++ List.replicate (1 - (lg_sl ([.ref h0])).length) Slot.unset).toArray = ls at hl ⊢
  have hl : lv_has ls 1 [(0, .ref h0)] := hl
  refine lv_aload_n hx hb dX4_settleNear_0 rfl (lv_at hl 0 rfl) ?_
  refine va_get (D := (dC, dI)) (ci := 4) (v := .int (-1)) (C := RX4) (T := TX4) (N := 12) hx hb hG zuX4 hown hK hP 0 rfl rfl 8 (by decide) (hG _ zw133) (fun _ h9 => h9) rfl dX4_settleNear_1 ?_
  refine lv_iconst (v := (-1)) hx hb dX4_settleNear_4 (by decide) ?_
  refine lv_icmp_eq (tgt := 17) hx hb dX4_settleNear_5 (by decide) (fun c_5476 => ?_) (fun c_5476 => absurd c_5476 (by decide))
  have hP9 := hP.sub (ws' := [(h0, .inr (4, [.ref u0, .ref u1, .ref u2, .ref u3, .int 256, .int 0, .int 0, .int 0, .int (-1), .int 0, .int 0, .int 0]))]) [0] rfl
  have hD9 := hD.sub (ws' := [(h0, .inr (4, [.ref u0, .ref u1, .ref u2, .ref u3, .int 256, .int 0, .int 0, .int 0, .int (-1), .int 0, .int 0, .int 0]))]) [0] (by decide) rfl
  have hK9 := hK.sub (tys' := []) [] rfl
  refine W.widen (k := 0) (n := 0) (by decide) (by decide) ?_
  exact W.vret hx hb hr (fun t ht hW => ⟨⟨(), rfl, trivial, by rw [ht]; exact hP9, va_K.moved hW.alike hK9, hD9⟩, hS.F ht⟩) hS.2.2 dX4_settleNear_17
set_option maxHeartbeats 4000000 in
set_option maxRecDepth 100000 in
theorem kX9_behindBlanks_0 (l : Launch) (dC : Nat → ClassId) (dI : Nat → Nat → Nat) (h0 u0 u1 : Nat) (sz : Nat) : Met l yX9_behindBlanks (zw yX9_behindBlanks cX9_behindBlanks 3 (some .int)) { frames := 1, cells := 0, slots := 0, locals := 40 } (zPc dC dI [.ref h0, .int 0] sz [(h0, .inr (9, [.ref u0, .ref u1, .int 0, .int 0]))] []) (va_Qi (fun (r : Int32) (_ : Unit) => r = 0) (fun (_ : Unit) (t : State) => va_P (dC, dI) vwCl [(h0, .inr (9, [.ref u0, .ref u1, .int 0, .int 0]))] t.heap ∧ va_K (dC, dI) vwCl [] t ∧ va_D (va_A [(h0, .inr (9, [.ref u0, .ref u1, .int 0, .int 0]))] sz) [(h0, .inr (9, [.ref u0, .ref u1, .int 0, .int 0]))]) (va_A [(h0, .inr (9, [.ref u0, .ref u1, .int 0, .int 0]))] sz)) 0 0 (va_A [(h0, .inr (9, [.ref u0, .ref u1, .int 0, .int 0]))] sz) := by
  refine Met.ofW (cc := cX9_behindBlanks) (maxL := 3) (ret := (some .int)) (by decide) rfl ?_
  intro p e s m args below meth c s₁ B hml hv
  obtain ⟨rfl, hsz, hP, hK, hD0, hE, hZ⟩ := hv
  have hx := B.exec
  have hb := B.bytes
  have hr := B.returns
  have hG : ∀ w ∈ zG, w.before _ s = true := fun w h => atoms_spec (ws := (zw yX9_behindBlanks cX9_behindBlanks 3 (some .int))) B.pre w (List.mem_cons_of_mem _ h)
  have hown : s.vm.findClass RX9 = some m.cls := findClass_of_methodNamed B.named
  have hlocks := B.notSynchronized
  subst hsz
  have hD := hD0.self (sz := s.heap.size)
  generalize hAe : va_A [(h0, .inr (9, [.ref u0, .ref u1, .int 0, .int 0]))] s.heap.size = A at hD hZ ⊢
  have hA : ∀ q : Nat, s.heap.size ≤ q → A q := fun q h => by rw [← hAe]; exact Or.inr h
  have hS : va_S A s.heap s.heap [] := va_S.rf
  have hl := lv_entry ([.ref h0, .int 0]) (n := 3) (Nat.le_of_ble_eq_true rfl)
  rw [lg_entry_eq]
  generalize (lg_sl ([.ref h0, .int 0]) ++ List.replicate (3 - (lg_sl ([.ref h0, .int 0])).length) Slot.unset).toArray = ls at hl ⊢
  have hl : lv_has ls 3 [(0, .ref h0), (1, .int 0)] := hl
  refine lv_iload_n hx hb dX9_behindBlanks_0 rfl (lv_at hl 1 rfl) ?_
  refine lv_iconst (v := 0) hx hb dX9_behindBlanks_1 (by decide) ?_
  refine va_mmax hx hb (by rw [hml]; exact hl.1.symm) hown (hG _ zw614) (hG _ zw615) (hG _ zw379) (hG _ zw616) (Nat.le_of_ble_eq_true rfl) (Nat.le_of_ble_eq_true rfl) (Nat.le_of_ble_eq_true rfl) (Nat.le_of_ble_eq_true rfl) dX9_behindBlanks_2 ?_
  refine lv_topi (fun z_5484 e_z_5484 => ?_)
  obtain rfl : z_5484 = (0 : Int32) := e_z_5484.trans (by decide)
  refine lv_istore_n (lv' := [(2, .int 0), (0, .ref h0), (1, .int 0)]) hx hb dX9_behindBlanks_5 rfl hl (by decide) rfl (fun ls hl => ?_)
  refine lv_iload_n hx hb dX9_behindBlanks_6 rfl (lv_at hl 0 rfl) ?_
  refine lv_aload_n hx hb dX9_behindBlanks_7 rfl (lv_at hl 1 rfl) ?_
  refine va_get (D := (dC, dI)) (ci := 9) (v := .int 0) (C := RX9) (T := TX9) (N := 4) hx hb hG zuX9 hown hK hP 0 rfl rfl 2 (by decide) (hG _ zw13) (fun _ h9 => h9) rfl dX9_behindBlanks_8 ?_
  refine lv_icmp_ge (tgt := 42) hx hb dX9_behindBlanks_11 (by decide) (fun c_5485 => ?_) (fun c_5485 => absurd c_5485 (by decide))
  refine lv_iload_n hx hb dX9_behindBlanks_42 rfl (lv_at hl 0 rfl) ?_
  have hP9 := hP.sub (ws' := [(h0, .inr (9, [.ref u0, .ref u1, .int 0, .int 0]))]) [0] rfl
  have hD9 := hD.sub (ws' := [(h0, .inr (9, [.ref u0, .ref u1, .int 0, .int 0]))]) [0] (by decide) rfl
  have hK9 := hK.sub (tys' := []) [] rfl
  refine W.widen (k := 0) (n := 0) (by decide) (by decide) ?_
  exact W.iret (v := 0) hx hb hr (fun t ht hW => ⟨⟨0, (), rfl, rfl, by rw [ht]; exact hP9, va_K.moved hW.alike hK9, hD9⟩, hS.F ht⟩) hS.2.2 dX9_behindBlanks_43
set_option maxHeartbeats 4000000 in
set_option maxRecDepth 100000 in
theorem kX9_at_0 (l : Launch) (dC : Nat → ClassId) (dI : Nat → Nat → Nat) (h0 u0 u1 : Nat) (sz : Nat) : Met l yX9_at (zw yX9_at cX9_at 2 (some .int)) { frames := 0, cells := 0, slots := 0, locals := 0 } (zPc dC dI [.ref h0, .int 0] sz [(h0, .inr (9, [.ref u0, .ref u1, .int 0, .int 0]))] []) (va_Qi (fun (r : Int32) (_ : Unit) => r = (-1)) (fun (_ : Unit) (t : State) => va_P (dC, dI) vwCl [(h0, .inr (9, [.ref u0, .ref u1, .int 0, .int 0]))] t.heap ∧ va_K (dC, dI) vwCl [] t ∧ va_D (va_A [(h0, .inr (9, [.ref u0, .ref u1, .int 0, .int 0]))] sz) [(h0, .inr (9, [.ref u0, .ref u1, .int 0, .int 0]))]) (va_A [(h0, .inr (9, [.ref u0, .ref u1, .int 0, .int 0]))] sz)) 0 0 (va_A [(h0, .inr (9, [.ref u0, .ref u1, .int 0, .int 0]))] sz) := by
  refine Met.ofW (cc := cX9_at) (maxL := 2) (ret := (some .int)) (by decide) rfl ?_
  intro p e s m args below meth c s₁ B hml hv
  obtain ⟨rfl, hsz, hP, hK, hD0, hE, hZ⟩ := hv
  have hx := B.exec
  have hb := B.bytes
  have hr := B.returns
  have hG : ∀ w ∈ zG, w.before _ s = true := fun w h => atoms_spec (ws := (zw yX9_at cX9_at 2 (some .int))) B.pre w (List.mem_cons_of_mem _ h)
  have hown : s.vm.findClass RX9 = some m.cls := findClass_of_methodNamed B.named
  have hlocks := B.notSynchronized
  subst hsz
  have hD := hD0.self (sz := s.heap.size)
  generalize hAe : va_A [(h0, .inr (9, [.ref u0, .ref u1, .int 0, .int 0]))] s.heap.size = A at hD hZ ⊢
  have hA : ∀ q : Nat, s.heap.size ≤ q → A q := fun q h => by rw [← hAe]; exact Or.inr h
  have hS : va_S A s.heap s.heap [] := va_S.rf
  have hl := lv_entry ([.ref h0, .int 0]) (n := 2) (Nat.le_of_ble_eq_true rfl)
  rw [lg_entry_eq]
  generalize (lg_sl ([.ref h0, .int 0]) ++ List.replicate (2 - (lg_sl ([.ref h0, .int 0])).length) Slot.unset).toArray = ls at hl ⊢
  have hl : lv_has ls 2 [(0, .ref h0), (1, .int 0)] := hl
  refine lv_iload_n hx hb dX9_at_0 rfl (lv_at hl 1 rfl) ?_
  refine lv_if_lt (tgt := 25) hx hb dX9_at_1 (by decide) (fun c_5492 => absurd c_5492 (by decide)) (fun c_5492 => ?_)
  refine lv_iload_n hx hb dX9_at_4 rfl (lv_at hl 1 rfl) ?_
  refine lv_aload_n hx hb dX9_at_5 rfl (lv_at hl 0 rfl) ?_
  refine va_get (D := (dC, dI)) (ci := 9) (v := .int 0) (C := RX9) (T := TX9) (N := 4) hx hb hG zuX9 hown hK hP 0 rfl rfl 2 (by decide) (hG _ zw13) (fun _ h9 => h9) rfl dX9_at_6 ?_
  refine lv_icmp_ge (tgt := 25) hx hb dX9_at_9 (by decide) (fun c_5493 => ?_) (fun c_5493 => absurd c_5493 (by decide))
  refine lv_iconst (v := (-1)) hx hb dX9_at_25 (by decide) ?_
  have hP9 := hP.sub (ws' := [(h0, .inr (9, [.ref u0, .ref u1, .int 0, .int 0]))]) [0] rfl
  have hD9 := hD.sub (ws' := [(h0, .inr (9, [.ref u0, .ref u1, .int 0, .int 0]))]) [0] (by decide) rfl
  have hK9 := hK.sub (tys' := []) [] rfl
  refine W.widen (k := 0) (n := 0) (by decide) (by decide) ?_
  exact W.iret (v := (-1)) hx hb hr (fun t ht hW => ⟨⟨(-1), (), rfl, rfl, by rw [ht]; exact hP9, va_K.moved hW.alike hK9, hD9⟩, hS.F ht⟩) hS.2.2 dX9_at_26
set_option maxHeartbeats 4000000 in
set_option maxRecDepth 100000 in
theorem kX4_next_0 (l : Launch) (dC : Nat → ClassId) (dI : Nat → Nat → Nat) (h0 h1 u0 u1 u2 u3 u4 : Nat) (sz : Nat) : Met l yX4_next (zw yX4_next cX4_next 2 none) { frames := 2, cells := 0, slots := 0, locals := 62 } (zPc dC dI [.ref h0] sz [(h0, .inr (4, [.ref h1, .ref u0, .ref u1, .ref u2, .int 256, .int 0, .int 0, .int 0, .int (-1), .int 0, .int 0, .int 0])), (h1, .inr (9, [.ref u3, .ref u4, .int 0, .int 0]))] []) (va_Qv (fun _ : Unit => True) (fun (_ : Unit) (t : State) => va_P (dC, dI) vwCl [(h0, .inr (4, [.ref h1, .ref u0, .ref u1, .ref u2, .int 256, .int 0, .int 1, .int 0, .int (-1), .int 0, .int 0, .int 0])), (h1, .inr (9, [.ref u3, .ref u4, .int 0, .int 0]))] t.heap ∧ va_K (dC, dI) vwCl [] t ∧ va_D (va_A [(h0, .inr (4, [.ref h1, .ref u0, .ref u1, .ref u2, .int 256, .int 0, .int 0, .int 0, .int (-1), .int 0, .int 0, .int 0])), (h1, .inr (9, [.ref u3, .ref u4, .int 0, .int 0]))] sz) [(h0, .inr (4, [.ref h1, .ref u0, .ref u1, .ref u2, .int 256, .int 0, .int 1, .int 0, .int (-1), .int 0, .int 0, .int 0])), (h1, .inr (9, [.ref u3, .ref u4, .int 0, .int 0]))]) (va_A [(h0, .inr (4, [.ref h1, .ref u0, .ref u1, .ref u2, .int 256, .int 0, .int 0, .int 0, .int (-1), .int 0, .int 0, .int 0])), (h1, .inr (9, [.ref u3, .ref u4, .int 0, .int 0]))] sz)) 0 0 (va_A [(h0, .inr (4, [.ref h1, .ref u0, .ref u1, .ref u2, .int 256, .int 0, .int 0, .int 0, .int (-1), .int 0, .int 0, .int 0])), (h1, .inr (9, [.ref u3, .ref u4, .int 0, .int 0]))] sz) := by
  refine Met.ofW (cc := cX4_next) (maxL := 2) (ret := none) (by decide) rfl ?_
  intro p e s m args below meth c s₁ B hml hv
  obtain ⟨rfl, hsz, hP, hK, hD0, hE, hZ⟩ := hv
  have hx := B.exec
  have hb := B.bytes
  have hr := B.returns
  have hG : ∀ w ∈ zG, w.before _ s = true := fun w h => atoms_spec (ws := (zw yX4_next cX4_next 2 none)) B.pre w (List.mem_cons_of_mem _ h)
  have hown : s.vm.findClass RX4 = some m.cls := findClass_of_methodNamed B.named
  have hlocks := B.notSynchronized
  subst hsz
  have hD := hD0.self (sz := s.heap.size)
  generalize hAe : va_A [(h0, .inr (4, [.ref h1, .ref u0, .ref u1, .ref u2, .int 256, .int 0, .int 0, .int 0, .int (-1), .int 0, .int 0, .int 0])), (h1, .inr (9, [.ref u3, .ref u4, .int 0, .int 0]))] s.heap.size = A at hD hZ ⊢
  have hA : ∀ q : Nat, s.heap.size ≤ q → A q := fun q h => by rw [← hAe]; exact Or.inr h
  have hS : va_S A s.heap s.heap [] := va_S.rf
  have hl := lv_entry ([.ref h0]) (n := 2) (Nat.le_of_ble_eq_true rfl)
  rw [lg_entry_eq]
  generalize (lg_sl ([.ref h0]) ++ List.replicate (2 - (lg_sl ([.ref h0])).length) Slot.unset).toArray = ls at hl ⊢
  have hl : lv_has ls 2 [(0, .ref h0)] := hl
  refine lv_aload_n hx hb dX4_next_0 rfl (lv_at hl 0 rfl) ?_
  have hPc := hP.sub (ws' := [(h0, .inr (4, [.ref h1, .ref u0, .ref u1, .ref u2, .int 256, .int 0, .int 0, .int 0, .int (-1), .int 0, .int 0, .int 0]))]) [0] rfl
  have hDc := hD.sub (ws' := [(h0, .inr (4, [.ref h1, .ref u0, .ref u1, .ref u2, .int 256, .int 0, .int 0, .int 0, .int (-1), .int 0, .int 0, .int 0]))]) [0] (by decide) rfl
  have hKc := hK.sub (tys' := []) [] rfl
  have hFc := va_free (wc := [(h0, .inr (4, [.ref h1, .ref u0, .ref u1, .ref u2, .int 256, .int 0, .int 0, .int 0, .int (-1), .int 0, .int 0, .int 0]))]) hD hS hA [0] rfl
  refine va_callv (va_runV (As := []) (rest := []) ⟨hx, hb, hml, hown, hG⟩ (kX4_settleNear_0 l dC dI h0 h1 u0 u1 u2 s.heap.size) (cwV 0 hG (zgV zw610 zw611 zw612 zw127 zw613) rfl rfl rfl (by decide +kernel) ⟨Nat.le_of_ble_eq_true rfl, Nat.le_of_ble_eq_true rfl⟩) ⟨zPc_blind, va_recv hKc hPc (ci := 4) (q0 := 0) rfl rfl, zPc_pre hPc hKc hDc hE hS hFc hZ⟩ rfl rfl hl.1 rfl (lv_room (Nat.le_of_ble_eq_true rfl)) dX4_next_1 ⟨Nat.le_of_ble_eq_true rfl, Nat.le_of_ble_eq_true rfl⟩) hS (fun q _ h => hFc q h) hFc (fun u t H1 locs ht hvm hw hB hz1 hk1 hS => ?_)
  obtain ⟨hP1, hK1, hD1⟩ := hB
  rw [ht] at hP1
  obtain ⟨hP, hD⟩ := va_join (wr := [(h1, .inr (9, [.ref u3, .ref u4, .int 0, .int 0]))]) (w1 := [(h0, .inr (4, [.ref h1, .ref u0, .ref u1, .ref u2, .int 256, .int 0, .int 0, .int 0, .int (-1), .int 0, .int 0, .int 0]))]) hP hD [0] [1] rfl rfl (by decide) (by decide) hk1 hFc hP1 hD1
  generalize H1 = H at hP hS ⊢
  have hP : va_P (dC, dI) vwCl [(h1, .inr (9, [.ref u3, .ref u4, .int 0, .int 0])), (h0, .inr (4, [.ref h1, .ref u0, .ref u1, .ref u2, .int 256, .int 0, .int 0, .int 0, .int (-1), .int 0, .int 0, .int 0]))] H := hP
  have hD : va_D A [(h1, .inr (9, [.ref u3, .ref u4, .int 0, .int 0])), (h0, .inr (4, [.ref h1, .ref u0, .ref u1, .ref u2, .int 256, .int 0, .int 0, .int 0, .int (-1), .int 0, .int 0, .int 0]))] := hD
  refine lv_aload_n hx hb dX4_next_4 rfl (lv_at hl 0 rfl) ?_
  refine va_get (D := (dC, dI)) (ci := 4) (v := .int 256) (C := RX4) (T := TX4) (N := 12) hx hb hG zuX4 hown hK hP 1 rfl rfl 4 (by decide) (hG _ zw129) (fun _ h9 => h9) rfl dX4_next_5 ?_
  refine lv_sipush (v := 265) hx hb dX4_next_8 (by decide) ?_
  refine lv_icmp_ne (tgt := 15) hx hb dX4_next_11 (by decide) (fun c_5515 => ?_) (fun c_5515 => absurd c_5515 (by decide))
  refine lv_aload_n hx hb dX4_next_15 rfl (lv_at hl 0 rfl) ?_
  refine lv_aload_n hx hb dX4_next_16 rfl (lv_at hl 0 rfl) ?_
  refine va_get (D := (dC, dI)) (ci := 4) (v := .ref h1) (C := RX4) (T := TX4) (N := 12) hx hb hG zuX4 hown hK hP 1 rfl rfl 0 (by decide) (hG _ zw137) (fun _ h9 => h9) rfl dX4_next_17 ?_
  refine lv_aload_n hx hb dX4_next_20 rfl (lv_at hl 0 rfl) ?_
  refine va_get (D := (dC, dI)) (ci := 4) (v := .int 0) (C := RX4) (T := TX4) (N := 12) hx hb hG zuX4 hown hK hP 1 rfl rfl 6 (by decide) (hG _ zw131) (fun _ h9 => h9) rfl dX4_next_21 ?_
  have hPc := hP.sub (ws' := [(h1, .inr (9, [.ref u3, .ref u4, .int 0, .int 0]))]) [0] rfl
  have hDc := hD.sub (ws' := [(h1, .inr (9, [.ref u3, .ref u4, .int 0, .int 0]))]) [0] (by decide) rfl
  have hKc := hK.sub (tys' := []) [] rfl
  have hFc := va_free (wc := [(h1, .inr (9, [.ref u3, .ref u4, .int 0, .int 0]))]) hD hS hA [0] rfl
  refine va_calli (va_runV (As := [.int 0]) (rest := [.ref h0]) ⟨hx, hb, hml, hown, hG⟩ (kX9_behindBlanks_0 l dC dI h1 u3 u4 H.size) (cwV 1 hG (zgV zw617 zw618 zw619 zw8 zw620) rfl rfl rfl (by decide +kernel) ⟨Nat.le_of_ble_eq_true rfl, Nat.le_of_ble_eq_true rfl⟩) ⟨zPc_blind, va_recv hKc hPc (ci := 9) (q0 := 0) rfl rfl, zPc_pre hPc hKc hDc hE hS hFc hZ⟩ rfl rfl hl.1 rfl (lv_room (Nat.le_of_ble_eq_true rfl)) dX4_next_24 ⟨Nat.le_of_ble_eq_true rfl, Nat.le_of_ble_eq_true rfl⟩) hS (fun q _ h => hFc q h) hFc (fun r_5518 u t H1 locs ht hvm hw hB hz1 hk1 hS => ?_)
  have hw : r_5518 = 0 := hw
  subst hw
  obtain ⟨hP1, hK1, hD1⟩ := hB
  rw [ht] at hP1
  obtain ⟨hP, hD⟩ := va_join (wr := [(h0, .inr (4, [.ref h1, .ref u0, .ref u1, .ref u2, .int 256, .int 0, .int 0, .int 0, .int (-1), .int 0, .int 0, .int 0]))]) (w1 := [(h1, .inr (9, [.ref u3, .ref u4, .int 0, .int 0]))]) hP hD [0] [1] rfl rfl (by decide) (by decide) hk1 hFc hP1 hD1
  generalize H1 = H at hP hS ⊢
  have hP : va_P (dC, dI) vwCl [(h0, .inr (4, [.ref h1, .ref u0, .ref u1, .ref u2, .int 256, .int 0, .int 0, .int 0, .int (-1), .int 0, .int 0, .int 0])), (h1, .inr (9, [.ref u3, .ref u4, .int 0, .int 0]))] H := hP
  have hD : va_D A [(h0, .inr (4, [.ref h1, .ref u0, .ref u1, .ref u2, .int 256, .int 0, .int 0, .int 0, .int (-1), .int 0, .int 0, .int 0])), (h1, .inr (9, [.ref u3, .ref u4, .int 0, .int 0]))] := hD
  refine va_put (D := (dC, dI)) (ci := 4) (v := .int 0) (ty := .int) (C := RX4) (T := TX4) (N := 12) hx hb hG zuX4 tyX4 tyX4_ok nmX4 hown hK hP hD hS 0 rfl rfl 5 (by decide) (hG _ zw130) (fun _ h9 => h9) rfl (by decide +kernel) rfl rfl (Nat.le_of_ble_eq_true rfl) dX4_next_27 (fun H locs hP hD hS => ?_)
  have hP : va_P (dC, dI) vwCl [(h0, .inr (4, [.ref h1, .ref u0, .ref u1, .ref u2, .int 256, .int 0, .int 0, .int 0, .int (-1), .int 0, .int 0, .int 0])), (h1, .inr (9, [.ref u3, .ref u4, .int 0, .int 0]))] H := hP
  have hD : va_D A [(h0, .inr (4, [.ref h1, .ref u0, .ref u1, .ref u2, .int 256, .int 0, .int 0, .int 0, .int (-1), .int 0, .int 0, .int 0])), (h1, .inr (9, [.ref u3, .ref u4, .int 0, .int 0]))] := hD
  refine lv_aload_n hx hb dX4_next_30 rfl (lv_at hl 0 rfl) ?_
  refine va_get (D := (dC, dI)) (ci := 4) (v := .ref h1) (C := RX4) (T := TX4) (N := 12) hx hb hG zuX4 hown hK hP 0 rfl rfl 0 (by decide) (hG _ zw137) (fun _ h9 => h9) rfl dX4_next_31 ?_
  refine lv_aload_n hx hb dX4_next_34 rfl (lv_at hl 0 rfl) ?_
  refine va_get (D := (dC, dI)) (ci := 4) (v := .int 0) (C := RX4) (T := TX4) (N := 12) hx hb hG zuX4 hown hK hP 0 rfl rfl 5 (by decide) (hG _ zw130) (fun _ h9 => h9) rfl dX4_next_35 ?_
  have hPc := hP.sub (ws' := [(h1, .inr (9, [.ref u3, .ref u4, .int 0, .int 0]))]) [1] rfl
  have hDc := hD.sub (ws' := [(h1, .inr (9, [.ref u3, .ref u4, .int 0, .int 0]))]) [1] (by decide) rfl
  have hKc := hK.sub (tys' := []) [] rfl
  have hFc := va_free (wc := [(h1, .inr (9, [.ref u3, .ref u4, .int 0, .int 0]))]) hD hS hA [1] rfl
  refine va_calli (va_runV (As := [.int 0]) (rest := []) ⟨hx, hb, hml, hown, hG⟩ (kX9_at_0 l dC dI h1 u3 u4 H.size) (cwV 1 hG (zgV zw621 zw622 zw623 zw8 zw624) rfl rfl rfl (by decide +kernel) ⟨Nat.le_of_ble_eq_true rfl, Nat.le_of_ble_eq_true rfl⟩) ⟨zPc_blind, va_recv hKc hPc (ci := 9) (q0 := 0) rfl rfl, zPc_pre hPc hKc hDc hE hS hFc hZ⟩ rfl rfl hl.1 rfl (lv_room (Nat.le_of_ble_eq_true rfl)) dX4_next_38 ⟨Nat.le_of_ble_eq_true rfl, Nat.le_of_ble_eq_true rfl⟩) hS (fun q _ h => hFc q h) hFc (fun r_5522 u t H1 locs ht hvm hw hB hz1 hk1 hS => ?_)
  have hw : r_5522 = (-1) := hw
  subst hw
  obtain ⟨hP1, hK1, hD1⟩ := hB
  rw [ht] at hP1
  obtain ⟨hP, hD⟩ := va_join (wr := [(h0, .inr (4, [.ref h1, .ref u0, .ref u1, .ref u2, .int 256, .int 0, .int 0, .int 0, .int (-1), .int 0, .int 0, .int 0]))]) (w1 := [(h1, .inr (9, [.ref u3, .ref u4, .int 0, .int 0]))]) hP hD [1] [0] rfl rfl (by decide) (by decide) hk1 hFc hP1 hD1
  generalize H1 = H at hP hS ⊢
  have hP : va_P (dC, dI) vwCl [(h0, .inr (4, [.ref h1, .ref u0, .ref u1, .ref u2, .int 256, .int 0, .int 0, .int 0, .int (-1), .int 0, .int 0, .int 0])), (h1, .inr (9, [.ref u3, .ref u4, .int 0, .int 0]))] H := hP
  have hD : va_D A [(h0, .inr (4, [.ref h1, .ref u0, .ref u1, .ref u2, .int 256, .int 0, .int 0, .int 0, .int (-1), .int 0, .int 0, .int 0])), (h1, .inr (9, [.ref u3, .ref u4, .int 0, .int 0]))] := hD
  refine lv_istore_n (lv' := [(1, .int (-1)), (0, .ref h0)]) hx hb dX4_next_41 rfl hl (by decide) rfl (fun ls hl => ?_)
  refine lv_aload_n hx hb dX4_next_42 rfl (lv_at hl 1 rfl) ?_
  refine lv_aload_n hx hb dX4_next_43 rfl (lv_at hl 1 rfl) ?_
  refine va_get (D := (dC, dI)) (ci := 4) (v := .int 0) (C := RX4) (T := TX4) (N := 12) hx hb hG zuX4 hown hK hP 0 rfl rfl 5 (by decide) (hG _ zw130) (fun _ h9 => h9) rfl dX4_next_44 ?_
  refine lv_iconst (v := 1) hx hb dX4_next_47 (by decide) ?_
  refine lv_iadd hx hb dX4_next_48 ?_
  refine lv_topi (fun z_5524 e_z_5524 => ?_)
  obtain rfl : z_5524 = (1 : Int32) := e_z_5524.trans (by decide)
  refine va_put (D := (dC, dI)) (ci := 4) (v := .int 1) (ty := .int) (C := RX4) (T := TX4) (N := 12) hx hb hG zuX4 tyX4 tyX4_ok nmX4 hown hK hP hD hS 0 rfl rfl 6 (by decide) (hG _ zw131) (fun _ h9 => h9) rfl (by decide +kernel) rfl rfl (Nat.le_of_ble_eq_true rfl) dX4_next_49 (fun H locs hP hD hS => ?_)
  have hP : va_P (dC, dI) vwCl [(h0, .inr (4, [.ref h1, .ref u0, .ref u1, .ref u2, .int 256, .int 0, .int 1, .int 0, .int (-1), .int 0, .int 0, .int 0])), (h1, .inr (9, [.ref u3, .ref u4, .int 0, .int 0]))] H := hP
  have hD : va_D A [(h0, .inr (4, [.ref h1, .ref u0, .ref u1, .ref u2, .int 256, .int 0, .int 1, .int 0, .int (-1), .int 0, .int 0, .int 0])), (h1, .inr (9, [.ref u3, .ref u4, .int 0, .int 0]))] := hD
  refine lv_iload_n hx hb dX4_next_52 rfl (lv_at hl 0 rfl) ?_
  refine lv_iconst (v := (-1)) hx hb dX4_next_53 (by decide) ?_
  refine lv_icmp_ne (tgt := 67) hx hb dX4_next_54 (by decide) (fun c_5525 => absurd c_5525 (by decide)) (fun c_5525 => ?_)
  refine lv_aload_n hx hb dX4_next_57 rfl (lv_at hl 1 rfl) ?_
  refine lv_sipush (v := 256) hx hb dX4_next_58 (by decide) ?_
  refine va_put (D := (dC, dI)) (ci := 4) (v := .int 256) (ty := .int) (C := RX4) (T := TX4) (N := 12) hx hb hG zuX4 tyX4 tyX4_ok nmX4 hown hK hP hD hS 0 rfl rfl 4 (by decide) (hG _ zw129) (fun _ h9 => h9) rfl (by decide +kernel) rfl rfl (Nat.le_of_ble_eq_true rfl) dX4_next_61 (fun H locs hP hD hS => ?_)
  have hP : va_P (dC, dI) vwCl [(h0, .inr (4, [.ref h1, .ref u0, .ref u1, .ref u2, .int 256, .int 0, .int 1, .int 0, .int (-1), .int 0, .int 0, .int 0])), (h1, .inr (9, [.ref u3, .ref u4, .int 0, .int 0]))] H := hP
  have hD : va_D A [(h0, .inr (4, [.ref h1, .ref u0, .ref u1, .ref u2, .int 256, .int 0, .int 1, .int 0, .int (-1), .int 0, .int 0, .int 0])), (h1, .inr (9, [.ref u3, .ref u4, .int 0, .int 0]))] := hD
  refine lv_goto (tgt := 156) hx hb dX4_next_64 (by decide) ?_
  have hP9 := hP.sub (ws' := [(h0, .inr (4, [.ref h1, .ref u0, .ref u1, .ref u2, .int 256, .int 0, .int 1, .int 0, .int (-1), .int 0, .int 0, .int 0])), (h1, .inr (9, [.ref u3, .ref u4, .int 0, .int 0]))]) [0, 1] rfl
  have hD9 := hD.sub (ws' := [(h0, .inr (4, [.ref h1, .ref u0, .ref u1, .ref u2, .int 256, .int 0, .int 1, .int 0, .int (-1), .int 0, .int 0, .int 0])), (h1, .inr (9, [.ref u3, .ref u4, .int 0, .int 0]))]) [0, 1] (by decide) rfl
  have hK9 := hK.sub (tys' := []) [] rfl
  refine W.widen (k := 0) (n := 0) (by decide) (by decide) ?_
  exact W.vret hx hb hr (fun t ht hW => ⟨⟨(), rfl, trivial, by rw [ht]; exact hP9, va_K.moved hW.alike hK9, hD9⟩, hS.F ht⟩) hS.2.2 dX4_next_156
set_option maxHeartbeats 4000000 in
set_option maxRecDepth 100000 in
theorem kX4_fail_0 (l : Launch) (dC : Nat → ClassId) (dI : Nat → Nat → Nat) (h0 u0 u1 u2 u3 : Nat) (sz : Nat) : Met l yX4_fail (zw yX4_fail cX4_fail 3 none) { frames := 0, cells := 0, slots := 0, locals := 0 } (zPc dC dI [.ref h0, .int 1, .int 0] sz [(h0, .inr (4, [.ref u0, .ref u1, .ref u2, .ref u3, .int 256, .int 0, .int 1, .int 0, .int (-1), .int 0, .int 0, .int 0]))] []) (va_Qv (fun _ : Unit => True) (fun (_ : Unit) (t : State) => va_P (dC, dI) vwCl [(h0, .inr (4, [.ref u0, .ref u1, .ref u2, .ref u3, .int 265, .int 0, .int 1, .int 1001, .int (-1), .int 0, .int 0, .int 0]))] t.heap ∧ va_K (dC, dI) vwCl [] t ∧ va_D (va_A [(h0, .inr (4, [.ref u0, .ref u1, .ref u2, .ref u3, .int 256, .int 0, .int 1, .int 0, .int (-1), .int 0, .int 0, .int 0]))] sz) [(h0, .inr (4, [.ref u0, .ref u1, .ref u2, .ref u3, .int 265, .int 0, .int 1, .int 1001, .int (-1), .int 0, .int 0, .int 0]))]) (va_A [(h0, .inr (4, [.ref u0, .ref u1, .ref u2, .ref u3, .int 256, .int 0, .int 1, .int 0, .int (-1), .int 0, .int 0, .int 0]))] sz)) 0 0 (va_A [(h0, .inr (4, [.ref u0, .ref u1, .ref u2, .ref u3, .int 256, .int 0, .int 1, .int 0, .int (-1), .int 0, .int 0, .int 0]))] sz) := by
  refine Met.ofW (cc := cX4_fail) (maxL := 3) (ret := none) (by decide) rfl ?_
  intro p e s m args below meth c s₁ B hml hv
  obtain ⟨rfl, hsz, hP, hK, hD0, hE, hZ⟩ := hv
  have hx := B.exec
  have hb := B.bytes
  have hr := B.returns
  have hG : ∀ w ∈ zG, w.before _ s = true := fun w h => atoms_spec (ws := (zw yX4_fail cX4_fail 3 none)) B.pre w (List.mem_cons_of_mem _ h)
  have hown : s.vm.findClass RX4 = some m.cls := findClass_of_methodNamed B.named
  have hlocks := B.notSynchronized
  subst hsz
  have hD := hD0.self (sz := s.heap.size)
  generalize hAe : va_A [(h0, .inr (4, [.ref u0, .ref u1, .ref u2, .ref u3, .int 256, .int 0, .int 1, .int 0, .int (-1), .int 0, .int 0, .int 0]))] s.heap.size = A at hD hZ ⊢
  have hA : ∀ q : Nat, s.heap.size ≤ q → A q := fun q h => by rw [← hAe]; exact Or.inr h
  have hS : va_S A s.heap s.heap [] := va_S.rf
  have hl := lv_entry ([.ref h0, .int 1, .int 0]) (n := 3) (Nat.le_of_ble_eq_true rfl)
  rw [lg_entry_eq]
  generalize (lg_sl ([.ref h0, .int 1, .int 0]) ++ List.replicate (3 - (lg_sl ([.ref h0, .int 1, .int 0])).length) Slot.unset).toArray = ls at hl ⊢
  have hl : lv_has ls 3 [(0, .ref h0), (1, .int 1), (2, .int 0)] := hl
  refine lv_aload_n hx hb dX4_fail_0 rfl (lv_at hl 0 rfl) ?_
  refine va_get (D := (dC, dI)) (ci := 4) (v := .int 0) (C := RX4) (T := TX4) (N := 12) hx hb hG zuX4 hown hK hP 0 rfl rfl 7 (by decide) (hG _ zw132) (fun _ h9 => h9) rfl dX4_fail_1 ?_
  refine lv_if_ne (tgt := 20) hx hb dX4_fail_4 (by decide) (fun c_5543 => absurd c_5543 (by decide)) (fun c_5543 => ?_)
  refine lv_aload_n hx hb dX4_fail_7 rfl (lv_at hl 0 rfl) ?_
  refine lv_sipush (v := 1000) hx hb dX4_fail_8 (by decide) ?_
  refine lv_iload_n hx hb dX4_fail_11 rfl (lv_at hl 1 rfl) ?_
  refine lv_imul hx hb dX4_fail_12 ?_
  refine lv_topi (fun z_5544 e_z_5544 => ?_)
  obtain rfl : z_5544 = (1000 : Int32) := e_z_5544.trans (by decide)
  refine lv_iload_n hx hb dX4_fail_13 rfl (lv_at hl 2 rfl) ?_
  refine lv_iadd hx hb dX4_fail_14 ?_
  refine lv_topi (fun z_5545 e_z_5545 => ?_)
  obtain rfl : z_5545 = (1000 : Int32) := e_z_5545.trans (by decide)
  refine lv_iconst (v := 1) hx hb dX4_fail_15 (by decide) ?_
  refine lv_iadd hx hb dX4_fail_16 ?_
  refine lv_topi (fun z_5546 e_z_5546 => ?_)
  obtain rfl : z_5546 = (1001 : Int32) := e_z_5546.trans (by decide)
  refine va_put (D := (dC, dI)) (ci := 4) (v := .int 1001) (ty := .int) (C := RX4) (T := TX4) (N := 12) hx hb hG zuX4 tyX4 tyX4_ok nmX4 hown hK hP hD hS 0 rfl rfl 7 (by decide) (hG _ zw132) (fun _ h9 => h9) rfl (by decide +kernel) rfl rfl (Nat.le_of_ble_eq_true rfl) dX4_fail_17 (fun H locs hP hD hS => ?_)
  have hP : va_P (dC, dI) vwCl [(h0, .inr (4, [.ref u0, .ref u1, .ref u2, .ref u3, .int 256, .int 0, .int 1, .int 1001, .int (-1), .int 0, .int 0, .int 0]))] H := hP
  have hD : va_D A [(h0, .inr (4, [.ref u0, .ref u1, .ref u2, .ref u3, .int 256, .int 0, .int 1, .int 1001, .int (-1), .int 0, .int 0, .int 0]))] := hD
  refine lv_aload_n hx hb dX4_fail_20 rfl (lv_at hl 0 rfl) ?_
  refine lv_sipush (v := 265) hx hb dX4_fail_21 (by decide) ?_
  refine va_put (D := (dC, dI)) (ci := 4) (v := .int 265) (ty := .int) (C := RX4) (T := TX4) (N := 12) hx hb hG zuX4 tyX4 tyX4_ok nmX4 hown hK hP hD hS 0 rfl rfl 4 (by decide) (hG _ zw129) (fun _ h9 => h9) rfl (by decide +kernel) rfl rfl (Nat.le_of_ble_eq_true rfl) dX4_fail_24 (fun H locs hP hD hS => ?_)
  have hP : va_P (dC, dI) vwCl [(h0, .inr (4, [.ref u0, .ref u1, .ref u2, .ref u3, .int 265, .int 0, .int 1, .int 1001, .int (-1), .int 0, .int 0, .int 0]))] H := hP
  have hD : va_D A [(h0, .inr (4, [.ref u0, .ref u1, .ref u2, .ref u3, .int 265, .int 0, .int 1, .int 1001, .int (-1), .int 0, .int 0, .int 0]))] := hD
  have hP9 := hP.sub (ws' := [(h0, .inr (4, [.ref u0, .ref u1, .ref u2, .ref u3, .int 265, .int 0, .int 1, .int 1001, .int (-1), .int 0, .int 0, .int 0]))]) [0] rfl
  have hD9 := hD.sub (ws' := [(h0, .inr (4, [.ref u0, .ref u1, .ref u2, .ref u3, .int 265, .int 0, .int 1, .int 1001, .int (-1), .int 0, .int 0, .int 0]))]) [0] (by decide) rfl
  have hK9 := hK.sub (tys' := []) [] rfl
  refine W.widen (k := 0) (n := 0) (by decide) (by decide) ?_
  exact W.vret hx hb hr (fun t ht hW => ⟨⟨(), rfl, trivial, by rw [ht]; exact hP9, va_K.moved hW.alike hK9, hD9⟩, hS.F ht⟩) hS.2.2 dX4_fail_27
set_option maxHeartbeats 4000000 in
set_option maxRecDepth 100000 in
theorem kX4_readBare_0 (l : Launch) (dC : Nat → ClassId) (dI : Nat → Nat → Nat) (h0 u0 u1 u2 u3 : Nat) (sz : Nat) : Met l yX4_readBare (zw yX4_readBare cX4_readBare 2 (some .boolean)) { frames := 1, cells := 0, slots := 0, locals := 22 } (zPc dC dI [.ref h0, .int 3] sz [(h0, .inr (4, [.ref u0, .ref u1, .ref u2, .ref u3, .int 256, .int 0, .int 1, .int 0, .int (-1), .int 0, .int 0, .int 0]))] []) (va_Qi (fun (r : Int32) (_ : Unit) => r = 0) (fun (_ : Unit) (t : State) => va_P (dC, dI) vwCl [(h0, .inr (4, [.ref u0, .ref u1, .ref u2, .ref u3, .int 265, .int 0, .int 1, .int 1001, .int (-1), .int 0, .int 0, .int 0]))] t.heap ∧ va_K (dC, dI) vwCl [] t ∧ va_D (va_A [(h0, .inr (4, [.ref u0, .ref u1, .ref u2, .ref u3, .int 256, .int 0, .int 1, .int 0, .int (-1), .int 0, .int 0, .int 0]))] sz) [(h0, .inr (4, [.ref u0, .ref u1, .ref u2, .ref u3, .int 265, .int 0, .int 1, .int 1001, .int (-1), .int 0, .int 0, .int 0]))]) (va_A [(h0, .inr (4, [.ref u0, .ref u1, .ref u2, .ref u3, .int 256, .int 0, .int 1, .int 0, .int (-1), .int 0, .int 0, .int 0]))] sz)) 0 0 (va_A [(h0, .inr (4, [.ref u0, .ref u1, .ref u2, .ref u3, .int 256, .int 0, .int 1, .int 0, .int (-1), .int 0, .int 0, .int 0]))] sz) := by
  refine Met.ofW (cc := cX4_readBare) (maxL := 2) (ret := (some .boolean)) (by decide) rfl ?_
  intro p e s m args below meth c s₁ B hml hv
  obtain ⟨rfl, hsz, hP, hK, hD0, hE, hZ⟩ := hv
  have hx := B.exec
  have hb := B.bytes
  have hr := B.returns
  have hG : ∀ w ∈ zG, w.before _ s = true := fun w h => atoms_spec (ws := (zw yX4_readBare cX4_readBare 2 (some .boolean))) B.pre w (List.mem_cons_of_mem _ h)
  have hown : s.vm.findClass RX4 = some m.cls := findClass_of_methodNamed B.named
  have hlocks := B.notSynchronized
  subst hsz
  have hD := hD0.self (sz := s.heap.size)
  generalize hAe : va_A [(h0, .inr (4, [.ref u0, .ref u1, .ref u2, .ref u3, .int 256, .int 0, .int 1, .int 0, .int (-1), .int 0, .int 0, .int 0]))] s.heap.size = A at hD hZ ⊢
  have hA : ∀ q : Nat, s.heap.size ≤ q → A q := fun q h => by rw [← hAe]; exact Or.inr h
  have hS : va_S A s.heap s.heap [] := va_S.rf
  have hl := lv_entry ([.ref h0, .int 3]) (n := 2) (Nat.le_of_ble_eq_true rfl)
  rw [lg_entry_eq]
  generalize (lg_sl ([.ref h0, .int 3]) ++ List.replicate (2 - (lg_sl ([.ref h0, .int 3])).length) Slot.unset).toArray = ls at hl ⊢
  have hl : lv_has ls 2 [(0, .ref h0), (1, .int 3)] := hl
  refine lv_aload_n hx hb dX4_readBare_0 rfl (lv_at hl 0 rfl) ?_
  refine va_get (D := (dC, dI)) (ci := 4) (v := .int 256) (C := RX4) (T := TX4) (N := 12) hx hb hG zuX4 hown hK hP 0 rfl rfl 4 (by decide) (hG _ zw129) (fun _ h9 => h9) rfl dX4_readBare_1 ?_
  refine lv_lookup (off := 70) (tgt := 74) hx hb dX4_readBare_4 (by decide +kernel) (by decide +kernel) (by decide) ?_
  refine lv_aload_n hx hb dX4_readBare_74 rfl (lv_at hl 0 rfl) ?_
  refine lv_iconst (v := 1) hx hb dX4_readBare_75 (by decide) ?_
  refine lv_aload_n hx hb dX4_readBare_76 rfl (lv_at hl 0 rfl) ?_
  refine va_get (D := (dC, dI)) (ci := 4) (v := .int 0) (C := RX4) (T := TX4) (N := 12) hx hb hG zuX4 hown hK hP 0 rfl rfl 5 (by decide) (hG _ zw130) (fun _ h9 => h9) rfl dX4_readBare_77 ?_
  have hPc := hP.sub (ws' := [(h0, .inr (4, [.ref u0, .ref u1, .ref u2, .ref u3, .int 256, .int 0, .int 1, .int 0, .int (-1), .int 0, .int 0, .int 0]))]) [0] rfl
  have hDc := hD.sub (ws' := [(h0, .inr (4, [.ref u0, .ref u1, .ref u2, .ref u3, .int 256, .int 0, .int 1, .int 0, .int (-1), .int 0, .int 0, .int 0]))]) [0] (by decide) rfl
  have hKc := hK.sub (tys' := []) [] rfl
  have hFc := va_free (wc := [(h0, .inr (4, [.ref u0, .ref u1, .ref u2, .ref u3, .int 256, .int 0, .int 1, .int 0, .int (-1), .int 0, .int 0, .int 0]))]) hD hS hA [0] rfl
  refine va_callv (va_runV (As := [.int 1, .int 0]) (rest := []) ⟨hx, hb, hml, hown, hG⟩ (kX4_fail_0 l dC dI h0 u0 u1 u2 u3 s.heap.size) (cwV 2 hG (zgV zw629 zw630 zw631 zw127 zw632) rfl rfl rfl (by decide +kernel) ⟨Nat.le_of_ble_eq_true rfl, Nat.le_of_ble_eq_true rfl⟩) ⟨zPc_blind, va_recv hKc hPc (ci := 4) (q0 := 0) rfl rfl, zPc_pre hPc hKc hDc hE hS hFc hZ⟩ rfl rfl hl.1 rfl (lv_room (Nat.le_of_ble_eq_true rfl)) dX4_readBare_80 ⟨Nat.le_of_ble_eq_true rfl, Nat.le_of_ble_eq_true rfl⟩) hS (fun q _ h => hFc q h) hFc (fun u t H1 locs ht hvm hw hB hz1 hk1 hS => ?_)
  obtain ⟨hP1, hK1, hD1⟩ := hB
  rw [ht] at hP1
  obtain ⟨hP, hD⟩ := va_join (wr := []) (w1 := [(h0, .inr (4, [.ref u0, .ref u1, .ref u2, .ref u3, .int 265, .int 0, .int 1, .int 1001, .int (-1), .int 0, .int 0, .int 0]))]) hP hD [0] [] rfl rfl (by decide) (by decide) hk1 hFc hP1 hD1
  generalize H1 = H at hP hS ⊢
  have hP : va_P (dC, dI) vwCl [(h0, .inr (4, [.ref u0, .ref u1, .ref u2, .ref u3, .int 265, .int 0, .int 1, .int 1001, .int (-1), .int 0, .int 0, .int 0]))] H := hP
  have hD : va_D A [(h0, .inr (4, [.ref u0, .ref u1, .ref u2, .ref u3, .int 265, .int 0, .int 1, .int 1001, .int (-1), .int 0, .int 0, .int 0]))] := hD
  refine lv_iconst (v := 0) hx hb dX4_readBare_83 (by decide) ?_
  have hP9 := hP.sub (ws' := [(h0, .inr (4, [.ref u0, .ref u1, .ref u2, .ref u3, .int 265, .int 0, .int 1, .int 1001, .int (-1), .int 0, .int 0, .int 0]))]) [0] rfl
  have hD9 := hD.sub (ws' := [(h0, .inr (4, [.ref u0, .ref u1, .ref u2, .ref u3, .int 265, .int 0, .int 1, .int 1001, .int (-1), .int 0, .int 0, .int 0]))]) [0] (by decide) rfl
  have hK9 := hK.sub (tys' := []) [] rfl
  refine W.widen (k := 0) (n := 0) (by decide) (by decide) ?_
  exact W.zret (v := 0) hx hb hr rfl (fun t ht hW => ⟨⟨0, (), rfl, rfl, by rw [ht]; exact hP9, va_K.moved hW.alike hK9, hD9⟩, hS.F ht⟩) hS.2.2 dX4_readBare_84
