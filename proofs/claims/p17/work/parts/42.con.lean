set_option maxHeartbeats 8000000 in
set_option maxRecDepth 100000 in
theorem sX6_documentsOf_0 (l : Launch) (dC : Nat → ClassId) (dI : Nat → Nat → Nat) (adK adV : Nat → Nat) (h0 : Nat) (h7 : Nat) (h1 : Nat) (h2 : Nat) (h3 : Nat) (h4 : Nat) (h5 : Nat) (h6 : Nat) (h8 : Nat) (k7 : ClassId) (sz : Nat) (v0 : Nat → Int32) (f7 : Nat → Int32) (x1 : Int32) (hv0 : zR rg_Postings v0) : Met l yX6_documentsOf (zw yX6_documentsOf cX6_documentsOf 2 (some .int)) { frames := 1, cells := 0, slots := 0, locals := 20 } (zPc dC dI adK adV [.ref h0, .int x1] sz [(h0, .inr (6, mX6 h1 h2 h3 h4 h5 h6 h7 h8 v0)), (h7, zi k7 400 f7)] [(k7, .int)]) (va_Qi (fun (r : Int32) (u : Nat → Int32) => True) (fun (u : Nat → Int32) (t : State) => ∃ (ww : Nat → Int64) (aa : Nat → Nat → Int32) (bb : Nat → Nat → Int64), va_P (dC, dI) vwCl [(h0, .inr (6, mX6 h1 h2 h3 h4 h5 h6 h7 h8 v0)), (h7, zi k7 400 f7)] t.heap ∧ va_K (dC, dI) vwCl [(k7, .int)] t ∧ va_D (va_A [(h0, .inr (6, mX6 h1 h2 h3 h4 h5 h6 h7 h8 v0)), (h7, zi k7 400 f7)] sz) [(h0, .inr (6, mX6 h1 h2 h3 h4 h5 h6 h7 h8 v0)), (h7, zi k7 400 f7)]) (va_A [(h0, .inr (6, mX6 h1 h2 h3 h4 h5 h6 h7 h8 v0)), (h7, zi k7 400 f7)] sz)) 0 0 (va_A [(h0, .inr (6, mX6 h1 h2 h3 h4 h5 h6 h7 h8 v0)), (h7, zi k7 400 f7)] sz) := by
  refine Met.ofW (cc := cX6_documentsOf) (maxL := 2) (ret := (some .int)) (by decide) rfl ?_
  intro p e s m args below meth c s₁ B hml hv
  obtain ⟨rfl, hsz, hP, hK, hD0, hE, hZ⟩ := hv
  have hx := B.exec
  have hb := B.bytes
  have hr := B.returns
  have hG : ∀ w ∈ zG, w.before _ s = true := fun w h => atoms_spec (ws := (zw yX6_documentsOf cX6_documentsOf 2 (some .int))) B.pre w (List.mem_cons_of_mem _ h)
  have hown : s.vm.findClass RX6 = some m.cls := findClass_of_methodNamed B.named
  have hlocks := B.notSynchronized

  subst hsz
  have hD := hD0.self (sz := s.heap.size)
  generalize hAe : va_A [(h0, .inr (6, mX6 h1 h2 h3 h4 h5 h6 h7 h8 v0)), (h7, zi k7 400 f7)] s.heap.size = A at hD hZ ⊢
  have hA : ∀ q : Nat, s.heap.size ≤ q → A q := fun q h => by rw [← hAe]; exact Or.inr h
  have hS : va_S A s.heap s.heap [] := va_S.rf
  have hl := lv_entry ([.ref h0, .int x1]) (n := 2) (Nat.le_of_ble_eq_true rfl)
  rw [lg_entry_eq]
  generalize (lg_sl ([.ref h0, .int x1]) ++ List.replicate (2 - (lg_sl ([.ref h0, .int x1])).length) Slot.unset).toArray = ls at hl ⊢
  have hl : lv_has ls 2 [(0, .ref h0), (1, .int x1)] := hl
  refine lv_iload_n hx hb dX6_documentsOf_0 rfl (lv_at hl 1 rfl) ?_
  have hPc := hP.sub (ws' := []) [] rfl
  have hDc := hD.sub (ws' := []) [] (by decide) rfl
  have hKc := hK.sub (tys' := []) [] rfl
  have hFc := va_free (wc := []) hD hS hA [] rfl
  refine va_calli (va_runS (As := [.int x1]) (rest := []) ⟨hx, hb, hml, hown, hG⟩ (sX6_isId_0 l dC dI adK adV s.heap.size x1) (va_cwS 1 hG (zgS zv775 zv776 zv133 zv777) rfl rfl rfl (by decide +kernel) ⟨Nat.le_of_ble_eq_true rfl, Nat.le_of_ble_eq_true rfl⟩) ⟨zPc_blind, zPc_pre hPc hKc hDc hE hS hFc hZ⟩ rfl rfl hl.1 rfl (lv_room (Nat.le_of_ble_eq_true rfl)) dX6_documentsOf_1 ⟨Nat.le_of_ble_eq_true rfl, Nat.le_of_ble_eq_true rfl⟩) hS (fun q _ h => hFc q h) hFc (fun r1_ u1_ t H1 locs ht hvm hw hB hz1 hk1 hS => ?_)
  replace hw : (0 ≤ r1_.toInt ∧ r1_.toInt ≤ 1) ∧ (r1_.toInt = 1 → (0 ≤ x1.toInt ∧ x1.toInt ≤ 399)) ∧ (r1_.toInt = 0 → x1.toInt < 0 ∨ 399 < x1.toInt) := hw
  obtain ⟨b_, hX1_0, hX1_1⟩ := hw
  obtain ⟨w1_, a1_, b1_, hP1, hK1, hD1⟩ := hB
  rw [ht] at hP1
  obtain ⟨hP, hD⟩ := va_join (wr := [(h0, .inr (6, mX6 h1 h2 h3 h4 h5 h6 h7 h8 v0)), (h7, zi k7 400 f7)]) (w1 := []) hP hD [] [0, 1] rfl rfl (by decide) (by decide) hk1 hFc hP1 hD1
  have hP : va_P (dC, dI) vwCl [(h0, .inr (6, mX6 h1 h2 h3 h4 h5 h6 h7 h8 v0)), (h7, zi k7 400 f7)] H1 := hP.sub [0, 1] rfl
  have hD : va_D A [(h0, .inr (6, mX6 h1 h2 h3 h4 h5 h6 h7 h8 v0)), (h7, zi k7 400 f7)] := hD.sub [0, 1] (by decide) rfl
  generalize H1 = H at hP hS ⊢
  clear hz1
  refine lv_if_eq (tgt := 16) hx hb dX6_documentsOf_4 (by decide) (fun c_ => ?_) (fun c_ => ?_)
  · skip
    have b_ := zT_eq rfl zk_0 c_
    refine lv_iconst (v := 0) hx hb dX6_documentsOf_16 (by decide) ?_
    refine W.widen (k := 0) (n := 0) (by decide) (by decide) ?_
    have hpost : True := trivial
    have hP9 : va_P (dC, dI) vwCl [(h0, .inr (6, mX6 h1 h2 h3 h4 h5 h6 h7 h8 v0)), (h7, zi k7 400 f7)] H := hP
    have hD9 : va_D A [(h0, .inr (6, mX6 h1 h2 h3 h4 h5 h6 h7 h8 v0)), (h7, zi k7 400 f7)] := hD
    exact W.iret (v := 0) hx hb hr (fun t ht hW => ⟨⟨0, (fun _ => 0), rfl, hpost, (fun _ => 0), (fun _ => (fun _ => 0)), (fun _ => (fun _ => 0)), by rw [ht]; exact hP9, va_K.moved hW.alike hK, hD9⟩, hS.F ht⟩) hS.2.2 dX6_documentsOf_17
  · skip
    have b_ := zF_eq rfl zk_0 c_
    refine lv_aload_n hx hb dX6_documentsOf_7 rfl (lv_at hl 0 rfl) ?_
    refine va_get (D := (dC, dI)) (ci := 6) (v := .ref h7) (C := RX6) (T := TX6) (N := 12) hx hb hG zuX6 hown hK hP 0 rfl rfl 6 (by decide) (hG _ zv254) (fun _ h9 => h9) rfl dX6_documentsOf_8 ?_
    refine lv_iload_n hx hb dX6_documentsOf_11 rfl (lv_at hl 1 rfl) ?_
    refine va_iald hx hb hK hP 1 0 rfl rfl (zin_lit ⟨by omega, by omega⟩) dX6_documentsOf_12 ?_
    refine lv_topi (fun z12 e_z12 => ?_)
    refine lv_goto (tgt := 17) hx hb dX6_documentsOf_13 (by decide) ?_
    refine W.widen (k := 0) (n := 0) (by decide) (by decide) ?_
    have b_ : -2147483648 ≤ z12.toInt ∧ z12.toInt ≤ 2147483647 := ⟨zlo _, zhi _⟩
    have hpost : True := trivial
    have hP9 : va_P (dC, dI) vwCl [(h0, .inr (6, mX6 h1 h2 h3 h4 h5 h6 h7 h8 v0)), (h7, zi k7 400 f7)] H := hP
    have hD9 : va_D A [(h0, .inr (6, mX6 h1 h2 h3 h4 h5 h6 h7 h8 v0)), (h7, zi k7 400 f7)] := hD
    exact W.iret (v := z12) hx hb hr (fun t ht hW => ⟨⟨z12, (fun _ => 0), rfl, hpost, (fun _ => 0), (fun _ => (fun _ => 0)), (fun _ => (fun _ => 0)), by rw [ht]; exact hP9, va_K.moved hW.alike hK, hD9⟩, hS.F ht⟩) hS.2.2 dX6_documentsOf_17
set_option maxHeartbeats 8000000 in
set_option maxRecDepth 100000 in
theorem sX11_look_0 (l : Launch) (dC : Nat → ClassId) (dI : Nat → Nat → Nat) (adK adV : Nat → Nat) (h0 : Nat) (h1 : Nat) (h2 : Nat) (h3 : Nat) (h4 : Nat) (h5 : Nat) (h6 : Nat) (h7 : Nat) (h23 : Nat) (h30 : Nat) (h11 : Nat) (h18 : Nat) (h32 : Nat) (h33 : Nat) (h40 : Nat) (h48 : Nat) (h49 : Nat) (h8 : Nat) (h9 : Nat) (h10 : Nat) (h24 : Nat) (h25 : Nat) (h26 : Nat) (h27 : Nat) (h28 : Nat) (h29 : Nat) (h31 : Nat) (k2 : ClassId) (k3 : ClassId) (k5 : ClassId) (k6 : ClassId) (k7 : ClassId) (k30 : ClassId) (sz : Nat) (sp0 : Value) (lw0 : Int64) (v1 : Nat → Int32) (f2 : Nat → Int32) (f3 : Nat → Int32) (v4 : Nat → Int32) (f5 : Nat → Int64) (f6 : Nat → Int32) (f7 : Nat → Int32) (v23 : Nat → Int32) (f30 : Nat → Int32) (hv1 : zR rg_Tape v1) (hv4 : zR rg_Words400 v4) (hf6 : zA 0 399 f6) (hf7 : zA (-1) 399 f7) (hv23 : zR rg_Postings v23) : Met l yX11_look (zw yX11_look cX11_look 1 (some .int)) { frames := 8, cells := 0, slots := 0, locals := 170 } (zPc dC dI adK adV [.ref h0] sz [(h0, .inr (11, mX11 h1 h4 h11 h18 h23 h32 h33 h40 h48 h49 sp0 lw0)), (h1, .inr (9, mX9 h2 h3 v1)), (h2, zi k2 600 f2), (h3, zi k3 12 f3), (h4, .inr (10, mX10 h5 h6 h7 h8 h9 h10 v4)), (h5, .inl (k5, 400, .inr (.inl f5))), (h6, zi k6 400 f6), (h7, zi k7 400 f7), (h23, .inr (6, mX6 h24 h25 h26 h27 h28 h29 h30 h31 v23)), (h30, zi k30 400 f30)] [(k2, .byte), (k3, .byte), (k5, .long), (k6, .int), (k7, .int), (k30, .int)]) (va_Qi (fun (r : Int32) (u : Nat → Int32) => (0 ≤ (u 0).toInt ∧ (u 0).toInt ≤ 0) ∧ (0 ≤ (u 1).toInt ∧ (u 1).toInt ≤ 12)) (fun (u : Nat → Int32) (t : State) => ∃ (ww : Nat → Int64) (aa : Nat → Nat → Int32) (bb : Nat → Nat → Int64), va_P (dC, dI) vwCl [(h0, .inr (11, mX11 h1 h4 h11 h18 h23 h32 h33 h40 h48 h49 sp0 (ww 0))), (h1, .inr (9, mX9 h2 h3 (upd (upd v1 2 (u 0)) 3 (u 1)))), (h2, zi k2 600 f2), (h3, zi k3 12 (aa 0)), (h4, .inr (10, mX10 h5 h6 h7 h8 h9 h10 v4)), (h5, .inl (k5, 400, .inr (.inl f5))), (h6, zi k6 400 f6), (h7, zi k7 400 f7), (h23, .inr (6, mX6 h24 h25 h26 h27 h28 h29 h30 h31 v23)), (h30, zi k30 400 f30)] t.heap ∧ va_K (dC, dI) vwCl [(k2, .byte), (k3, .byte), (k5, .long), (k6, .int), (k7, .int), (k30, .int)] t ∧ va_D (va_A [(h0, .inr (11, mX11 h1 h4 h11 h18 h23 h32 h33 h40 h48 h49 sp0 lw0)), (h1, .inr (9, mX9 h2 h3 v1)), (h2, zi k2 600 f2), (h3, zi k3 12 f3), (h4, .inr (10, mX10 h5 h6 h7 h8 h9 h10 v4)), (h5, .inl (k5, 400, .inr (.inl f5))), (h6, zi k6 400 f6), (h7, zi k7 400 f7), (h23, .inr (6, mX6 h24 h25 h26 h27 h28 h29 h30 h31 v23)), (h30, zi k30 400 f30)] sz) [(h0, .inr (11, mX11 h1 h4 h11 h18 h23 h32 h33 h40 h48 h49 sp0 (ww 0))), (h1, .inr (9, mX9 h2 h3 (upd (upd v1 2 (u 0)) 3 (u 1)))), (h2, zi k2 600 f2), (h3, zi k3 12 (aa 0)), (h4, .inr (10, mX10 h5 h6 h7 h8 h9 h10 v4)), (h5, .inl (k5, 400, .inr (.inl f5))), (h6, zi k6 400 f6), (h7, zi k7 400 f7), (h23, .inr (6, mX6 h24 h25 h26 h27 h28 h29 h30 h31 v23)), (h30, zi k30 400 f30)]) (va_A [(h0, .inr (11, mX11 h1 h4 h11 h18 h23 h32 h33 h40 h48 h49 sp0 lw0)), (h1, .inr (9, mX9 h2 h3 v1)), (h2, zi k2 600 f2), (h3, zi k3 12 f3), (h4, .inr (10, mX10 h5 h6 h7 h8 h9 h10 v4)), (h5, .inl (k5, 400, .inr (.inl f5))), (h6, zi k6 400 f6), (h7, zi k7 400 f7), (h23, .inr (6, mX6 h24 h25 h26 h27 h28 h29 h30 h31 v23)), (h30, zi k30 400 f30)] sz)) 0 0 (va_A [(h0, .inr (11, mX11 h1 h4 h11 h18 h23 h32 h33 h40 h48 h49 sp0 lw0)), (h1, .inr (9, mX9 h2 h3 v1)), (h2, zi k2 600 f2), (h3, zi k3 12 f3), (h4, .inr (10, mX10 h5 h6 h7 h8 h9 h10 v4)), (h5, .inl (k5, 400, .inr (.inl f5))), (h6, zi k6 400 f6), (h7, zi k7 400 f7), (h23, .inr (6, mX6 h24 h25 h26 h27 h28 h29 h30 h31 v23)), (h30, zi k30 400 f30)] sz) := by
  refine Met.ofW (cc := cX11_look) (maxL := 1) (ret := (some .int)) (by decide) rfl ?_
  intro p e s m args below meth c s₁ B hml hv
  obtain ⟨rfl, hsz, hP, hK, hD0, hE, hZ⟩ := hv
  have hx := B.exec
  have hb := B.bytes
  have hr := B.returns
  have hG : ∀ w ∈ zG, w.before _ s = true := fun w h => atoms_spec (ws := (zw yX11_look cX11_look 1 (some .int))) B.pre w (List.mem_cons_of_mem _ h)
  have hown : s.vm.findClass RX11 = some m.cls := findClass_of_methodNamed B.named
  have hlocks := B.notSynchronized

  subst hsz
  have hD := hD0.self (sz := s.heap.size)
  generalize hAe : va_A [(h0, .inr (11, mX11 h1 h4 h11 h18 h23 h32 h33 h40 h48 h49 sp0 lw0)), (h1, .inr (9, mX9 h2 h3 v1)), (h2, zi k2 600 f2), (h3, zi k3 12 f3), (h4, .inr (10, mX10 h5 h6 h7 h8 h9 h10 v4)), (h5, .inl (k5, 400, .inr (.inl f5))), (h6, zi k6 400 f6), (h7, zi k7 400 f7), (h23, .inr (6, mX6 h24 h25 h26 h27 h28 h29 h30 h31 v23)), (h30, zi k30 400 f30)] s.heap.size = A at hD hZ ⊢
  have hA : ∀ q : Nat, s.heap.size ≤ q → A q := fun q h => by rw [← hAe]; exact Or.inr h
  have hS : va_S A s.heap s.heap [] := va_S.rf
  have hl := lv_entry ([.ref h0]) (n := 1) (Nat.le_of_ble_eq_true rfl)
  rw [lg_entry_eq]
  generalize (lg_sl ([.ref h0]) ++ List.replicate (1 - (lg_sl ([.ref h0])).length) Slot.unset).toArray = ls at hl ⊢
  have hl : lv_has ls 1 [(0, .ref h0)] := hl
  refine lv_aload_n hx hb dX11_look_0 rfl (lv_at hl 0 rfl) ?_
  refine lv_aload_n hx hb dX11_look_1 rfl (lv_at hl 0 rfl) ?_
  refine va_get (D := (dC, dI)) (ci := 11) (v := .ref h1) (C := RX11) (T := TX11) (N := 12) hx hb hG zuX11 hown hK hP 0 rfl rfl 0 (by decide) (hG _ zv557) (fun _ h9 => h9) rfl dX11_look_2 ?_
  have hPc := hP.sub (ws' := [(h1, .inr (9, mX9 h2 h3 v1)), (h2, zi k2 600 f2), (h3, zi k3 12 f3)]) [1, 2, 3] rfl
  have hDc := hD.sub (ws' := [(h1, .inr (9, mX9 h2 h3 v1)), (h2, zi k2 600 f2), (h3, zi k3 12 f3)]) [1, 2, 3] (by decide) rfl
  have hKc := hK.sub (tys' := [(k2, .byte), (k3, .byte)]) [0, 1] rfl
  have hFc := va_free (wc := [(h1, .inr (9, mX9 h2 h3 v1)), (h2, zi k2 600 f2), (h3, zi k3 12 f3)]) hD hS hA [1, 2, 3] rfl
  refine va_calll (va_runV (As := []) (rest := [.ref h0]) ⟨hx, hb, hml, hown, hG⟩ (sX9_firstWord_0 l dC dI adK adV h1 h2 h3 k2 k3 s.heap.size v1 f2 f3 hv1) (cwV 0 hG (zgV zv956 zv957 zv958 zv130 zv959) rfl rfl rfl (by decide +kernel) ⟨Nat.le_of_ble_eq_true rfl, Nat.le_of_ble_eq_true rfl⟩) ⟨zPc_blind, va_recv hKc hPc (ci := 9) (q0 := 0) rfl rfl, zPc_pre hPc hKc hDc hE hS hFc hZ⟩ rfl rfl hl.1 rfl (lv_room (Nat.le_of_ble_eq_true rfl)) dX11_look_5 ⟨Nat.le_of_ble_eq_true rfl, Nat.le_of_ble_eq_true rfl⟩) hS (fun q _ h => hFc q h) hFc (fun r5_ u5_ t H1 locs ht hvm hw hB hz1 hk1 hS => ?_)
  replace hw : (0 ≤ (u5_ 0).toInt ∧ (u5_ 0).toInt ≤ 12) ∧ (zFW f2 (v1 2).toInt r5_.toInt) := hw
  obtain ⟨b_, hX5_0⟩ := hw
  obtain ⟨w5_, a5_, b5_, hP1, hK1, hD1⟩ := hB
  rw [ht] at hP1
  obtain ⟨hP, hD⟩ := va_join (wr := [(h0, .inr (11, mX11 h1 h4 h11 h18 h23 h32 h33 h40 h48 h49 sp0 lw0)), (h4, .inr (10, mX10 h5 h6 h7 h8 h9 h10 v4)), (h5, .inl (k5, 400, .inr (.inl f5))), (h6, zi k6 400 f6), (h7, zi k7 400 f7), (h23, .inr (6, mX6 h24 h25 h26 h27 h28 h29 h30 h31 v23)), (h30, zi k30 400 f30)]) (w1 := [(h1, .inr (9, mX9 h2 h3 (upd v1 3 (u5_ 0)))), (h2, zi k2 600 f2), (h3, zi k3 12 (a5_ 0))]) hP hD [1, 2, 3] [0, 4, 5, 6, 7, 8, 9] rfl rfl (by decide) (by decide) hk1 hFc hP1 hD1
  have hP : va_P (dC, dI) vwCl [(h0, .inr (11, mX11 h1 h4 h11 h18 h23 h32 h33 h40 h48 h49 sp0 lw0)), (h1, .inr (9, mX9 h2 h3 (upd v1 3 (u5_ 0)))), (h2, zi k2 600 f2), (h3, zi k3 12 (a5_ 0)), (h4, .inr (10, mX10 h5 h6 h7 h8 h9 h10 v4)), (h5, .inl (k5, 400, .inr (.inl f5))), (h6, zi k6 400 f6), (h7, zi k7 400 f7), (h23, .inr (6, mX6 h24 h25 h26 h27 h28 h29 h30 h31 v23)), (h30, zi k30 400 f30)] H1 := hP.sub [0, 7, 8, 9, 1, 2, 3, 4, 5, 6] rfl
  have hD : va_D A [(h0, .inr (11, mX11 h1 h4 h11 h18 h23 h32 h33 h40 h48 h49 sp0 lw0)), (h1, .inr (9, mX9 h2 h3 (upd v1 3 (u5_ 0)))), (h2, zi k2 600 f2), (h3, zi k3 12 (a5_ 0)), (h4, .inr (10, mX10 h5 h6 h7 h8 h9 h10 v4)), (h5, .inl (k5, 400, .inr (.inl f5))), (h6, zi k6 400 f6), (h7, zi k7 400 f7), (h23, .inr (6, mX6 h24 h25 h26 h27 h28 h29 h30 h31 v23)), (h30, zi k30 400 f30)] := hD.sub [0, 7, 8, 9, 1, 2, 3, 4, 5, 6] (by decide) rfl
  generalize H1 = H at hP hS ⊢
  clear hz1
  refine va_put (D := (dC, dI)) (ci := 11) (v := .long r5_) (ty := .long) (C := RX11) (T := TX11) (N := 12) hx hb hG zuX11 tyX11 tyX11_ok nmX11 hown hK hP hD hS 0 rfl rfl 11 (by decide) (hG _ zv568) (fun _ h9 => h9) rfl (by decide +kernel) rfl rfl (Nat.le_of_ble_eq_true rfl) dX11_look_8 (fun H locs hP hD hS => ?_)
  have hP : va_P (dC, dI) vwCl [(h0, .inr (11, mX11 h1 h4 h11 h18 h23 h32 h33 h40 h48 h49 sp0 r5_)), (h1, .inr (9, mX9 h2 h3 (upd v1 3 (u5_ 0)))), (h2, zi k2 600 f2), (h3, zi k3 12 (a5_ 0)), (h4, .inr (10, mX10 h5 h6 h7 h8 h9 h10 v4)), (h5, .inl (k5, 400, .inr (.inl f5))), (h6, zi k6 400 f6), (h7, zi k7 400 f7), (h23, .inr (6, mX6 h24 h25 h26 h27 h28 h29 h30 h31 v23)), (h30, zi k30 400 f30)] H := hP
  have hD : va_D A [(h0, .inr (11, mX11 h1 h4 h11 h18 h23 h32 h33 h40 h48 h49 sp0 r5_)), (h1, .inr (9, mX9 h2 h3 (upd v1 3 (u5_ 0)))), (h2, zi k2 600 f2), (h3, zi k3 12 (a5_ 0)), (h4, .inr (10, mX10 h5 h6 h7 h8 h9 h10 v4)), (h5, .inl (k5, 400, .inr (.inl f5))), (h6, zi k6 400 f6), (h7, zi k7 400 f7), (h23, .inr (6, mX6 h24 h25 h26 h27 h28 h29 h30 h31 v23)), (h30, zi k30 400 f30)] := hD
  refine lv_aload_n hx hb dX11_look_11 rfl (lv_at hl 0 rfl) ?_
  refine va_get (D := (dC, dI)) (ci := 11) (v := .ref h1) (C := RX11) (T := TX11) (N := 12) hx hb hG zuX11 hown hK hP 0 rfl rfl 0 (by decide) (hG _ zv557) (fun _ h9 => h9) rfl dX11_look_12 ?_
  have hPc := hP.sub (ws' := [(h1, .inr (9, mX9 h2 h3 (upd v1 3 (u5_ 0))))]) [1] rfl
  have hDc := hD.sub (ws' := [(h1, .inr (9, mX9 h2 h3 (upd v1 3 (u5_ 0))))]) [1] (by decide) rfl
  have hKc := hK.sub (tys' := []) [] rfl
  have hFc := va_free (wc := [(h1, .inr (9, mX9 h2 h3 (upd v1 3 (u5_ 0))))]) hD hS hA [1] rfl
  refine va_callv (va_runV (As := []) (rest := []) ⟨hx, hb, hml, hown, hG⟩ (sX9_clear_0 l dC dI adK adV h1 h2 h3 H.size (upd v1 3 (u5_ 0)) (zR_up2 hv1 3 (show (0 : Int) ≤ ((u5_ 0) : Int32).toInt ∧ ((u5_ 0) : Int32).toInt ≤ (12 : Int) from (by first | with_reducible assumption | exact ⟨by omega, by omega⟩)))) (cwV 0 hG (zgV zv809 zv810 zv811 zv130 zv812) rfl rfl rfl (by decide +kernel) ⟨Nat.le_of_ble_eq_true rfl, Nat.le_of_ble_eq_true rfl⟩) ⟨zPc_blind, va_recv hKc hPc (ci := 9) (q0 := 0) rfl rfl, zPc_pre hPc hKc hDc hE hS hFc hZ⟩ rfl rfl hl.1 rfl (lv_room (Nat.le_of_ble_eq_true rfl)) dX11_look_15 ⟨Nat.le_of_ble_eq_true rfl, Nat.le_of_ble_eq_true rfl⟩) hS (fun q _ h => hFc q h) hFc (fun u15_ t H1 locs ht hvm hw hB hz1 hk1 hS => ?_)
  replace hw : (0 ≤ (u15_ 0).toInt ∧ (u15_ 0).toInt ≤ 0) ∧ ((u15_ 0).toInt = 0) := hw
  obtain ⟨b_, hX15_0⟩ := hw
  obtain ⟨w15_, a15_, b15_, hP1, hK1, hD1⟩ := hB
  rw [ht] at hP1
  obtain ⟨hP, hD⟩ := va_join (wr := [(h0, .inr (11, mX11 h1 h4 h11 h18 h23 h32 h33 h40 h48 h49 sp0 r5_)), (h2, zi k2 600 f2), (h3, zi k3 12 (a5_ 0)), (h4, .inr (10, mX10 h5 h6 h7 h8 h9 h10 v4)), (h5, .inl (k5, 400, .inr (.inl f5))), (h6, zi k6 400 f6), (h7, zi k7 400 f7), (h23, .inr (6, mX6 h24 h25 h26 h27 h28 h29 h30 h31 v23)), (h30, zi k30 400 f30)]) (w1 := [(h1, .inr (9, mX9 h2 h3 (upd (upd v1 2 (u15_ 0)) 3 (u5_ 0))))]) hP hD [1] [0, 2, 3, 4, 5, 6, 7, 8, 9] rfl rfl (by decide) (by decide) hk1 hFc hP1 hD1
  have hP : va_P (dC, dI) vwCl [(h0, .inr (11, mX11 h1 h4 h11 h18 h23 h32 h33 h40 h48 h49 sp0 r5_)), (h1, .inr (9, mX9 h2 h3 (upd (upd v1 2 (u15_ 0)) 3 (u5_ 0)))), (h2, zi k2 600 f2), (h3, zi k3 12 (a5_ 0)), (h4, .inr (10, mX10 h5 h6 h7 h8 h9 h10 v4)), (h5, .inl (k5, 400, .inr (.inl f5))), (h6, zi k6 400 f6), (h7, zi k7 400 f7), (h23, .inr (6, mX6 h24 h25 h26 h27 h28 h29 h30 h31 v23)), (h30, zi k30 400 f30)] H1 := hP.sub [0, 9, 1, 2, 3, 4, 5, 6, 7, 8] rfl
  have hD : va_D A [(h0, .inr (11, mX11 h1 h4 h11 h18 h23 h32 h33 h40 h48 h49 sp0 r5_)), (h1, .inr (9, mX9 h2 h3 (upd (upd v1 2 (u15_ 0)) 3 (u5_ 0)))), (h2, zi k2 600 f2), (h3, zi k3 12 (a5_ 0)), (h4, .inr (10, mX10 h5 h6 h7 h8 h9 h10 v4)), (h5, .inl (k5, 400, .inr (.inl f5))), (h6, zi k6 400 f6), (h7, zi k7 400 f7), (h23, .inr (6, mX6 h24 h25 h26 h27 h28 h29 h30 h31 v23)), (h30, zi k30 400 f30)] := hD.sub [0, 9, 1, 2, 3, 4, 5, 6, 7, 8] (by decide) rfl
  generalize H1 = H at hP hS ⊢
  clear hz1
  refine lv_aload_n hx hb dX11_look_18 rfl (lv_at hl 0 rfl) ?_
  refine va_get (D := (dC, dI)) (ci := 11) (v := .ref h23) (C := RX11) (T := TX11) (N := 12) hx hb hG zuX11 hown hK hP 0 rfl rfl 4 (by decide) (hG _ zv561) (fun _ h9 => h9) rfl dX11_look_19 ?_
  refine lv_aload_n hx hb dX11_look_22 rfl (lv_at hl 0 rfl) ?_
  refine va_get (D := (dC, dI)) (ci := 11) (v := .ref h4) (C := RX11) (T := TX11) (N := 12) hx hb hG zuX11 hown hK hP 0 rfl rfl 1 (by decide) (hG _ zv558) (fun _ h9 => h9) rfl dX11_look_23 ?_
  refine lv_aload_n hx hb dX11_look_26 rfl (lv_at hl 0 rfl) ?_
  refine va_get (D := (dC, dI)) (ci := 11) (v := .long r5_) (C := RX11) (T := TX11) (N := 12) hx hb hG zuX11 hown hK hP 0 rfl rfl 11 (by decide) (hG _ zv568) (fun _ h9 => h9) rfl dX11_look_27 ?_
  have hPc := hP.sub (ws' := [(h4, .inr (10, mX10 h5 h6 h7 h8 h9 h10 v4)), (h5, .inl (k5, 400, .inr (.inl f5))), (h6, zi k6 400 f6), (h7, zi k7 400 f7)]) [4, 5, 6, 7] rfl
  have hDc := hD.sub (ws' := [(h4, .inr (10, mX10 h5 h6 h7 h8 h9 h10 v4)), (h5, .inl (k5, 400, .inr (.inl f5))), (h6, zi k6 400 f6), (h7, zi k7 400 f7)]) [4, 5, 6, 7] (by decide) rfl
  have hKc := hK.sub (tys' := [(k5, .long), (k6, .int), (k7, .int)]) [2, 3, 4] rfl
  have hFc := va_free (wc := [(h4, .inr (10, mX10 h5 h6 h7 h8 h9 h10 v4)), (h5, .inl (k5, 400, .inr (.inl f5))), (h6, zi k6 400 f6), (h7, zi k7 400 f7)]) hD hS hA [4, 5, 6, 7] rfl
  refine va_calli (va_runV (As := [.long r5_]) (rest := [.ref h23]) ⟨hx, hb, hml, hown, hG⟩ (sX10_idOf_0 l dC dI adK adV h4 h5 h6 h7 h8 h9 h10 k5 k6 k7 H.size v4 f5 f6 f7 r5_ hv4 hf6 hf7) (cwV 1 hG (zgV zv968 zv748 zv749 zv131 zv750) rfl rfl rfl (by decide +kernel) ⟨Nat.le_of_ble_eq_true rfl, Nat.le_of_ble_eq_true rfl⟩) ⟨zPc_blind, va_recv hKc hPc (ci := 10) (q0 := 0) rfl rfl, zPc_pre hPc hKc hDc hE hS hFc hZ⟩ rfl rfl hl.1 rfl (lv_room (Nat.le_of_ble_eq_true rfl)) dX11_look_30 ⟨Nat.le_of_ble_eq_true rfl, Nat.le_of_ble_eq_true rfl⟩) hS (fun q _ h => hFc q h) hFc (fun r30_ u30_ t H1 locs ht hvm hw hB hz1 hk1 hS => ?_)
  replace hw : ((-1) ≤ r30_.toInt ∧ r30_.toInt ≤ 399) ∧ (∀ V : List Int, zVo f5 f6 f7 (v4 7).toInt V → zIf V r5_.toInt r30_.toInt) := hw
  obtain ⟨b_, hX30_0⟩ := hw
  obtain ⟨w30_, a30_, b30_, hP1, hK1, hD1⟩ := hB
  rw [ht] at hP1
  obtain ⟨hP, hD⟩ := va_join (wr := [(h0, .inr (11, mX11 h1 h4 h11 h18 h23 h32 h33 h40 h48 h49 sp0 r5_)), (h1, .inr (9, mX9 h2 h3 (upd (upd v1 2 (u15_ 0)) 3 (u5_ 0)))), (h2, zi k2 600 f2), (h3, zi k3 12 (a5_ 0)), (h23, .inr (6, mX6 h24 h25 h26 h27 h28 h29 h30 h31 v23)), (h30, zi k30 400 f30)]) (w1 := [(h4, .inr (10, mX10 h5 h6 h7 h8 h9 h10 v4)), (h5, .inl (k5, 400, .inr (.inl f5))), (h6, zi k6 400 f6), (h7, zi k7 400 f7)]) hP hD [4, 5, 6, 7] [0, 1, 2, 3, 8, 9] rfl rfl (by decide) (by decide) hk1 hFc hP1 hD1
  have hP : va_P (dC, dI) vwCl [(h0, .inr (11, mX11 h1 h4 h11 h18 h23 h32 h33 h40 h48 h49 sp0 r5_)), (h1, .inr (9, mX9 h2 h3 (upd (upd v1 2 (u15_ 0)) 3 (u5_ 0)))), (h2, zi k2 600 f2), (h3, zi k3 12 (a5_ 0)), (h4, .inr (10, mX10 h5 h6 h7 h8 h9 h10 v4)), (h5, .inl (k5, 400, .inr (.inl f5))), (h6, zi k6 400 f6), (h7, zi k7 400 f7), (h23, .inr (6, mX6 h24 h25 h26 h27 h28 h29 h30 h31 v23)), (h30, zi k30 400 f30)] H1 := hP.sub [0, 1, 2, 3, 6, 7, 8, 9, 4, 5] rfl
  have hD : va_D A [(h0, .inr (11, mX11 h1 h4 h11 h18 h23 h32 h33 h40 h48 h49 sp0 r5_)), (h1, .inr (9, mX9 h2 h3 (upd (upd v1 2 (u15_ 0)) 3 (u5_ 0)))), (h2, zi k2 600 f2), (h3, zi k3 12 (a5_ 0)), (h4, .inr (10, mX10 h5 h6 h7 h8 h9 h10 v4)), (h5, .inl (k5, 400, .inr (.inl f5))), (h6, zi k6 400 f6), (h7, zi k7 400 f7), (h23, .inr (6, mX6 h24 h25 h26 h27 h28 h29 h30 h31 v23)), (h30, zi k30 400 f30)] := hD.sub [0, 1, 2, 3, 6, 7, 8, 9, 4, 5] (by decide) rfl
  generalize H1 = H at hP hS ⊢
  clear hz1
  have hPc := hP.sub (ws' := [(h23, .inr (6, mX6 h24 h25 h26 h27 h28 h29 h30 h31 v23)), (h30, zi k30 400 f30)]) [8, 9] rfl
  have hDc := hD.sub (ws' := [(h23, .inr (6, mX6 h24 h25 h26 h27 h28 h29 h30 h31 v23)), (h30, zi k30 400 f30)]) [8, 9] (by decide) rfl
  have hKc := hK.sub (tys' := [(k30, .int)]) [5] rfl
  have hFc := va_free (wc := [(h23, .inr (6, mX6 h24 h25 h26 h27 h28 h29 h30 h31 v23)), (h30, zi k30 400 f30)]) hD hS hA [8, 9] rfl
  refine va_calli (va_runV (As := [.int r30_]) (rest := []) ⟨hx, hb, hml, hown, hG⟩ (sX6_documentsOf_0 l dC dI adK adV h23 h30 h24 h25 h26 h27 h28 h29 h31 k30 H.size v23 f30 r30_ hv23) (cwV 1 hG (zgV zv969 zv970 zv971 zv133 zv972) rfl rfl rfl (by decide +kernel) ⟨Nat.le_of_ble_eq_true rfl, Nat.le_of_ble_eq_true rfl⟩) ⟨zPc_blind, va_recv hKc hPc (ci := 6) (q0 := 0) rfl rfl, zPc_pre hPc hKc hDc hE hS hFc hZ⟩ rfl rfl hl.1 rfl (lv_room (Nat.le_of_ble_eq_true rfl)) dX11_look_33 ⟨Nat.le_of_ble_eq_true rfl, Nat.le_of_ble_eq_true rfl⟩) hS (fun q _ h => hFc q h) hFc (fun r33_ u33_ t H1 locs ht hvm hw hB hz1 hk1 hS => ?_)
  obtain ⟨w33_, a33_, b33_, hP1, hK1, hD1⟩ := hB
  rw [ht] at hP1
  obtain ⟨hP, hD⟩ := va_join (wr := [(h0, .inr (11, mX11 h1 h4 h11 h18 h23 h32 h33 h40 h48 h49 sp0 r5_)), (h1, .inr (9, mX9 h2 h3 (upd (upd v1 2 (u15_ 0)) 3 (u5_ 0)))), (h2, zi k2 600 f2), (h3, zi k3 12 (a5_ 0)), (h4, .inr (10, mX10 h5 h6 h7 h8 h9 h10 v4)), (h5, .inl (k5, 400, .inr (.inl f5))), (h6, zi k6 400 f6), (h7, zi k7 400 f7)]) (w1 := [(h23, .inr (6, mX6 h24 h25 h26 h27 h28 h29 h30 h31 v23)), (h30, zi k30 400 f30)]) hP hD [8, 9] [0, 1, 2, 3, 4, 5, 6, 7] rfl rfl (by decide) (by decide) hk1 hFc hP1 hD1
  have hP : va_P (dC, dI) vwCl [(h0, .inr (11, mX11 h1 h4 h11 h18 h23 h32 h33 h40 h48 h49 sp0 r5_)), (h1, .inr (9, mX9 h2 h3 (upd (upd v1 2 (u15_ 0)) 3 (u5_ 0)))), (h2, zi k2 600 f2), (h3, zi k3 12 (a5_ 0)), (h4, .inr (10, mX10 h5 h6 h7 h8 h9 h10 v4)), (h5, .inl (k5, 400, .inr (.inl f5))), (h6, zi k6 400 f6), (h7, zi k7 400 f7), (h23, .inr (6, mX6 h24 h25 h26 h27 h28 h29 h30 h31 v23)), (h30, zi k30 400 f30)] H1 := hP.sub [0, 1, 2, 3, 4, 5, 6, 7, 8, 9] rfl
  have hD : va_D A [(h0, .inr (11, mX11 h1 h4 h11 h18 h23 h32 h33 h40 h48 h49 sp0 r5_)), (h1, .inr (9, mX9 h2 h3 (upd (upd v1 2 (u15_ 0)) 3 (u5_ 0)))), (h2, zi k2 600 f2), (h3, zi k3 12 (a5_ 0)), (h4, .inr (10, mX10 h5 h6 h7 h8 h9 h10 v4)), (h5, .inl (k5, 400, .inr (.inl f5))), (h6, zi k6 400 f6), (h7, zi k7 400 f7), (h23, .inr (6, mX6 h24 h25 h26 h27 h28 h29 h30 h31 v23)), (h30, zi k30 400 f30)] := hD.sub [0, 1, 2, 3, 4, 5, 6, 7, 8, 9] (by decide) rfl
  generalize H1 = H at hP hS ⊢
  clear hz1
  refine W.widen (k := 0) (n := 0) (by decide) (by decide) ?_
  have b_ : -2147483648 ≤ r33_.toInt ∧ r33_.toInt ≤ 2147483647 := ⟨zlo _, zhi _⟩
  have hpost : (0 ≤ (u15_ 0).toInt ∧ (u15_ 0).toInt ≤ 0) ∧ (0 ≤ (u5_ 0).toInt ∧ (u5_ 0).toInt ≤ 12) := ⟨(by first | with_reducible assumption | exact ⟨by omega, by omega⟩), (by first | with_reducible assumption | exact ⟨by omega, by omega⟩)⟩
  have hP9 : va_P (dC, dI) vwCl [(h0, .inr (11, mX11 h1 h4 h11 h18 h23 h32 h33 h40 h48 h49 sp0 r5_)), (h1, .inr (9, mX9 h2 h3 (upd (upd v1 2 (u15_ 0)) 3 (u5_ 0)))), (h2, zi k2 600 f2), (h3, zi k3 12 (a5_ 0)), (h4, .inr (10, mX10 h5 h6 h7 h8 h9 h10 v4)), (h5, .inl (k5, 400, .inr (.inl f5))), (h6, zi k6 400 f6), (h7, zi k7 400 f7), (h23, .inr (6, mX6 h24 h25 h26 h27 h28 h29 h30 h31 v23)), (h30, zi k30 400 f30)] H := hP
  have hD9 : va_D A [(h0, .inr (11, mX11 h1 h4 h11 h18 h23 h32 h33 h40 h48 h49 sp0 r5_)), (h1, .inr (9, mX9 h2 h3 (upd (upd v1 2 (u15_ 0)) 3 (u5_ 0)))), (h2, zi k2 600 f2), (h3, zi k3 12 (a5_ 0)), (h4, .inr (10, mX10 h5 h6 h7 h8 h9 h10 v4)), (h5, .inl (k5, 400, .inr (.inl f5))), (h6, zi k6 400 f6), (h7, zi k7 400 f7), (h23, .inr (6, mX6 h24 h25 h26 h27 h28 h29 h30 h31 v23)), (h30, zi k30 400 f30)] := hD
  exact W.iret (v := r33_) hx hb hr (fun t ht hW => ⟨⟨r33_, (fun i => ([(u15_ 0), (u5_ 0)] : List (Int32)).getD i 0), rfl, hpost, (fun i => ([r5_] : List (Int64)).getD i 0), (fun i => ([(a5_ 0)] : List (Nat → Int32)).getD i (fun _ => 0)), (fun _ => (fun _ => 0)), by rw [ht]; exact hP9, va_K.moved hW.alike hK, hD9⟩, hS.F ht⟩) hS.2.2 dX11_look_36
set_option maxHeartbeats 8000000 in
set_option maxRecDepth 100000 in
theorem sX8_tallyDocuments_0 (l : Launch) (dC : Nat → ClassId) (dI : Nat → Nat → Nat) (adK adV : Nat → Nat) (h0 : Nat) (h1 : Nat) (h4 : Nat) (h3 : Nat) (h2 : Nat) (h5 : Nat) (h6 : Nat) (h7 : Nat) (h10 : Nat) (h11 : Nat) (h8 : Nat) (h9 : Nat) (h12 : Nat) (h13 : Nat) (h14 : Nat) (k4 : ClassId) (k3 : ClassId) (k2 : ClassId) (k5 : ClassId) (k6 : ClassId) (k7 : ClassId) (k11 : ClassId) (sz : Nat) (v0 : Nat → Int32) (v1 : Nat → Int32) (f4 : Nat → Int32) (f3 : Nat → Int32) (f2 : Nat → Int32) (f5 : Nat → Int32) (f6 : Nat → Int32) (f7 : Nat → Int32) (v10 : Nat → Int32) (f11 : Nat → Int32) (hv1 : zR rg_Postings v1) (hf3 : zA 0 1250 f3) (hf6 : zA 0 832 f6) (hv10 : zR rg_Documents v10) : Met l yX8_tallyDocuments (zw yX8_tallyDocuments cX8_tallyDocuments 4 (some .int)) { frames := 4, cells := 0, slots := 0, locals := 88 } (zPc dC dI adK adV [.ref h0, .ref h10] sz [(h0, .inr (8, mX8 h1 v0)), (h1, .inr (6, mX6 h2 h3 h4 h5 h6 h7 h8 h9 v1)), (h4, zi k4 833 f4), (h3, zi k3 833 f3), (h2, zi k2 1250 f2), (h5, zi k5 400 f5), (h6, zi k6 400 f6), (h7, zi k7 400 f7), (h10, .inr (0, mX0 h11 h12 h13 h14 v10)), (h11, zi k11 120 f11)] [(k4, .int), (k3, .int), (k2, .int), (k5, .int), (k6, .int), (k7, .int), (k11, .boolean)]) (va_Qi (fun (r : Int32) (u : Nat → Int32) => True) (fun (u : Nat → Int32) (t : State) => ∃ (ww : Nat → Int64) (aa : Nat → Nat → Int32) (bb : Nat → Nat → Int64), va_P (dC, dI) vwCl [(h0, .inr (8, mX8 h1 (upd (upd (upd (upd (upd (upd (upd (upd v0 1 (u 0)) 2 (u 1)) 3 (u 2)) 4 (u 3)) 5 (u 4)) 6 (u 5)) 7 (u 6)) 8 (u 7)))), (h1, .inr (6, mX6 h2 h3 h4 h5 h6 h7 h8 h9 v1)), (h4, zi k4 833 f4), (h3, zi k3 833 f3), (h2, zi k2 1250 f2), (h5, zi k5 400 f5), (h6, zi k6 400 f6), (h7, zi k7 400 f7), (h10, .inr (0, mX0 h11 h12 h13 h14 v10)), (h11, zi k11 120 f11)] t.heap ∧ va_K (dC, dI) vwCl [(k4, .int), (k3, .int), (k2, .int), (k5, .int), (k6, .int), (k7, .int), (k11, .boolean)] t ∧ va_D (va_A [(h0, .inr (8, mX8 h1 v0)), (h1, .inr (6, mX6 h2 h3 h4 h5 h6 h7 h8 h9 v1)), (h4, zi k4 833 f4), (h3, zi k3 833 f3), (h2, zi k2 1250 f2), (h5, zi k5 400 f5), (h6, zi k6 400 f6), (h7, zi k7 400 f7), (h10, .inr (0, mX0 h11 h12 h13 h14 v10)), (h11, zi k11 120 f11)] sz) [(h0, .inr (8, mX8 h1 (upd (upd (upd (upd (upd (upd (upd (upd v0 1 (u 0)) 2 (u 1)) 3 (u 2)) 4 (u 3)) 5 (u 4)) 6 (u 5)) 7 (u 6)) 8 (u 7)))), (h1, .inr (6, mX6 h2 h3 h4 h5 h6 h7 h8 h9 v1)), (h4, zi k4 833 f4), (h3, zi k3 833 f3), (h2, zi k2 1250 f2), (h5, zi k5 400 f5), (h6, zi k6 400 f6), (h7, zi k7 400 f7), (h10, .inr (0, mX0 h11 h12 h13 h14 v10)), (h11, zi k11 120 f11)]) (va_A [(h0, .inr (8, mX8 h1 v0)), (h1, .inr (6, mX6 h2 h3 h4 h5 h6 h7 h8 h9 v1)), (h4, zi k4 833 f4), (h3, zi k3 833 f3), (h2, zi k2 1250 f2), (h5, zi k5 400 f5), (h6, zi k6 400 f6), (h7, zi k7 400 f7), (h10, .inr (0, mX0 h11 h12 h13 h14 v10)), (h11, zi k11 120 f11)] sz)) 0 0 (va_A [(h0, .inr (8, mX8 h1 v0)), (h1, .inr (6, mX6 h2 h3 h4 h5 h6 h7 h8 h9 v1)), (h4, zi k4 833 f4), (h3, zi k3 833 f3), (h2, zi k2 1250 f2), (h5, zi k5 400 f5), (h6, zi k6 400 f6), (h7, zi k7 400 f7), (h10, .inr (0, mX0 h11 h12 h13 h14 v10)), (h11, zi k11 120 f11)] sz) := by
  refine Met.ofW (cc := cX8_tallyDocuments) (maxL := 4) (ret := (some .int)) (by decide) rfl ?_
  intro p e s m args below meth c s₁ B hml hv
  obtain ⟨rfl, hsz, hP, hK, hD0, hE, hZ⟩ := hv
  have hx := B.exec
  have hb := B.bytes
  have hr := B.returns
  have hG : ∀ w ∈ zG, w.before _ s = true := fun w h => atoms_spec (ws := (zw yX8_tallyDocuments cX8_tallyDocuments 4 (some .int))) B.pre w (List.mem_cons_of_mem _ h)
  have hown : s.vm.findClass RX8 = some m.cls := findClass_of_methodNamed B.named
  have hlocks := B.notSynchronized

  subst hsz
  have hD := hD0.self (sz := s.heap.size)
  generalize hAe : va_A [(h0, .inr (8, mX8 h1 v0)), (h1, .inr (6, mX6 h2 h3 h4 h5 h6 h7 h8 h9 v1)), (h4, zi k4 833 f4), (h3, zi k3 833 f3), (h2, zi k2 1250 f2), (h5, zi k5 400 f5), (h6, zi k6 400 f6), (h7, zi k7 400 f7), (h10, .inr (0, mX0 h11 h12 h13 h14 v10)), (h11, zi k11 120 f11)] s.heap.size = A at hD hZ ⊢
  have hA : ∀ q : Nat, s.heap.size ≤ q → A q := fun q h => by rw [← hAe]; exact Or.inr h
  have hS : va_S A s.heap s.heap [] := va_S.rf
  have hl := lv_entry ([.ref h0, .ref h10]) (n := 4) (Nat.le_of_ble_eq_true rfl)
  rw [lg_entry_eq]
  generalize (lg_sl ([.ref h0, .ref h10]) ++ List.replicate (4 - (lg_sl ([.ref h0, .ref h10])).length) Slot.unset).toArray = ls at hl ⊢
  have hl : lv_has ls 4 [(0, .ref h0), (1, .ref h10)] := hl
  have b_ := zk_0
  refine lv_iconst (v := 0) hx hb dX8_tallyDocuments_0 (by decide) ?_
  refine lv_istore_n (lv' := [(2, .int 0), (0, .ref h0), (1, .ref h10)]) hx hb dX8_tallyDocuments_1 rfl hl (by decide) rfl (fun ls hl => ?_)
  refine lv_iconst (v := 0) hx hb dX8_tallyDocuments_2 (by decide) ?_
  refine lv_istore_n (lv' := [(3, .int 0), (2, .int 0), (0, .ref h0), (1, .ref h10)]) hx hb dX8_tallyDocuments_3 rfl hl (by decide) rfl (fun ls hl => ?_)
  refine zcutL (fun u4_ => (120 - (u4_ 1).toInt).toNat) (fun H locs ls u4_ w4_ a4_ b4_ => va_P (dC, dI) vwCl [(h0, .inr (8, mX8 h1 (upd (upd (upd (upd (upd (upd (upd (upd v0 1 (u4_ 2)) 2 (u4_ 3)) 3 (u4_ 4)) 4 (u4_ 5)) 5 (u4_ 6)) 6 (u4_ 7)) 7 (u4_ 8)) 8 (u4_ 9)))), (h1, .inr (6, mX6 h2 h3 h4 h5 h6 h7 h8 h9 v1)), (h4, zi k4 833 f4), (h3, zi k3 833 f3), (h2, zi k2 1250 f2), (h5, zi k5 400 f5), (h6, zi k6 400 f6), (h7, zi k7 400 f7), (h10, .inr (0, mX0 h11 h12 h13 h14 v10)), (h11, zi k11 120 f11)] H ∧ va_D A [(h0, .inr (8, mX8 h1 (upd (upd (upd (upd (upd (upd (upd (upd v0 1 (u4_ 2)) 2 (u4_ 3)) 3 (u4_ 4)) 4 (u4_ 5)) 5 (u4_ 6)) 6 (u4_ 7)) 7 (u4_ 8)) 8 (u4_ 9)))), (h1, .inr (6, mX6 h2 h3 h4 h5 h6 h7 h8 h9 v1)), (h4, zi k4 833 f4), (h3, zi k3 833 f3), (h2, zi k2 1250 f2), (h5, zi k5 400 f5), (h6, zi k6 400 f6), (h7, zi k7 400 f7), (h10, .inr (0, mX0 h11 h12 h13 h14 v10)), (h11, zi k11 120 f11)] ∧ va_S A s.heap H locs ∧ lv_has ls 4 [(0, .ref h0), (1, .ref h10), (2, .int (u4_ 0)), (3, .int (u4_ 1))] ∧ (0 ≤ (u4_ 1).toInt ∧ (u4_ 1).toInt ≤ 120)) (fun ls u4_ w4_ => F0 m 4 ls []) 0 0 ?_ (fun hJ4 => ?_)
  · skip
    intro H locs ls u4_ w4_ a4_ b4_ hc hJ4
    obtain ⟨hP, hD, hS, hl, b_⟩ := hc
    refine lv_iload_n hx hb dX8_tallyDocuments_4 rfl (lv_at hl 3 rfl) ?_
    refine lv_bipush (v := 120) hx hb dX8_tallyDocuments_5 (by decide) ?_
    refine lv_icmp_ge (tgt := 37) hx hb dX8_tallyDocuments_7 (by decide) (fun c_ => ?_) (fun c_ => ?_)
    · skip
      have b_ := zT_ge rfl zk_120 c_
      refine lv_iload_n hx hb dX8_tallyDocuments_37 rfl (lv_at hl 2 rfl) ?_
      refine W.widen (k := 0) (n := 0) (by decide) (by decide) ?_
      have b_ : -2147483648 ≤ (u4_ 0).toInt ∧ (u4_ 0).toInt ≤ 2147483647 := ⟨zlo _, zhi _⟩
      have b_ : -2147483648 ≤ (u4_ 2).toInt ∧ (u4_ 2).toInt ≤ 2147483647 := ⟨zlo _, zhi _⟩
      have b_ : -2147483648 ≤ (u4_ 3).toInt ∧ (u4_ 3).toInt ≤ 2147483647 := ⟨zlo _, zhi _⟩
      have b_ : -2147483648 ≤ (u4_ 4).toInt ∧ (u4_ 4).toInt ≤ 2147483647 := ⟨zlo _, zhi _⟩
      have b_ : -2147483648 ≤ (u4_ 5).toInt ∧ (u4_ 5).toInt ≤ 2147483647 := ⟨zlo _, zhi _⟩
      have b_ : -2147483648 ≤ (u4_ 6).toInt ∧ (u4_ 6).toInt ≤ 2147483647 := ⟨zlo _, zhi _⟩
      have b_ : -2147483648 ≤ (u4_ 7).toInt ∧ (u4_ 7).toInt ≤ 2147483647 := ⟨zlo _, zhi _⟩
      have b_ : -2147483648 ≤ (u4_ 8).toInt ∧ (u4_ 8).toInt ≤ 2147483647 := ⟨zlo _, zhi _⟩
      have b_ : -2147483648 ≤ (u4_ 9).toInt ∧ (u4_ 9).toInt ≤ 2147483647 := ⟨zlo _, zhi _⟩
      have hpost : True := trivial
      have hP9 : va_P (dC, dI) vwCl [(h0, .inr (8, mX8 h1 (upd (upd (upd (upd (upd (upd (upd (upd v0 1 (u4_ 2)) 2 (u4_ 3)) 3 (u4_ 4)) 4 (u4_ 5)) 5 (u4_ 6)) 6 (u4_ 7)) 7 (u4_ 8)) 8 (u4_ 9)))), (h1, .inr (6, mX6 h2 h3 h4 h5 h6 h7 h8 h9 v1)), (h4, zi k4 833 f4), (h3, zi k3 833 f3), (h2, zi k2 1250 f2), (h5, zi k5 400 f5), (h6, zi k6 400 f6), (h7, zi k7 400 f7), (h10, .inr (0, mX0 h11 h12 h13 h14 v10)), (h11, zi k11 120 f11)] H := hP
      have hD9 : va_D A [(h0, .inr (8, mX8 h1 (upd (upd (upd (upd (upd (upd (upd (upd v0 1 (u4_ 2)) 2 (u4_ 3)) 3 (u4_ 4)) 4 (u4_ 5)) 5 (u4_ 6)) 6 (u4_ 7)) 7 (u4_ 8)) 8 (u4_ 9)))), (h1, .inr (6, mX6 h2 h3 h4 h5 h6 h7 h8 h9 v1)), (h4, zi k4 833 f4), (h3, zi k3 833 f3), (h2, zi k2 1250 f2), (h5, zi k5 400 f5), (h6, zi k6 400 f6), (h7, zi k7 400 f7), (h10, .inr (0, mX0 h11 h12 h13 h14 v10)), (h11, zi k11 120 f11)] := hD
      exact W.iret (v := (u4_ 0)) hx hb hr (fun t ht hW => ⟨⟨(u4_ 0), (fun i => ([(u4_ 2), (u4_ 3), (u4_ 4), (u4_ 5), (u4_ 6), (u4_ 7), (u4_ 8), (u4_ 9)] : List (Int32)).getD i 0), rfl, hpost, (fun _ => 0), (fun _ => (fun _ => 0)), (fun _ => (fun _ => 0)), by rw [ht]; exact hP9, va_K.moved hW.alike hK, hD9⟩, hS.F ht⟩) hS.2.2 dX8_tallyDocuments_38
    · skip
      have b_ := zF_ge rfl zk_120 c_
      refine lv_aload_n hx hb dX8_tallyDocuments_10 rfl (lv_at hl 0 rfl) ?_
      have b_ : -2147483648 ≤ (u4_ 2).toInt ∧ (u4_ 2).toInt ≤ 2147483647 := ⟨zlo _, zhi _⟩
      have b_ : -2147483648 ≤ (u4_ 3).toInt ∧ (u4_ 3).toInt ≤ 2147483647 := ⟨zlo _, zhi _⟩
      have b_ : -2147483648 ≤ (u4_ 4).toInt ∧ (u4_ 4).toInt ≤ 2147483647 := ⟨zlo _, zhi _⟩
      have b_ : -2147483648 ≤ (u4_ 5).toInt ∧ (u4_ 5).toInt ≤ 2147483647 := ⟨zlo _, zhi _⟩
      have b_ : -2147483648 ≤ (u4_ 6).toInt ∧ (u4_ 6).toInt ≤ 2147483647 := ⟨zlo _, zhi _⟩
      have b_ : -2147483648 ≤ (u4_ 7).toInt ∧ (u4_ 7).toInt ≤ 2147483647 := ⟨zlo _, zhi _⟩
      have b_ : -2147483648 ≤ (u4_ 8).toInt ∧ (u4_ 8).toInt ≤ 2147483647 := ⟨zlo _, zhi _⟩
      have b_ : -2147483648 ≤ (u4_ 9).toInt ∧ (u4_ 9).toInt ≤ 2147483647 := ⟨zlo _, zhi _⟩
      have hPc := hP.sub (ws' := [(h0, .inr (8, mX8 h1 (upd (upd (upd (upd (upd (upd (upd (upd v0 1 (u4_ 2)) 2 (u4_ 3)) 3 (u4_ 4)) 4 (u4_ 5)) 5 (u4_ 6)) 6 (u4_ 7)) 7 (u4_ 8)) 8 (u4_ 9)))), (h1, .inr (6, mX6 h2 h3 h4 h5 h6 h7 h8 h9 v1)), (h4, zi k4 833 f4), (h3, zi k3 833 f3), (h2, zi k2 1250 f2), (h5, zi k5 400 f5), (h6, zi k6 400 f6), (h7, zi k7 400 f7)]) [0, 1, 2, 3, 4, 5, 6, 7] rfl
      have hDc := hD.sub (ws' := [(h0, .inr (8, mX8 h1 (upd (upd (upd (upd (upd (upd (upd (upd v0 1 (u4_ 2)) 2 (u4_ 3)) 3 (u4_ 4)) 4 (u4_ 5)) 5 (u4_ 6)) 6 (u4_ 7)) 7 (u4_ 8)) 8 (u4_ 9)))), (h1, .inr (6, mX6 h2 h3 h4 h5 h6 h7 h8 h9 v1)), (h4, zi k4 833 f4), (h3, zi k3 833 f3), (h2, zi k2 1250 f2), (h5, zi k5 400 f5), (h6, zi k6 400 f6), (h7, zi k7 400 f7)]) [0, 1, 2, 3, 4, 5, 6, 7] (by decide) rfl
      have hKc := hK.sub (tys' := [(k4, .int), (k3, .int), (k2, .int), (k5, .int), (k6, .int), (k7, .int)]) [0, 1, 2, 3, 4, 5] rfl
      have hFc := va_free (wc := [(h0, .inr (8, mX8 h1 (upd (upd (upd (upd (upd (upd (upd (upd v0 1 (u4_ 2)) 2 (u4_ 3)) 3 (u4_ 4)) 4 (u4_ 5)) 5 (u4_ 6)) 6 (u4_ 7)) 7 (u4_ 8)) 8 (u4_ 9)))), (h1, .inr (6, mX6 h2 h3 h4 h5 h6 h7 h8 h9 v1)), (h4, zi k4 833 f4), (h3, zi k3 833 f3), (h2, zi k2 1250 f2), (h5, zi k5 400 f5), (h6, zi k6 400 f6), (h7, zi k7 400 f7)]) hD hS hA [0, 1, 2, 3, 4, 5, 6, 7] rfl
      refine va_calli (va_runV (As := []) (rest := []) ⟨hx, hb, hml, hown, hG⟩ (sX8_nextDocument_0 l dC dI adK adV h0 h1 h4 h3 h2 h5 h6 h7 h8 h9 k4 k3 k2 k5 k6 k7 H.size (upd (upd (upd (upd (upd (upd (upd (upd v0 1 (u4_ 2)) 2 (u4_ 3)) 3 (u4_ 4)) 4 (u4_ 5)) 5 (u4_ 6)) 6 (u4_ 7)) 7 (u4_ 8)) 8 (u4_ 9)) v1 f4 f3 f2 f5 f6 f7 hv1 hf3 hf6) (cwV 0 hG (zgV zv983 zv911 zv912 zv134 zv913) rfl rfl rfl (by decide +kernel) ⟨Nat.le_of_ble_eq_true rfl, Nat.le_of_ble_eq_true rfl⟩) ⟨zPc_blind, va_recv hKc hPc (ci := 8) (q0 := 0) rfl rfl, zPc_pre hPc hKc hDc hE hS hFc hZ⟩ rfl rfl hl.1 rfl (lv_room (Nat.le_of_ble_eq_true rfl)) dX8_tallyDocuments_11 ⟨Nat.le_of_ble_eq_true rfl, Nat.le_of_ble_eq_true rfl⟩) hS (fun q _ h => hFc q h) hFc (fun r11_ u11_ t H1 locs ht hvm hw hB hz1 hk1 hS => ?_)
      replace hw : (0 ≤ r11_.toInt ∧ r11_.toInt ≤ 1) ∧ (zNo f2 f3 f4 f5 f6 f7 (v1 8).toInt (v1 9).toInt (v1 10).toInt (v1 11).toInt (u4_ 2).toInt (u4_ 3).toInt (u4_ 4).toInt (u4_ 5).toInt (u11_ 0).toInt (u11_ 1).toInt (u11_ 2).toInt (u11_ 3).toInt (u4_ 8).toInt (u4_ 6).toInt (u11_ 4).toInt (u11_ 5).toInt (u11_ 6).toInt (u11_ 7).toInt r11_.toInt) ∧ (r11_.toInt = 0 → (u11_ 4).toInt = 120) := hw
      obtain ⟨b_, hX11_0, hX11_1⟩ := hw
      obtain ⟨w11_, a11_, b11_, hP1, hK1, hD1⟩ := hB
      rw [ht] at hP1
      obtain ⟨hP, hD⟩ := va_join (wr := [(h10, .inr (0, mX0 h11 h12 h13 h14 v10)), (h11, zi k11 120 f11)]) (w1 := [(h0, .inr (8, mX8 h1 (upd (upd (upd (upd (upd (upd (upd (upd v0 1 (u11_ 0)) 2 (u11_ 1)) 3 (u11_ 2)) 4 (u11_ 3)) 5 (u11_ 4)) 6 (u11_ 5)) 7 (u11_ 6)) 8 (u11_ 7)))), (h1, .inr (6, mX6 h2 h3 h4 h5 h6 h7 h8 h9 v1)), (h4, zi k4 833 f4), (h3, zi k3 833 f3), (h2, zi k2 1250 f2), (h5, zi k5 400 f5), (h6, zi k6 400 f6), (h7, zi k7 400 f7)]) hP hD [0, 1, 2, 3, 4, 5, 6, 7] [8, 9] rfl rfl (by decide) (by decide) hk1 hFc hP1 hD1
      have hP : va_P (dC, dI) vwCl [(h0, .inr (8, mX8 h1 (upd (upd (upd (upd (upd (upd (upd (upd v0 1 (u11_ 0)) 2 (u11_ 1)) 3 (u11_ 2)) 4 (u11_ 3)) 5 (u11_ 4)) 6 (u11_ 5)) 7 (u11_ 6)) 8 (u11_ 7)))), (h1, .inr (6, mX6 h2 h3 h4 h5 h6 h7 h8 h9 v1)), (h4, zi k4 833 f4), (h3, zi k3 833 f3), (h2, zi k2 1250 f2), (h5, zi k5 400 f5), (h6, zi k6 400 f6), (h7, zi k7 400 f7), (h10, .inr (0, mX0 h11 h12 h13 h14 v10)), (h11, zi k11 120 f11)] H1 := hP.sub [2, 3, 4, 5, 6, 7, 8, 9, 0, 1] rfl
      have hD : va_D A [(h0, .inr (8, mX8 h1 (upd (upd (upd (upd (upd (upd (upd (upd v0 1 (u11_ 0)) 2 (u11_ 1)) 3 (u11_ 2)) 4 (u11_ 3)) 5 (u11_ 4)) 6 (u11_ 5)) 7 (u11_ 6)) 8 (u11_ 7)))), (h1, .inr (6, mX6 h2 h3 h4 h5 h6 h7 h8 h9 v1)), (h4, zi k4 833 f4), (h3, zi k3 833 f3), (h2, zi k2 1250 f2), (h5, zi k5 400 f5), (h6, zi k6 400 f6), (h7, zi k7 400 f7), (h10, .inr (0, mX0 h11 h12 h13 h14 v10)), (h11, zi k11 120 f11)] := hD.sub [2, 3, 4, 5, 6, 7, 8, 9, 0, 1] (by decide) rfl
      generalize H1 = H at hP hS ⊢
      clear hz1
      refine lv_if_eq (tgt := 37) hx hb dX8_tallyDocuments_14 (by decide) (fun c_ => ?_) (fun c_ => ?_)
      · skip
        have b_ := zT_eq rfl zk_0 c_
        refine lv_iload_n hx hb dX8_tallyDocuments_37 rfl (lv_at hl 2 rfl) ?_
        refine W.widen (k := 0) (n := 0) (by decide) (by decide) ?_
        have b_ : -2147483648 ≤ (u4_ 0).toInt ∧ (u4_ 0).toInt ≤ 2147483647 := ⟨zlo _, zhi _⟩
        have b_ : -2147483648 ≤ (u11_ 0).toInt ∧ (u11_ 0).toInt ≤ 2147483647 := ⟨zlo _, zhi _⟩
        have b_ : -2147483648 ≤ (u11_ 1).toInt ∧ (u11_ 1).toInt ≤ 2147483647 := ⟨zlo _, zhi _⟩
        have b_ : -2147483648 ≤ (u11_ 2).toInt ∧ (u11_ 2).toInt ≤ 2147483647 := ⟨zlo _, zhi _⟩
        have b_ : -2147483648 ≤ (u11_ 3).toInt ∧ (u11_ 3).toInt ≤ 2147483647 := ⟨zlo _, zhi _⟩
        have b_ : -2147483648 ≤ (u11_ 4).toInt ∧ (u11_ 4).toInt ≤ 2147483647 := ⟨zlo _, zhi _⟩
        have b_ : -2147483648 ≤ (u11_ 5).toInt ∧ (u11_ 5).toInt ≤ 2147483647 := ⟨zlo _, zhi _⟩
        have b_ : -2147483648 ≤ (u11_ 6).toInt ∧ (u11_ 6).toInt ≤ 2147483647 := ⟨zlo _, zhi _⟩
        have b_ : -2147483648 ≤ (u11_ 7).toInt ∧ (u11_ 7).toInt ≤ 2147483647 := ⟨zlo _, zhi _⟩
        have hpost : True := trivial
        have hP9 : va_P (dC, dI) vwCl [(h0, .inr (8, mX8 h1 (upd (upd (upd (upd (upd (upd (upd (upd v0 1 (u11_ 0)) 2 (u11_ 1)) 3 (u11_ 2)) 4 (u11_ 3)) 5 (u11_ 4)) 6 (u11_ 5)) 7 (u11_ 6)) 8 (u11_ 7)))), (h1, .inr (6, mX6 h2 h3 h4 h5 h6 h7 h8 h9 v1)), (h4, zi k4 833 f4), (h3, zi k3 833 f3), (h2, zi k2 1250 f2), (h5, zi k5 400 f5), (h6, zi k6 400 f6), (h7, zi k7 400 f7), (h10, .inr (0, mX0 h11 h12 h13 h14 v10)), (h11, zi k11 120 f11)] H := hP
        have hD9 : va_D A [(h0, .inr (8, mX8 h1 (upd (upd (upd (upd (upd (upd (upd (upd v0 1 (u11_ 0)) 2 (u11_ 1)) 3 (u11_ 2)) 4 (u11_ 3)) 5 (u11_ 4)) 6 (u11_ 5)) 7 (u11_ 6)) 8 (u11_ 7)))), (h1, .inr (6, mX6 h2 h3 h4 h5 h6 h7 h8 h9 v1)), (h4, zi k4 833 f4), (h3, zi k3 833 f3), (h2, zi k2 1250 f2), (h5, zi k5 400 f5), (h6, zi k6 400 f6), (h7, zi k7 400 f7), (h10, .inr (0, mX0 h11 h12 h13 h14 v10)), (h11, zi k11 120 f11)] := hD
        exact W.iret (v := (u4_ 0)) hx hb hr (fun t ht hW => ⟨⟨(u4_ 0), (fun i => ([(u11_ 0), (u11_ 1), (u11_ 2), (u11_ 3), (u11_ 4), (u11_ 5), (u11_ 6), (u11_ 7)] : List (Int32)).getD i 0), rfl, hpost, (fun _ => 0), (fun _ => (fun _ => 0)), (fun _ => (fun _ => 0)), by rw [ht]; exact hP9, va_K.moved hW.alike hK, hD9⟩, hS.F ht⟩) hS.2.2 dX8_tallyDocuments_38
      · skip
        have b_ := zF_eq rfl zk_0 c_
        refine lv_aload_n hx hb dX8_tallyDocuments_17 rfl (lv_at hl 1 rfl) ?_
        refine lv_aload_n hx hb dX8_tallyDocuments_18 rfl (lv_at hl 0 rfl) ?_
        refine va_get (D := (dC, dI)) (ci := 8) (v := .int (u11_ 4)) (C := RX8) (T := TX8) (N := 9) hx hb hG zuX8 hown hK hP 0 rfl rfl 5 (by decide) (hG _ zv296) (fun _ h9 => h9) rfl dX8_tallyDocuments_19 ?_
        have hPc := hP.sub (ws' := [(h10, .inr (0, mX0 h11 h12 h13 h14 v10)), (h11, zi k11 120 f11)]) [8, 9] rfl
        have hDc := hD.sub (ws' := [(h10, .inr (0, mX0 h11 h12 h13 h14 v10)), (h11, zi k11 120 f11)]) [8, 9] (by decide) rfl
        have hKc := hK.sub (tys' := [(k11, .boolean)]) [6] rfl
        have hFc := va_free (wc := [(h10, .inr (0, mX0 h11 h12 h13 h14 v10)), (h11, zi k11 120 f11)]) hD hS hA [8, 9] rfl
        refine va_calli (va_runV (As := [.int (u11_ 4)]) (rest := []) ⟨hx, hb, hml, hown, hG⟩ (sX0_isOn_0 l dC dI adK adV h10 h11 h12 h13 h14 k11 H.size v10 f11 (u11_ 4) hv10) (cwV 1 hG (zgV zv984 zv872 zv873 zv132 zv874) rfl rfl rfl (by decide +kernel) ⟨Nat.le_of_ble_eq_true rfl, Nat.le_of_ble_eq_true rfl⟩) ⟨zPc_blind, va_recv hKc hPc (ci := 0) (q0 := 0) rfl rfl, zPc_pre hPc hKc hDc hE hS hFc hZ⟩ rfl rfl hl.1 rfl (lv_room (Nat.le_of_ble_eq_true rfl)) dX8_tallyDocuments_22 ⟨Nat.le_of_ble_eq_true rfl, Nat.le_of_ble_eq_true rfl⟩) hS (fun q _ h => hFc q h) hFc (fun r22_ u22_ t H1 locs ht hvm hw hB hz1 hk1 hS => ?_)
        replace hw : (0 ≤ r22_.toInt ∧ r22_.toInt ≤ 1) ∧ (r22_.toInt = 1 → (0 ≤ (u11_ 4).toInt ∧ (u11_ 4).toInt ≤ 119)) ∧ (r22_.toInt = 1 → (u11_ 4).toInt < (v10 4).toInt) ∧ (zIo f11 (v10 4).toInt ((u11_ 4) : Int32) r22_.toInt) := hw
        obtain ⟨b_, hX22_0, hX22_1, hX22_2⟩ := hw
        obtain ⟨w22_, a22_, b22_, hP1, hK1, hD1⟩ := hB
        rw [ht] at hP1
        obtain ⟨hP, hD⟩ := va_join (wr := [(h0, .inr (8, mX8 h1 (upd (upd (upd (upd (upd (upd (upd (upd v0 1 (u11_ 0)) 2 (u11_ 1)) 3 (u11_ 2)) 4 (u11_ 3)) 5 (u11_ 4)) 6 (u11_ 5)) 7 (u11_ 6)) 8 (u11_ 7)))), (h1, .inr (6, mX6 h2 h3 h4 h5 h6 h7 h8 h9 v1)), (h4, zi k4 833 f4), (h3, zi k3 833 f3), (h2, zi k2 1250 f2), (h5, zi k5 400 f5), (h6, zi k6 400 f6), (h7, zi k7 400 f7)]) (w1 := [(h10, .inr (0, mX0 h11 h12 h13 h14 v10)), (h11, zi k11 120 f11)]) hP hD [8, 9] [0, 1, 2, 3, 4, 5, 6, 7] rfl rfl (by decide) (by decide) hk1 hFc hP1 hD1
        have hP : va_P (dC, dI) vwCl [(h0, .inr (8, mX8 h1 (upd (upd (upd (upd (upd (upd (upd (upd v0 1 (u11_ 0)) 2 (u11_ 1)) 3 (u11_ 2)) 4 (u11_ 3)) 5 (u11_ 4)) 6 (u11_ 5)) 7 (u11_ 6)) 8 (u11_ 7)))), (h1, .inr (6, mX6 h2 h3 h4 h5 h6 h7 h8 h9 v1)), (h4, zi k4 833 f4), (h3, zi k3 833 f3), (h2, zi k2 1250 f2), (h5, zi k5 400 f5), (h6, zi k6 400 f6), (h7, zi k7 400 f7), (h10, .inr (0, mX0 h11 h12 h13 h14 v10)), (h11, zi k11 120 f11)] H1 := hP.sub [0, 1, 2, 3, 4, 5, 6, 7, 8, 9] rfl
        have hD : va_D A [(h0, .inr (8, mX8 h1 (upd (upd (upd (upd (upd (upd (upd (upd v0 1 (u11_ 0)) 2 (u11_ 1)) 3 (u11_ 2)) 4 (u11_ 3)) 5 (u11_ 4)) 6 (u11_ 5)) 7 (u11_ 6)) 8 (u11_ 7)))), (h1, .inr (6, mX6 h2 h3 h4 h5 h6 h7 h8 h9 v1)), (h4, zi k4 833 f4), (h3, zi k3 833 f3), (h2, zi k2 1250 f2), (h5, zi k5 400 f5), (h6, zi k6 400 f6), (h7, zi k7 400 f7), (h10, .inr (0, mX0 h11 h12 h13 h14 v10)), (h11, zi k11 120 f11)] := hD.sub [0, 1, 2, 3, 4, 5, 6, 7, 8, 9] (by decide) rfl
        generalize H1 = H at hP hS ⊢
        clear hz1
        refine lv_if_eq (tgt := 31) hx hb dX8_tallyDocuments_25 (by decide) (fun c_ => ?_) (fun c_ => ?_)
        · skip
          have b_ := zT_eq rfl zk_0 c_
          obtain ⟨z31, e_z31⟩ : ∃ z : Int32, z = (u4_ 1) + Int32.ofInt 1 := ⟨_, rfl⟩
          have b_ := zadd (x := (u4_ 1)) (y := Int32.ofInt 1) rfl (show (Int32.ofInt 1).toInt = 1 from by decide) e_z31 (by omega) (by omega)
          refine lv_iinc (v := z31) (lv' := [(3, .int z31), (0, .ref h0), (1, .ref h10), (2, .int (u4_ 0))]) hx hb dX8_tallyDocuments_31 hl (k := 3) rfl e_z31.symm (by decide) rfl (fun ls hl => ?_)
          refine lv_goto (tgt := 4) hx hb dX8_tallyDocuments_34 (by decide) ?_
          have b_ : -2147483648 ≤ (u4_ 0).toInt ∧ (u4_ 0).toInt ≤ 2147483647 := ⟨zlo _, zhi _⟩
          have hc : va_P (dC, dI) vwCl [(h0, .inr (8, mX8 h1 (upd (upd (upd (upd (upd (upd (upd (upd v0 1 (u11_ 0)) 2 (u11_ 1)) 3 (u11_ 2)) 4 (u11_ 3)) 5 (u11_ 4)) 6 (u11_ 5)) 7 (u11_ 6)) 8 (u11_ 7)))), (h1, .inr (6, mX6 h2 h3 h4 h5 h6 h7 h8 h9 v1)), (h4, zi k4 833 f4), (h3, zi k3 833 f3), (h2, zi k2 1250 f2), (h5, zi k5 400 f5), (h6, zi k6 400 f6), (h7, zi k7 400 f7), (h10, .inr (0, mX0 h11 h12 h13 h14 v10)), (h11, zi k11 120 f11)] H ∧ va_D A [(h0, .inr (8, mX8 h1 (upd (upd (upd (upd (upd (upd (upd (upd v0 1 (u11_ 0)) 2 (u11_ 1)) 3 (u11_ 2)) 4 (u11_ 3)) 5 (u11_ 4)) 6 (u11_ 5)) 7 (u11_ 6)) 8 (u11_ 7)))), (h1, .inr (6, mX6 h2 h3 h4 h5 h6 h7 h8 h9 v1)), (h4, zi k4 833 f4), (h3, zi k3 833 f3), (h2, zi k2 1250 f2), (h5, zi k5 400 f5), (h6, zi k6 400 f6), (h7, zi k7 400 f7), (h10, .inr (0, mX0 h11 h12 h13 h14 v10)), (h11, zi k11 120 f11)] ∧ va_S A s.heap H locs ∧ lv_has ls 4 [(0, .ref h0), (1, .ref h10), (2, .int (u4_ 0)), (3, .int z31)] ∧ (0 ≤ z31.toInt ∧ z31.toInt ≤ 120) := ⟨hP, hD, hS, lv_sub hl [1, 2, 3, 0] rfl, (by first | with_reducible assumption | exact ⟨by omega, by omega⟩)⟩
          exact hJ4 H locs ls (fun i => ([(u4_ 0), z31, (u11_ 0), (u11_ 1), (u11_ 2), (u11_ 3), (u11_ 4), (u11_ 5), (u11_ 6), (u11_ 7)] : List (Int32)).getD i 0) (fun _ => 0) (fun _ => (fun _ => 0)) (fun _ => (fun _ => 0)) hc (show (120 - z31.toInt).toNat < (120 - (u4_ 1).toInt).toNat from by omega)
        · skip
          have b_ := zF_eq rfl zk_0 c_
          have b_ : -2147483648 ≤ (u4_ 0).toInt ∧ (u4_ 0).toInt ≤ 2147483647 := ⟨zlo _, zhi _⟩
          obtain ⟨z28, e_z28⟩ : ∃ z : Int32, z = (u4_ 0) + Int32.ofInt 1 := ⟨_, rfl⟩
          refine lv_iinc (v := z28) (lv' := [(2, .int z28), (0, .ref h0), (1, .ref h10), (3, .int (u4_ 1))]) hx hb dX8_tallyDocuments_28 hl (k := 2) rfl e_z28.symm (by decide) rfl (fun ls hl => ?_)
          obtain ⟨z31, e_z31⟩ : ∃ z : Int32, z = (u4_ 1) + Int32.ofInt 1 := ⟨_, rfl⟩
          have b_ := zadd (x := (u4_ 1)) (y := Int32.ofInt 1) rfl (show (Int32.ofInt 1).toInt = 1 from by decide) e_z31 (by omega) (by omega)
          refine lv_iinc (v := z31) (lv' := [(3, .int z31), (2, .int z28), (0, .ref h0), (1, .ref h10)]) hx hb dX8_tallyDocuments_31 hl (k := 3) rfl e_z31.symm (by decide) rfl (fun ls hl => ?_)
          refine lv_goto (tgt := 4) hx hb dX8_tallyDocuments_34 (by decide) ?_
          have b_ : -2147483648 ≤ z28.toInt ∧ z28.toInt ≤ 2147483647 := ⟨zlo _, zhi _⟩
          have hc : va_P (dC, dI) vwCl [(h0, .inr (8, mX8 h1 (upd (upd (upd (upd (upd (upd (upd (upd v0 1 (u11_ 0)) 2 (u11_ 1)) 3 (u11_ 2)) 4 (u11_ 3)) 5 (u11_ 4)) 6 (u11_ 5)) 7 (u11_ 6)) 8 (u11_ 7)))), (h1, .inr (6, mX6 h2 h3 h4 h5 h6 h7 h8 h9 v1)), (h4, zi k4 833 f4), (h3, zi k3 833 f3), (h2, zi k2 1250 f2), (h5, zi k5 400 f5), (h6, zi k6 400 f6), (h7, zi k7 400 f7), (h10, .inr (0, mX0 h11 h12 h13 h14 v10)), (h11, zi k11 120 f11)] H ∧ va_D A [(h0, .inr (8, mX8 h1 (upd (upd (upd (upd (upd (upd (upd (upd v0 1 (u11_ 0)) 2 (u11_ 1)) 3 (u11_ 2)) 4 (u11_ 3)) 5 (u11_ 4)) 6 (u11_ 5)) 7 (u11_ 6)) 8 (u11_ 7)))), (h1, .inr (6, mX6 h2 h3 h4 h5 h6 h7 h8 h9 v1)), (h4, zi k4 833 f4), (h3, zi k3 833 f3), (h2, zi k2 1250 f2), (h5, zi k5 400 f5), (h6, zi k6 400 f6), (h7, zi k7 400 f7), (h10, .inr (0, mX0 h11 h12 h13 h14 v10)), (h11, zi k11 120 f11)] ∧ va_S A s.heap H locs ∧ lv_has ls 4 [(0, .ref h0), (1, .ref h10), (2, .int z28), (3, .int z31)] ∧ (0 ≤ z31.toInt ∧ z31.toInt ≤ 120) := ⟨hP, hD, hS, lv_sub hl [2, 3, 1, 0] rfl, (by first | with_reducible assumption | exact ⟨by omega, by omega⟩)⟩
          exact hJ4 H locs ls (fun i => ([z28, z31, (u11_ 0), (u11_ 1), (u11_ 2), (u11_ 3), (u11_ 4), (u11_ 5), (u11_ 6), (u11_ 7)] : List (Int32)).getD i 0) (fun _ => 0) (fun _ => (fun _ => 0)) (fun _ => (fun _ => 0)) hc (show (120 - z31.toInt).toNat < (120 - (u4_ 1).toInt).toNat from by omega)
  · skip
    have hc : va_P (dC, dI) vwCl [(h0, .inr (8, mX8 h1 (upd (upd (upd (upd (upd (upd (upd (upd v0 1 (v0 1)) 2 (v0 2)) 3 (v0 3)) 4 (v0 4)) 5 (v0 5)) 6 (v0 6)) 7 (v0 7)) 8 (v0 8)))), (h1, .inr (6, mX6 h2 h3 h4 h5 h6 h7 h8 h9 v1)), (h4, zi k4 833 f4), (h3, zi k3 833 f3), (h2, zi k2 1250 f2), (h5, zi k5 400 f5), (h6, zi k6 400 f6), (h7, zi k7 400 f7), (h10, .inr (0, mX0 h11 h12 h13 h14 v10)), (h11, zi k11 120 f11)] s.heap ∧ va_D A [(h0, .inr (8, mX8 h1 (upd (upd (upd (upd (upd (upd (upd (upd v0 1 (v0 1)) 2 (v0 2)) 3 (v0 3)) 4 (v0 4)) 5 (v0 5)) 6 (v0 6)) 7 (v0 7)) 8 (v0 8)))), (h1, .inr (6, mX6 h2 h3 h4 h5 h6 h7 h8 h9 v1)), (h4, zi k4 833 f4), (h3, zi k3 833 f3), (h2, zi k2 1250 f2), (h5, zi k5 400 f5), (h6, zi k6 400 f6), (h7, zi k7 400 f7), (h10, .inr (0, mX0 h11 h12 h13 h14 v10)), (h11, zi k11 120 f11)] ∧ va_S A s.heap s.heap [] ∧ lv_has ls 4 [(0, .ref h0), (1, .ref h10), (2, .int 0), (3, .int 0)] ∧ (0 ≤ (0 : Int32).toInt ∧ (0 : Int32).toInt ≤ 120) := ⟨hP, hD, hS, lv_sub hl [2, 3, 1, 0] rfl, (by first | with_reducible assumption | exact ⟨by omega, by omega⟩)⟩
    exact hJ4 s.heap [] ls (fun i => ([0, 0, (v0 1), (v0 2), (v0 3), (v0 4), (v0 5), (v0 6), (v0 7), (v0 8)] : List (Int32)).getD i 0) (fun _ => 0) (fun _ => (fun _ => 0)) (fun _ => (fun _ => 0)) hc
set_option maxHeartbeats 8000000 in
set_option maxRecDepth 100000 in
theorem sX8_tallyPlaces_0 (l : Launch) (dC : Nat → ClassId) (dI : Nat → Nat → Nat) (adK adV : Nat → Nat) (h0 : Nat) (h1 : Nat) (h4 : Nat) (h3 : Nat) (h2 : Nat) (h5 : Nat) (h6 : Nat) (h7 : Nat) (h10 : Nat) (h11 : Nat) (h8 : Nat) (h9 : Nat) (h12 : Nat) (h13 : Nat) (h14 : Nat) (k4 : ClassId) (k3 : ClassId) (k2 : ClassId) (k5 : ClassId) (k6 : ClassId) (k7 : ClassId) (k11 : ClassId) (sz : Nat) (v0 : Nat → Int32) (v1 : Nat → Int32) (f4 : Nat → Int32) (f3 : Nat → Int32) (f2 : Nat → Int32) (f5 : Nat → Int32) (f6 : Nat → Int32) (f7 : Nat → Int32) (v10 : Nat → Int32) (f11 : Nat → Int32) (hv1 : zR rg_Postings v1) (hf3 : zA 0 1250 f3) (hf6 : zA 0 832 f6) (hv10 : zR rg_Documents v10) : Met l yX8_tallyPlaces (zw yX8_tallyPlaces cX8_tallyPlaces 4 (some .int)) { frames := 4, cells := 0, slots := 0, locals := 88 } (zPc dC dI adK adV [.ref h0, .ref h10] sz [(h0, .inr (8, mX8 h1 v0)), (h1, .inr (6, mX6 h2 h3 h4 h5 h6 h7 h8 h9 v1)), (h4, zi k4 833 f4), (h3, zi k3 833 f3), (h2, zi k2 1250 f2), (h5, zi k5 400 f5), (h6, zi k6 400 f6), (h7, zi k7 400 f7), (h10, .inr (0, mX0 h11 h12 h13 h14 v10)), (h11, zi k11 120 f11)] [(k4, .int), (k3, .int), (k2, .int), (k5, .int), (k6, .int), (k7, .int), (k11, .boolean)]) (va_Qi (fun (r : Int32) (u : Nat → Int32) => True) (fun (u : Nat → Int32) (t : State) => ∃ (ww : Nat → Int64) (aa : Nat → Nat → Int32) (bb : Nat → Nat → Int64), va_P (dC, dI) vwCl [(h0, .inr (8, mX8 h1 (upd (upd (upd (upd (upd (upd (upd (upd v0 1 (u 0)) 2 (u 1)) 3 (u 2)) 4 (u 3)) 5 (u 4)) 6 (u 5)) 7 (u 6)) 8 (u 7)))), (h1, .inr (6, mX6 h2 h3 h4 h5 h6 h7 h8 h9 v1)), (h4, zi k4 833 f4), (h3, zi k3 833 f3), (h2, zi k2 1250 f2), (h5, zi k5 400 f5), (h6, zi k6 400 f6), (h7, zi k7 400 f7), (h10, .inr (0, mX0 h11 h12 h13 h14 v10)), (h11, zi k11 120 f11)] t.heap ∧ va_K (dC, dI) vwCl [(k4, .int), (k3, .int), (k2, .int), (k5, .int), (k6, .int), (k7, .int), (k11, .boolean)] t ∧ va_D (va_A [(h0, .inr (8, mX8 h1 v0)), (h1, .inr (6, mX6 h2 h3 h4 h5 h6 h7 h8 h9 v1)), (h4, zi k4 833 f4), (h3, zi k3 833 f3), (h2, zi k2 1250 f2), (h5, zi k5 400 f5), (h6, zi k6 400 f6), (h7, zi k7 400 f7), (h10, .inr (0, mX0 h11 h12 h13 h14 v10)), (h11, zi k11 120 f11)] sz) [(h0, .inr (8, mX8 h1 (upd (upd (upd (upd (upd (upd (upd (upd v0 1 (u 0)) 2 (u 1)) 3 (u 2)) 4 (u 3)) 5 (u 4)) 6 (u 5)) 7 (u 6)) 8 (u 7)))), (h1, .inr (6, mX6 h2 h3 h4 h5 h6 h7 h8 h9 v1)), (h4, zi k4 833 f4), (h3, zi k3 833 f3), (h2, zi k2 1250 f2), (h5, zi k5 400 f5), (h6, zi k6 400 f6), (h7, zi k7 400 f7), (h10, .inr (0, mX0 h11 h12 h13 h14 v10)), (h11, zi k11 120 f11)]) (va_A [(h0, .inr (8, mX8 h1 v0)), (h1, .inr (6, mX6 h2 h3 h4 h5 h6 h7 h8 h9 v1)), (h4, zi k4 833 f4), (h3, zi k3 833 f3), (h2, zi k2 1250 f2), (h5, zi k5 400 f5), (h6, zi k6 400 f6), (h7, zi k7 400 f7), (h10, .inr (0, mX0 h11 h12 h13 h14 v10)), (h11, zi k11 120 f11)] sz)) 0 0 (va_A [(h0, .inr (8, mX8 h1 v0)), (h1, .inr (6, mX6 h2 h3 h4 h5 h6 h7 h8 h9 v1)), (h4, zi k4 833 f4), (h3, zi k3 833 f3), (h2, zi k2 1250 f2), (h5, zi k5 400 f5), (h6, zi k6 400 f6), (h7, zi k7 400 f7), (h10, .inr (0, mX0 h11 h12 h13 h14 v10)), (h11, zi k11 120 f11)] sz) := by
  refine Met.ofW (cc := cX8_tallyPlaces) (maxL := 4) (ret := (some .int)) (by decide) rfl ?_
  intro p e s m args below meth c s₁ B hml hv
  obtain ⟨rfl, hsz, hP, hK, hD0, hE, hZ⟩ := hv
  have hx := B.exec
  have hb := B.bytes
  have hr := B.returns
  have hG : ∀ w ∈ zG, w.before _ s = true := fun w h => atoms_spec (ws := (zw yX8_tallyPlaces cX8_tallyPlaces 4 (some .int))) B.pre w (List.mem_cons_of_mem _ h)
  have hown : s.vm.findClass RX8 = some m.cls := findClass_of_methodNamed B.named
  have hlocks := B.notSynchronized

  subst hsz
  have hD := hD0.self (sz := s.heap.size)
  generalize hAe : va_A [(h0, .inr (8, mX8 h1 v0)), (h1, .inr (6, mX6 h2 h3 h4 h5 h6 h7 h8 h9 v1)), (h4, zi k4 833 f4), (h3, zi k3 833 f3), (h2, zi k2 1250 f2), (h5, zi k5 400 f5), (h6, zi k6 400 f6), (h7, zi k7 400 f7), (h10, .inr (0, mX0 h11 h12 h13 h14 v10)), (h11, zi k11 120 f11)] s.heap.size = A at hD hZ ⊢
  have hA : ∀ q : Nat, s.heap.size ≤ q → A q := fun q h => by rw [← hAe]; exact Or.inr h
  have hS : va_S A s.heap s.heap [] := va_S.rf
  have hl := lv_entry ([.ref h0, .ref h10]) (n := 4) (Nat.le_of_ble_eq_true rfl)
  rw [lg_entry_eq]
  generalize (lg_sl ([.ref h0, .ref h10]) ++ List.replicate (4 - (lg_sl ([.ref h0, .ref h10])).length) Slot.unset).toArray = ls at hl ⊢
  have hl : lv_has ls 4 [(0, .ref h0), (1, .ref h10)] := hl
  have b_ := zk_0
  refine lv_iconst (v := 0) hx hb dX8_tallyPlaces_0 (by decide) ?_
  refine lv_istore_n (lv' := [(2, .int 0), (0, .ref h0), (1, .ref h10)]) hx hb dX8_tallyPlaces_1 rfl hl (by decide) rfl (fun ls hl => ?_)
  refine lv_iconst (v := 0) hx hb dX8_tallyPlaces_2 (by decide) ?_
  refine lv_istore_n (lv' := [(3, .int 0), (2, .int 0), (0, .ref h0), (1, .ref h10)]) hx hb dX8_tallyPlaces_3 rfl hl (by decide) rfl (fun ls hl => ?_)
  refine zcutL (fun u4_ => (120 - (u4_ 1).toInt).toNat) (fun H locs ls u4_ w4_ a4_ b4_ => va_P (dC, dI) vwCl [(h0, .inr (8, mX8 h1 (upd (upd (upd (upd (upd (upd (upd (upd v0 1 (u4_ 2)) 2 (u4_ 3)) 3 (u4_ 4)) 4 (u4_ 5)) 5 (u4_ 6)) 6 (u4_ 7)) 7 (u4_ 8)) 8 (u4_ 9)))), (h1, .inr (6, mX6 h2 h3 h4 h5 h6 h7 h8 h9 v1)), (h4, zi k4 833 f4), (h3, zi k3 833 f3), (h2, zi k2 1250 f2), (h5, zi k5 400 f5), (h6, zi k6 400 f6), (h7, zi k7 400 f7), (h10, .inr (0, mX0 h11 h12 h13 h14 v10)), (h11, zi k11 120 f11)] H ∧ va_D A [(h0, .inr (8, mX8 h1 (upd (upd (upd (upd (upd (upd (upd (upd v0 1 (u4_ 2)) 2 (u4_ 3)) 3 (u4_ 4)) 4 (u4_ 5)) 5 (u4_ 6)) 6 (u4_ 7)) 7 (u4_ 8)) 8 (u4_ 9)))), (h1, .inr (6, mX6 h2 h3 h4 h5 h6 h7 h8 h9 v1)), (h4, zi k4 833 f4), (h3, zi k3 833 f3), (h2, zi k2 1250 f2), (h5, zi k5 400 f5), (h6, zi k6 400 f6), (h7, zi k7 400 f7), (h10, .inr (0, mX0 h11 h12 h13 h14 v10)), (h11, zi k11 120 f11)] ∧ va_S A s.heap H locs ∧ lv_has ls 4 [(0, .ref h0), (1, .ref h10), (2, .int (u4_ 0)), (3, .int (u4_ 1))] ∧ (0 ≤ (u4_ 1).toInt ∧ (u4_ 1).toInt ≤ 120)) (fun ls u4_ w4_ => F0 m 4 ls []) 0 0 ?_ (fun hJ4 => ?_)
  · skip
    intro H locs ls u4_ w4_ a4_ b4_ hc hJ4
    obtain ⟨hP, hD, hS, hl, b_⟩ := hc
    refine lv_iload_n hx hb dX8_tallyPlaces_4 rfl (lv_at hl 3 rfl) ?_
    refine lv_bipush (v := 120) hx hb dX8_tallyPlaces_5 (by decide) ?_
    refine lv_icmp_ge (tgt := 41) hx hb dX8_tallyPlaces_7 (by decide) (fun c_ => ?_) (fun c_ => ?_)
    · skip
      have b_ := zT_ge rfl zk_120 c_
      refine lv_iload_n hx hb dX8_tallyPlaces_41 rfl (lv_at hl 2 rfl) ?_
      refine W.widen (k := 0) (n := 0) (by decide) (by decide) ?_
      have b_ : -2147483648 ≤ (u4_ 0).toInt ∧ (u4_ 0).toInt ≤ 2147483647 := ⟨zlo _, zhi _⟩
      have b_ : -2147483648 ≤ (u4_ 2).toInt ∧ (u4_ 2).toInt ≤ 2147483647 := ⟨zlo _, zhi _⟩
      have b_ : -2147483648 ≤ (u4_ 3).toInt ∧ (u4_ 3).toInt ≤ 2147483647 := ⟨zlo _, zhi _⟩
      have b_ : -2147483648 ≤ (u4_ 4).toInt ∧ (u4_ 4).toInt ≤ 2147483647 := ⟨zlo _, zhi _⟩
      have b_ : -2147483648 ≤ (u4_ 5).toInt ∧ (u4_ 5).toInt ≤ 2147483647 := ⟨zlo _, zhi _⟩
      have b_ : -2147483648 ≤ (u4_ 6).toInt ∧ (u4_ 6).toInt ≤ 2147483647 := ⟨zlo _, zhi _⟩
      have b_ : -2147483648 ≤ (u4_ 7).toInt ∧ (u4_ 7).toInt ≤ 2147483647 := ⟨zlo _, zhi _⟩
      have b_ : -2147483648 ≤ (u4_ 8).toInt ∧ (u4_ 8).toInt ≤ 2147483647 := ⟨zlo _, zhi _⟩
      have b_ : -2147483648 ≤ (u4_ 9).toInt ∧ (u4_ 9).toInt ≤ 2147483647 := ⟨zlo _, zhi _⟩
      have hpost : True := trivial
      have hP9 : va_P (dC, dI) vwCl [(h0, .inr (8, mX8 h1 (upd (upd (upd (upd (upd (upd (upd (upd v0 1 (u4_ 2)) 2 (u4_ 3)) 3 (u4_ 4)) 4 (u4_ 5)) 5 (u4_ 6)) 6 (u4_ 7)) 7 (u4_ 8)) 8 (u4_ 9)))), (h1, .inr (6, mX6 h2 h3 h4 h5 h6 h7 h8 h9 v1)), (h4, zi k4 833 f4), (h3, zi k3 833 f3), (h2, zi k2 1250 f2), (h5, zi k5 400 f5), (h6, zi k6 400 f6), (h7, zi k7 400 f7), (h10, .inr (0, mX0 h11 h12 h13 h14 v10)), (h11, zi k11 120 f11)] H := hP
      have hD9 : va_D A [(h0, .inr (8, mX8 h1 (upd (upd (upd (upd (upd (upd (upd (upd v0 1 (u4_ 2)) 2 (u4_ 3)) 3 (u4_ 4)) 4 (u4_ 5)) 5 (u4_ 6)) 6 (u4_ 7)) 7 (u4_ 8)) 8 (u4_ 9)))), (h1, .inr (6, mX6 h2 h3 h4 h5 h6 h7 h8 h9 v1)), (h4, zi k4 833 f4), (h3, zi k3 833 f3), (h2, zi k2 1250 f2), (h5, zi k5 400 f5), (h6, zi k6 400 f6), (h7, zi k7 400 f7), (h10, .inr (0, mX0 h11 h12 h13 h14 v10)), (h11, zi k11 120 f11)] := hD
      exact W.iret (v := (u4_ 0)) hx hb hr (fun t ht hW => ⟨⟨(u4_ 0), (fun i => ([(u4_ 2), (u4_ 3), (u4_ 4), (u4_ 5), (u4_ 6), (u4_ 7), (u4_ 8), (u4_ 9)] : List (Int32)).getD i 0), rfl, hpost, (fun _ => 0), (fun _ => (fun _ => 0)), (fun _ => (fun _ => 0)), by rw [ht]; exact hP9, va_K.moved hW.alike hK, hD9⟩, hS.F ht⟩) hS.2.2 dX8_tallyPlaces_42
    · skip
      have b_ := zF_ge rfl zk_120 c_
      refine lv_aload_n hx hb dX8_tallyPlaces_10 rfl (lv_at hl 0 rfl) ?_
      have b_ : -2147483648 ≤ (u4_ 2).toInt ∧ (u4_ 2).toInt ≤ 2147483647 := ⟨zlo _, zhi _⟩
      have b_ : -2147483648 ≤ (u4_ 3).toInt ∧ (u4_ 3).toInt ≤ 2147483647 := ⟨zlo _, zhi _⟩
      have b_ : -2147483648 ≤ (u4_ 4).toInt ∧ (u4_ 4).toInt ≤ 2147483647 := ⟨zlo _, zhi _⟩
      have b_ : -2147483648 ≤ (u4_ 5).toInt ∧ (u4_ 5).toInt ≤ 2147483647 := ⟨zlo _, zhi _⟩
      have b_ : -2147483648 ≤ (u4_ 6).toInt ∧ (u4_ 6).toInt ≤ 2147483647 := ⟨zlo _, zhi _⟩
      have b_ : -2147483648 ≤ (u4_ 7).toInt ∧ (u4_ 7).toInt ≤ 2147483647 := ⟨zlo _, zhi _⟩
      have b_ : -2147483648 ≤ (u4_ 8).toInt ∧ (u4_ 8).toInt ≤ 2147483647 := ⟨zlo _, zhi _⟩
      have b_ : -2147483648 ≤ (u4_ 9).toInt ∧ (u4_ 9).toInt ≤ 2147483647 := ⟨zlo _, zhi _⟩
      have hPc := hP.sub (ws' := [(h0, .inr (8, mX8 h1 (upd (upd (upd (upd (upd (upd (upd (upd v0 1 (u4_ 2)) 2 (u4_ 3)) 3 (u4_ 4)) 4 (u4_ 5)) 5 (u4_ 6)) 6 (u4_ 7)) 7 (u4_ 8)) 8 (u4_ 9)))), (h1, .inr (6, mX6 h2 h3 h4 h5 h6 h7 h8 h9 v1)), (h4, zi k4 833 f4), (h3, zi k3 833 f3), (h2, zi k2 1250 f2), (h5, zi k5 400 f5), (h6, zi k6 400 f6), (h7, zi k7 400 f7)]) [0, 1, 2, 3, 4, 5, 6, 7] rfl
      have hDc := hD.sub (ws' := [(h0, .inr (8, mX8 h1 (upd (upd (upd (upd (upd (upd (upd (upd v0 1 (u4_ 2)) 2 (u4_ 3)) 3 (u4_ 4)) 4 (u4_ 5)) 5 (u4_ 6)) 6 (u4_ 7)) 7 (u4_ 8)) 8 (u4_ 9)))), (h1, .inr (6, mX6 h2 h3 h4 h5 h6 h7 h8 h9 v1)), (h4, zi k4 833 f4), (h3, zi k3 833 f3), (h2, zi k2 1250 f2), (h5, zi k5 400 f5), (h6, zi k6 400 f6), (h7, zi k7 400 f7)]) [0, 1, 2, 3, 4, 5, 6, 7] (by decide) rfl
      have hKc := hK.sub (tys' := [(k4, .int), (k3, .int), (k2, .int), (k5, .int), (k6, .int), (k7, .int)]) [0, 1, 2, 3, 4, 5] rfl
      have hFc := va_free (wc := [(h0, .inr (8, mX8 h1 (upd (upd (upd (upd (upd (upd (upd (upd v0 1 (u4_ 2)) 2 (u4_ 3)) 3 (u4_ 4)) 4 (u4_ 5)) 5 (u4_ 6)) 6 (u4_ 7)) 7 (u4_ 8)) 8 (u4_ 9)))), (h1, .inr (6, mX6 h2 h3 h4 h5 h6 h7 h8 h9 v1)), (h4, zi k4 833 f4), (h3, zi k3 833 f3), (h2, zi k2 1250 f2), (h5, zi k5 400 f5), (h6, zi k6 400 f6), (h7, zi k7 400 f7)]) hD hS hA [0, 1, 2, 3, 4, 5, 6, 7] rfl
      refine va_calli (va_runV (As := []) (rest := []) ⟨hx, hb, hml, hown, hG⟩ (sX8_nextDocument_0 l dC dI adK adV h0 h1 h4 h3 h2 h5 h6 h7 h8 h9 k4 k3 k2 k5 k6 k7 H.size (upd (upd (upd (upd (upd (upd (upd (upd v0 1 (u4_ 2)) 2 (u4_ 3)) 3 (u4_ 4)) 4 (u4_ 5)) 5 (u4_ 6)) 6 (u4_ 7)) 7 (u4_ 8)) 8 (u4_ 9)) v1 f4 f3 f2 f5 f6 f7 hv1 hf3 hf6) (cwV 0 hG (zgV zv983 zv911 zv912 zv134 zv913) rfl rfl rfl (by decide +kernel) ⟨Nat.le_of_ble_eq_true rfl, Nat.le_of_ble_eq_true rfl⟩) ⟨zPc_blind, va_recv hKc hPc (ci := 8) (q0 := 0) rfl rfl, zPc_pre hPc hKc hDc hE hS hFc hZ⟩ rfl rfl hl.1 rfl (lv_room (Nat.le_of_ble_eq_true rfl)) dX8_tallyPlaces_11 ⟨Nat.le_of_ble_eq_true rfl, Nat.le_of_ble_eq_true rfl⟩) hS (fun q _ h => hFc q h) hFc (fun r11_ u11_ t H1 locs ht hvm hw hB hz1 hk1 hS => ?_)
      replace hw : (0 ≤ r11_.toInt ∧ r11_.toInt ≤ 1) ∧ (zNo f2 f3 f4 f5 f6 f7 (v1 8).toInt (v1 9).toInt (v1 10).toInt (v1 11).toInt (u4_ 2).toInt (u4_ 3).toInt (u4_ 4).toInt (u4_ 5).toInt (u11_ 0).toInt (u11_ 1).toInt (u11_ 2).toInt (u11_ 3).toInt (u4_ 8).toInt (u4_ 6).toInt (u11_ 4).toInt (u11_ 5).toInt (u11_ 6).toInt (u11_ 7).toInt r11_.toInt) ∧ (r11_.toInt = 0 → (u11_ 4).toInt = 120) := hw
      obtain ⟨b_, hX11_0, hX11_1⟩ := hw
      obtain ⟨w11_, a11_, b11_, hP1, hK1, hD1⟩ := hB
      rw [ht] at hP1
      obtain ⟨hP, hD⟩ := va_join (wr := [(h10, .inr (0, mX0 h11 h12 h13 h14 v10)), (h11, zi k11 120 f11)]) (w1 := [(h0, .inr (8, mX8 h1 (upd (upd (upd (upd (upd (upd (upd (upd v0 1 (u11_ 0)) 2 (u11_ 1)) 3 (u11_ 2)) 4 (u11_ 3)) 5 (u11_ 4)) 6 (u11_ 5)) 7 (u11_ 6)) 8 (u11_ 7)))), (h1, .inr (6, mX6 h2 h3 h4 h5 h6 h7 h8 h9 v1)), (h4, zi k4 833 f4), (h3, zi k3 833 f3), (h2, zi k2 1250 f2), (h5, zi k5 400 f5), (h6, zi k6 400 f6), (h7, zi k7 400 f7)]) hP hD [0, 1, 2, 3, 4, 5, 6, 7] [8, 9] rfl rfl (by decide) (by decide) hk1 hFc hP1 hD1
      have hP : va_P (dC, dI) vwCl [(h0, .inr (8, mX8 h1 (upd (upd (upd (upd (upd (upd (upd (upd v0 1 (u11_ 0)) 2 (u11_ 1)) 3 (u11_ 2)) 4 (u11_ 3)) 5 (u11_ 4)) 6 (u11_ 5)) 7 (u11_ 6)) 8 (u11_ 7)))), (h1, .inr (6, mX6 h2 h3 h4 h5 h6 h7 h8 h9 v1)), (h4, zi k4 833 f4), (h3, zi k3 833 f3), (h2, zi k2 1250 f2), (h5, zi k5 400 f5), (h6, zi k6 400 f6), (h7, zi k7 400 f7), (h10, .inr (0, mX0 h11 h12 h13 h14 v10)), (h11, zi k11 120 f11)] H1 := hP.sub [2, 3, 4, 5, 6, 7, 8, 9, 0, 1] rfl
      have hD : va_D A [(h0, .inr (8, mX8 h1 (upd (upd (upd (upd (upd (upd (upd (upd v0 1 (u11_ 0)) 2 (u11_ 1)) 3 (u11_ 2)) 4 (u11_ 3)) 5 (u11_ 4)) 6 (u11_ 5)) 7 (u11_ 6)) 8 (u11_ 7)))), (h1, .inr (6, mX6 h2 h3 h4 h5 h6 h7 h8 h9 v1)), (h4, zi k4 833 f4), (h3, zi k3 833 f3), (h2, zi k2 1250 f2), (h5, zi k5 400 f5), (h6, zi k6 400 f6), (h7, zi k7 400 f7), (h10, .inr (0, mX0 h11 h12 h13 h14 v10)), (h11, zi k11 120 f11)] := hD.sub [2, 3, 4, 5, 6, 7, 8, 9, 0, 1] (by decide) rfl
      generalize H1 = H at hP hS ⊢
      clear hz1
      refine lv_if_eq (tgt := 41) hx hb dX8_tallyPlaces_14 (by decide) (fun c_ => ?_) (fun c_ => ?_)
      · skip
        have b_ := zT_eq rfl zk_0 c_
        refine lv_iload_n hx hb dX8_tallyPlaces_41 rfl (lv_at hl 2 rfl) ?_
        refine W.widen (k := 0) (n := 0) (by decide) (by decide) ?_
        have b_ : -2147483648 ≤ (u4_ 0).toInt ∧ (u4_ 0).toInt ≤ 2147483647 := ⟨zlo _, zhi _⟩
        have b_ : -2147483648 ≤ (u11_ 0).toInt ∧ (u11_ 0).toInt ≤ 2147483647 := ⟨zlo _, zhi _⟩
        have b_ : -2147483648 ≤ (u11_ 1).toInt ∧ (u11_ 1).toInt ≤ 2147483647 := ⟨zlo _, zhi _⟩
        have b_ : -2147483648 ≤ (u11_ 2).toInt ∧ (u11_ 2).toInt ≤ 2147483647 := ⟨zlo _, zhi _⟩
        have b_ : -2147483648 ≤ (u11_ 3).toInt ∧ (u11_ 3).toInt ≤ 2147483647 := ⟨zlo _, zhi _⟩
        have b_ : -2147483648 ≤ (u11_ 4).toInt ∧ (u11_ 4).toInt ≤ 2147483647 := ⟨zlo _, zhi _⟩
        have b_ : -2147483648 ≤ (u11_ 5).toInt ∧ (u11_ 5).toInt ≤ 2147483647 := ⟨zlo _, zhi _⟩
        have b_ : -2147483648 ≤ (u11_ 6).toInt ∧ (u11_ 6).toInt ≤ 2147483647 := ⟨zlo _, zhi _⟩
        have b_ : -2147483648 ≤ (u11_ 7).toInt ∧ (u11_ 7).toInt ≤ 2147483647 := ⟨zlo _, zhi _⟩
        have hpost : True := trivial
        have hP9 : va_P (dC, dI) vwCl [(h0, .inr (8, mX8 h1 (upd (upd (upd (upd (upd (upd (upd (upd v0 1 (u11_ 0)) 2 (u11_ 1)) 3 (u11_ 2)) 4 (u11_ 3)) 5 (u11_ 4)) 6 (u11_ 5)) 7 (u11_ 6)) 8 (u11_ 7)))), (h1, .inr (6, mX6 h2 h3 h4 h5 h6 h7 h8 h9 v1)), (h4, zi k4 833 f4), (h3, zi k3 833 f3), (h2, zi k2 1250 f2), (h5, zi k5 400 f5), (h6, zi k6 400 f6), (h7, zi k7 400 f7), (h10, .inr (0, mX0 h11 h12 h13 h14 v10)), (h11, zi k11 120 f11)] H := hP
        have hD9 : va_D A [(h0, .inr (8, mX8 h1 (upd (upd (upd (upd (upd (upd (upd (upd v0 1 (u11_ 0)) 2 (u11_ 1)) 3 (u11_ 2)) 4 (u11_ 3)) 5 (u11_ 4)) 6 (u11_ 5)) 7 (u11_ 6)) 8 (u11_ 7)))), (h1, .inr (6, mX6 h2 h3 h4 h5 h6 h7 h8 h9 v1)), (h4, zi k4 833 f4), (h3, zi k3 833 f3), (h2, zi k2 1250 f2), (h5, zi k5 400 f5), (h6, zi k6 400 f6), (h7, zi k7 400 f7), (h10, .inr (0, mX0 h11 h12 h13 h14 v10)), (h11, zi k11 120 f11)] := hD
        exact W.iret (v := (u4_ 0)) hx hb hr (fun t ht hW => ⟨⟨(u4_ 0), (fun i => ([(u11_ 0), (u11_ 1), (u11_ 2), (u11_ 3), (u11_ 4), (u11_ 5), (u11_ 6), (u11_ 7)] : List (Int32)).getD i 0), rfl, hpost, (fun _ => 0), (fun _ => (fun _ => 0)), (fun _ => (fun _ => 0)), by rw [ht]; exact hP9, va_K.moved hW.alike hK, hD9⟩, hS.F ht⟩) hS.2.2 dX8_tallyPlaces_42
      · skip
        have b_ := zF_eq rfl zk_0 c_
        refine lv_aload_n hx hb dX8_tallyPlaces_17 rfl (lv_at hl 1 rfl) ?_
        refine lv_aload_n hx hb dX8_tallyPlaces_18 rfl (lv_at hl 0 rfl) ?_
        refine va_get (D := (dC, dI)) (ci := 8) (v := .int (u11_ 4)) (C := RX8) (T := TX8) (N := 9) hx hb hG zuX8 hown hK hP 0 rfl rfl 5 (by decide) (hG _ zv296) (fun _ h9 => h9) rfl dX8_tallyPlaces_19 ?_
        have hPc := hP.sub (ws' := [(h10, .inr (0, mX0 h11 h12 h13 h14 v10)), (h11, zi k11 120 f11)]) [8, 9] rfl
        have hDc := hD.sub (ws' := [(h10, .inr (0, mX0 h11 h12 h13 h14 v10)), (h11, zi k11 120 f11)]) [8, 9] (by decide) rfl
        have hKc := hK.sub (tys' := [(k11, .boolean)]) [6] rfl
        have hFc := va_free (wc := [(h10, .inr (0, mX0 h11 h12 h13 h14 v10)), (h11, zi k11 120 f11)]) hD hS hA [8, 9] rfl
        refine va_calli (va_runV (As := [.int (u11_ 4)]) (rest := []) ⟨hx, hb, hml, hown, hG⟩ (sX0_isOn_0 l dC dI adK adV h10 h11 h12 h13 h14 k11 H.size v10 f11 (u11_ 4) hv10) (cwV 1 hG (zgV zv984 zv872 zv873 zv132 zv874) rfl rfl rfl (by decide +kernel) ⟨Nat.le_of_ble_eq_true rfl, Nat.le_of_ble_eq_true rfl⟩) ⟨zPc_blind, va_recv hKc hPc (ci := 0) (q0 := 0) rfl rfl, zPc_pre hPc hKc hDc hE hS hFc hZ⟩ rfl rfl hl.1 rfl (lv_room (Nat.le_of_ble_eq_true rfl)) dX8_tallyPlaces_22 ⟨Nat.le_of_ble_eq_true rfl, Nat.le_of_ble_eq_true rfl⟩) hS (fun q _ h => hFc q h) hFc (fun r22_ u22_ t H1 locs ht hvm hw hB hz1 hk1 hS => ?_)
        replace hw : (0 ≤ r22_.toInt ∧ r22_.toInt ≤ 1) ∧ (r22_.toInt = 1 → (0 ≤ (u11_ 4).toInt ∧ (u11_ 4).toInt ≤ 119)) ∧ (r22_.toInt = 1 → (u11_ 4).toInt < (v10 4).toInt) ∧ (zIo f11 (v10 4).toInt ((u11_ 4) : Int32) r22_.toInt) := hw
        obtain ⟨b_, hX22_0, hX22_1, hX22_2⟩ := hw
        obtain ⟨w22_, a22_, b22_, hP1, hK1, hD1⟩ := hB
        rw [ht] at hP1
        obtain ⟨hP, hD⟩ := va_join (wr := [(h0, .inr (8, mX8 h1 (upd (upd (upd (upd (upd (upd (upd (upd v0 1 (u11_ 0)) 2 (u11_ 1)) 3 (u11_ 2)) 4 (u11_ 3)) 5 (u11_ 4)) 6 (u11_ 5)) 7 (u11_ 6)) 8 (u11_ 7)))), (h1, .inr (6, mX6 h2 h3 h4 h5 h6 h7 h8 h9 v1)), (h4, zi k4 833 f4), (h3, zi k3 833 f3), (h2, zi k2 1250 f2), (h5, zi k5 400 f5), (h6, zi k6 400 f6), (h7, zi k7 400 f7)]) (w1 := [(h10, .inr (0, mX0 h11 h12 h13 h14 v10)), (h11, zi k11 120 f11)]) hP hD [8, 9] [0, 1, 2, 3, 4, 5, 6, 7] rfl rfl (by decide) (by decide) hk1 hFc hP1 hD1
        have hP : va_P (dC, dI) vwCl [(h0, .inr (8, mX8 h1 (upd (upd (upd (upd (upd (upd (upd (upd v0 1 (u11_ 0)) 2 (u11_ 1)) 3 (u11_ 2)) 4 (u11_ 3)) 5 (u11_ 4)) 6 (u11_ 5)) 7 (u11_ 6)) 8 (u11_ 7)))), (h1, .inr (6, mX6 h2 h3 h4 h5 h6 h7 h8 h9 v1)), (h4, zi k4 833 f4), (h3, zi k3 833 f3), (h2, zi k2 1250 f2), (h5, zi k5 400 f5), (h6, zi k6 400 f6), (h7, zi k7 400 f7), (h10, .inr (0, mX0 h11 h12 h13 h14 v10)), (h11, zi k11 120 f11)] H1 := hP.sub [0, 1, 2, 3, 4, 5, 6, 7, 8, 9] rfl
        have hD : va_D A [(h0, .inr (8, mX8 h1 (upd (upd (upd (upd (upd (upd (upd (upd v0 1 (u11_ 0)) 2 (u11_ 1)) 3 (u11_ 2)) 4 (u11_ 3)) 5 (u11_ 4)) 6 (u11_ 5)) 7 (u11_ 6)) 8 (u11_ 7)))), (h1, .inr (6, mX6 h2 h3 h4 h5 h6 h7 h8 h9 v1)), (h4, zi k4 833 f4), (h3, zi k3 833 f3), (h2, zi k2 1250 f2), (h5, zi k5 400 f5), (h6, zi k6 400 f6), (h7, zi k7 400 f7), (h10, .inr (0, mX0 h11 h12 h13 h14 v10)), (h11, zi k11 120 f11)] := hD.sub [0, 1, 2, 3, 4, 5, 6, 7, 8, 9] (by decide) rfl
        generalize H1 = H at hP hS ⊢
        clear hz1
        refine lv_if_eq (tgt := 35) hx hb dX8_tallyPlaces_25 (by decide) (fun c_ => ?_) (fun c_ => ?_)
        · skip
          have b_ := zT_eq rfl zk_0 c_
          obtain ⟨z35, e_z35⟩ : ∃ z : Int32, z = (u4_ 1) + Int32.ofInt 1 := ⟨_, rfl⟩
          have b_ := zadd (x := (u4_ 1)) (y := Int32.ofInt 1) rfl (show (Int32.ofInt 1).toInt = 1 from by decide) e_z35 (by omega) (by omega)
          refine lv_iinc (v := z35) (lv' := [(3, .int z35), (0, .ref h0), (1, .ref h10), (2, .int (u4_ 0))]) hx hb dX8_tallyPlaces_35 hl (k := 3) rfl e_z35.symm (by decide) rfl (fun ls hl => ?_)
          refine lv_goto (tgt := 4) hx hb dX8_tallyPlaces_38 (by decide) ?_
          have b_ : -2147483648 ≤ (u4_ 0).toInt ∧ (u4_ 0).toInt ≤ 2147483647 := ⟨zlo _, zhi _⟩
          have hc : va_P (dC, dI) vwCl [(h0, .inr (8, mX8 h1 (upd (upd (upd (upd (upd (upd (upd (upd v0 1 (u11_ 0)) 2 (u11_ 1)) 3 (u11_ 2)) 4 (u11_ 3)) 5 (u11_ 4)) 6 (u11_ 5)) 7 (u11_ 6)) 8 (u11_ 7)))), (h1, .inr (6, mX6 h2 h3 h4 h5 h6 h7 h8 h9 v1)), (h4, zi k4 833 f4), (h3, zi k3 833 f3), (h2, zi k2 1250 f2), (h5, zi k5 400 f5), (h6, zi k6 400 f6), (h7, zi k7 400 f7), (h10, .inr (0, mX0 h11 h12 h13 h14 v10)), (h11, zi k11 120 f11)] H ∧ va_D A [(h0, .inr (8, mX8 h1 (upd (upd (upd (upd (upd (upd (upd (upd v0 1 (u11_ 0)) 2 (u11_ 1)) 3 (u11_ 2)) 4 (u11_ 3)) 5 (u11_ 4)) 6 (u11_ 5)) 7 (u11_ 6)) 8 (u11_ 7)))), (h1, .inr (6, mX6 h2 h3 h4 h5 h6 h7 h8 h9 v1)), (h4, zi k4 833 f4), (h3, zi k3 833 f3), (h2, zi k2 1250 f2), (h5, zi k5 400 f5), (h6, zi k6 400 f6), (h7, zi k7 400 f7), (h10, .inr (0, mX0 h11 h12 h13 h14 v10)), (h11, zi k11 120 f11)] ∧ va_S A s.heap H locs ∧ lv_has ls 4 [(0, .ref h0), (1, .ref h10), (2, .int (u4_ 0)), (3, .int z35)] ∧ (0 ≤ z35.toInt ∧ z35.toInt ≤ 120) := ⟨hP, hD, hS, lv_sub hl [1, 2, 3, 0] rfl, (by first | with_reducible assumption | exact ⟨by omega, by omega⟩)⟩
          exact hJ4 H locs ls (fun i => ([(u4_ 0), z35, (u11_ 0), (u11_ 1), (u11_ 2), (u11_ 3), (u11_ 4), (u11_ 5), (u11_ 6), (u11_ 7)] : List (Int32)).getD i 0) (fun _ => 0) (fun _ => (fun _ => 0)) (fun _ => (fun _ => 0)) hc (show (120 - z35.toInt).toNat < (120 - (u4_ 1).toInt).toNat from by omega)
        · skip
          have b_ := zF_eq rfl zk_0 c_
          refine lv_iload_n hx hb dX8_tallyPlaces_28 rfl (lv_at hl 2 rfl) ?_
          refine lv_aload_n hx hb dX8_tallyPlaces_29 rfl (lv_at hl 0 rfl) ?_
          refine va_get (D := (dC, dI)) (ci := 8) (v := .int (u11_ 5)) (C := RX8) (T := TX8) (N := 9) hx hb hG zuX8 hown hK hP 0 rfl rfl 6 (by decide) (hG _ zv297) (fun _ h9 => h9) rfl dX8_tallyPlaces_30 ?_
          have b_ : -2147483648 ≤ (u4_ 0).toInt ∧ (u4_ 0).toInt ≤ 2147483647 := ⟨zlo _, zhi _⟩
          have b_ : -2147483648 ≤ (u11_ 5).toInt ∧ (u11_ 5).toInt ≤ 2147483647 := ⟨zlo _, zhi _⟩
          refine lv_iadd hx hb dX8_tallyPlaces_33 ?_
          refine lv_topi (fun z33 e_z33 => ?_)
          refine lv_istore_n (lv' := [(2, .int z33), (0, .ref h0), (1, .ref h10), (3, .int (u4_ 1))]) hx hb dX8_tallyPlaces_34 rfl hl (by decide) rfl (fun ls hl => ?_)
          obtain ⟨z35, e_z35⟩ : ∃ z : Int32, z = (u4_ 1) + Int32.ofInt 1 := ⟨_, rfl⟩
          have b_ := zadd (x := (u4_ 1)) (y := Int32.ofInt 1) rfl (show (Int32.ofInt 1).toInt = 1 from by decide) e_z35 (by omega) (by omega)
          refine lv_iinc (v := z35) (lv' := [(3, .int z35), (2, .int z33), (0, .ref h0), (1, .ref h10)]) hx hb dX8_tallyPlaces_35 hl (k := 3) rfl e_z35.symm (by decide) rfl (fun ls hl => ?_)
          refine lv_goto (tgt := 4) hx hb dX8_tallyPlaces_38 (by decide) ?_
          have b_ : -2147483648 ≤ z33.toInt ∧ z33.toInt ≤ 2147483647 := ⟨zlo _, zhi _⟩
          have hc : va_P (dC, dI) vwCl [(h0, .inr (8, mX8 h1 (upd (upd (upd (upd (upd (upd (upd (upd v0 1 (u11_ 0)) 2 (u11_ 1)) 3 (u11_ 2)) 4 (u11_ 3)) 5 (u11_ 4)) 6 (u11_ 5)) 7 (u11_ 6)) 8 (u11_ 7)))), (h1, .inr (6, mX6 h2 h3 h4 h5 h6 h7 h8 h9 v1)), (h4, zi k4 833 f4), (h3, zi k3 833 f3), (h2, zi k2 1250 f2), (h5, zi k5 400 f5), (h6, zi k6 400 f6), (h7, zi k7 400 f7), (h10, .inr (0, mX0 h11 h12 h13 h14 v10)), (h11, zi k11 120 f11)] H ∧ va_D A [(h0, .inr (8, mX8 h1 (upd (upd (upd (upd (upd (upd (upd (upd v0 1 (u11_ 0)) 2 (u11_ 1)) 3 (u11_ 2)) 4 (u11_ 3)) 5 (u11_ 4)) 6 (u11_ 5)) 7 (u11_ 6)) 8 (u11_ 7)))), (h1, .inr (6, mX6 h2 h3 h4 h5 h6 h7 h8 h9 v1)), (h4, zi k4 833 f4), (h3, zi k3 833 f3), (h2, zi k2 1250 f2), (h5, zi k5 400 f5), (h6, zi k6 400 f6), (h7, zi k7 400 f7), (h10, .inr (0, mX0 h11 h12 h13 h14 v10)), (h11, zi k11 120 f11)] ∧ va_S A s.heap H locs ∧ lv_has ls 4 [(0, .ref h0), (1, .ref h10), (2, .int z33), (3, .int z35)] ∧ (0 ≤ z35.toInt ∧ z35.toInt ≤ 120) := ⟨hP, hD, hS, lv_sub hl [2, 3, 1, 0] rfl, (by first | with_reducible assumption | exact ⟨by omega, by omega⟩)⟩
          exact hJ4 H locs ls (fun i => ([z33, z35, (u11_ 0), (u11_ 1), (u11_ 2), (u11_ 3), (u11_ 4), (u11_ 5), (u11_ 6), (u11_ 7)] : List (Int32)).getD i 0) (fun _ => 0) (fun _ => (fun _ => 0)) (fun _ => (fun _ => 0)) hc (show (120 - z35.toInt).toNat < (120 - (u4_ 1).toInt).toNat from by omega)
  · skip
    have hc : va_P (dC, dI) vwCl [(h0, .inr (8, mX8 h1 (upd (upd (upd (upd (upd (upd (upd (upd v0 1 (v0 1)) 2 (v0 2)) 3 (v0 3)) 4 (v0 4)) 5 (v0 5)) 6 (v0 6)) 7 (v0 7)) 8 (v0 8)))), (h1, .inr (6, mX6 h2 h3 h4 h5 h6 h7 h8 h9 v1)), (h4, zi k4 833 f4), (h3, zi k3 833 f3), (h2, zi k2 1250 f2), (h5, zi k5 400 f5), (h6, zi k6 400 f6), (h7, zi k7 400 f7), (h10, .inr (0, mX0 h11 h12 h13 h14 v10)), (h11, zi k11 120 f11)] s.heap ∧ va_D A [(h0, .inr (8, mX8 h1 (upd (upd (upd (upd (upd (upd (upd (upd v0 1 (v0 1)) 2 (v0 2)) 3 (v0 3)) 4 (v0 4)) 5 (v0 5)) 6 (v0 6)) 7 (v0 7)) 8 (v0 8)))), (h1, .inr (6, mX6 h2 h3 h4 h5 h6 h7 h8 h9 v1)), (h4, zi k4 833 f4), (h3, zi k3 833 f3), (h2, zi k2 1250 f2), (h5, zi k5 400 f5), (h6, zi k6 400 f6), (h7, zi k7 400 f7), (h10, .inr (0, mX0 h11 h12 h13 h14 v10)), (h11, zi k11 120 f11)] ∧ va_S A s.heap s.heap [] ∧ lv_has ls 4 [(0, .ref h0), (1, .ref h10), (2, .int 0), (3, .int 0)] ∧ (0 ≤ (0 : Int32).toInt ∧ (0 : Int32).toInt ≤ 120) := ⟨hP, hD, hS, lv_sub hl [2, 3, 1, 0] rfl, (by first | with_reducible assumption | exact ⟨by omega, by omega⟩)⟩
    exact hJ4 s.heap [] ls (fun i => ([0, 0, (v0 1), (v0 2), (v0 3), (v0 4), (v0 5), (v0 6), (v0 7), (v0 8)] : List (Int32)).getD i 0) (fun _ => 0) (fun _ => (fun _ => 0)) (fun _ => (fun _ => 0)) hc
set_option maxHeartbeats 8000000 in
set_option maxRecDepth 100000 in
theorem sX11_posting_0 (l : Launch) (dC : Nat → ClassId) (dI : Nat → Nat → Nat) (adK adV : Nat → Nat) (h0 : Nat) (h4 : Nat) (h5 : Nat) (h6 : Nat) (h23 : Nat) (h29 : Nat) (h32 : Nat) (h27 : Nat) (h24 : Nat) (h25 : Nat) (h26 : Nat) (h28 : Nat) (h18 : Nat) (h19 : Nat) (h1 : Nat) (h11 : Nat) (h33 : Nat) (h40 : Nat) (h48 : Nat) (h49 : Nat) (h7 : Nat) (h8 : Nat) (h9 : Nat) (h10 : Nat) (h30 : Nat) (h31 : Nat) (h20 : Nat) (h21 : Nat) (h22 : Nat) (k5 : ClassId) (k6 : ClassId) (k29 : ClassId) (k27 : ClassId) (k24 : ClassId) (k25 : ClassId) (k26 : ClassId) (k28 : ClassId) (k19 : ClassId) (sz : Nat) (sp0 : Value) (lw0 : Int64) (v4 : Nat → Int32) (f5 : Nat → Int64) (f6 : Nat → Int32) (v23 : Nat → Int32) (f29 : Nat → Int32) (v32 : Nat → Int32) (f27 : Nat → Int32) (f24 : Nat → Int32) (f25 : Nat → Int32) (f26 : Nat → Int32) (f28 : Nat → Int32) (v18 : Nat → Int32) (f19 : Nat → Int32) (x1 : Int32) (hv4 : zR rg_Words400 v4) (hf6 : zA 0 399 f6) (hv23 : zR rg_Postings v23) (hf25 : zA 0 1250 f25) (hf28 : zA 0 832 f28) (hv18 : zR rg_Documents v18) : Met l yX11_posting (zw yX11_posting cX11_posting 4 (some .int)) { frames := 5, cells := 0, slots := 0, locals := 111 } (zPc dC dI adK adV [.ref h0, .int x1] sz [(h0, .inr (11, mX11 h1 h4 h11 h18 h23 h32 h33 h40 h48 h49 sp0 lw0)), (h4, .inr (10, mX10 h5 h6 h7 h8 h9 h10 v4)), (h5, .inl (k5, 400, .inr (.inl f5))), (h6, zi k6 400 f6), (h23, .inr (6, mX6 h24 h25 h26 h27 h28 h29 h30 h31 v23)), (h29, zi k29 400 f29), (h32, .inr (8, mX8 h23 v32)), (h27, zi k27 400 f27), (h24, zi k24 1250 f24), (h25, zi k25 833 f25), (h26, zi k26 833 f26), (h28, zi k28 400 f28), (h18, .inr (0, mX0 h19 h20 h21 h22 v18)), (h19, zi k19 120 f19)] [(k5, .long), (k6, .int), (k29, .int), (k27, .int), (k24, .int), (k25, .int), (k26, .int), (k28, .int), (k19, .boolean)]) (va_Qi (fun (r : Int32) (u : Nat → Int32) => True) (fun (u : Nat → Int32) (t : State) => ∃ (ww : Nat → Int64) (aa : Nat → Nat → Int32) (bb : Nat → Nat → Int64), va_P (dC, dI) vwCl [(h0, .inr (11, mX11 h1 h4 h11 h18 h23 h32 h33 h40 h48 h49 sp0 lw0)), (h4, .inr (10, mX10 h5 h6 h7 h8 h9 h10 v4)), (h5, .inl (k5, 400, .inr (.inl f5))), (h6, zi k6 400 f6), (h23, .inr (6, mX6 h24 h25 h26 h27 h28 h29 h30 h31 v23)), (h29, zi k29 400 f29), (h32, .inr (8, mX8 h23 (upd (upd (upd (upd (upd (upd (upd (upd v32 1 (u 0)) 2 (u 1)) 3 (u 2)) 4 (u 3)) 5 (u 4)) 6 (u 5)) 7 (u 6)) 8 (u 7)))), (h27, zi k27 400 f27), (h24, zi k24 1250 f24), (h25, zi k25 833 f25), (h26, zi k26 833 f26), (h28, zi k28 400 f28), (h18, .inr (0, mX0 h19 h20 h21 h22 v18)), (h19, zi k19 120 f19)] t.heap ∧ va_K (dC, dI) vwCl [(k5, .long), (k6, .int), (k29, .int), (k27, .int), (k24, .int), (k25, .int), (k26, .int), (k28, .int), (k19, .boolean)] t ∧ va_D (va_A [(h0, .inr (11, mX11 h1 h4 h11 h18 h23 h32 h33 h40 h48 h49 sp0 lw0)), (h4, .inr (10, mX10 h5 h6 h7 h8 h9 h10 v4)), (h5, .inl (k5, 400, .inr (.inl f5))), (h6, zi k6 400 f6), (h23, .inr (6, mX6 h24 h25 h26 h27 h28 h29 h30 h31 v23)), (h29, zi k29 400 f29), (h32, .inr (8, mX8 h23 v32)), (h27, zi k27 400 f27), (h24, zi k24 1250 f24), (h25, zi k25 833 f25), (h26, zi k26 833 f26), (h28, zi k28 400 f28), (h18, .inr (0, mX0 h19 h20 h21 h22 v18)), (h19, zi k19 120 f19)] sz) [(h0, .inr (11, mX11 h1 h4 h11 h18 h23 h32 h33 h40 h48 h49 sp0 lw0)), (h4, .inr (10, mX10 h5 h6 h7 h8 h9 h10 v4)), (h5, .inl (k5, 400, .inr (.inl f5))), (h6, zi k6 400 f6), (h23, .inr (6, mX6 h24 h25 h26 h27 h28 h29 h30 h31 v23)), (h29, zi k29 400 f29), (h32, .inr (8, mX8 h23 (upd (upd (upd (upd (upd (upd (upd (upd v32 1 (u 0)) 2 (u 1)) 3 (u 2)) 4 (u 3)) 5 (u 4)) 6 (u 5)) 7 (u 6)) 8 (u 7)))), (h27, zi k27 400 f27), (h24, zi k24 1250 f24), (h25, zi k25 833 f25), (h26, zi k26 833 f26), (h28, zi k28 400 f28), (h18, .inr (0, mX0 h19 h20 h21 h22 v18)), (h19, zi k19 120 f19)]) (va_A [(h0, .inr (11, mX11 h1 h4 h11 h18 h23 h32 h33 h40 h48 h49 sp0 lw0)), (h4, .inr (10, mX10 h5 h6 h7 h8 h9 h10 v4)), (h5, .inl (k5, 400, .inr (.inl f5))), (h6, zi k6 400 f6), (h23, .inr (6, mX6 h24 h25 h26 h27 h28 h29 h30 h31 v23)), (h29, zi k29 400 f29), (h32, .inr (8, mX8 h23 v32)), (h27, zi k27 400 f27), (h24, zi k24 1250 f24), (h25, zi k25 833 f25), (h26, zi k26 833 f26), (h28, zi k28 400 f28), (h18, .inr (0, mX0 h19 h20 h21 h22 v18)), (h19, zi k19 120 f19)] sz)) 0 0 (va_A [(h0, .inr (11, mX11 h1 h4 h11 h18 h23 h32 h33 h40 h48 h49 sp0 lw0)), (h4, .inr (10, mX10 h5 h6 h7 h8 h9 h10 v4)), (h5, .inl (k5, 400, .inr (.inl f5))), (h6, zi k6 400 f6), (h23, .inr (6, mX6 h24 h25 h26 h27 h28 h29 h30 h31 v23)), (h29, zi k29 400 f29), (h32, .inr (8, mX8 h23 v32)), (h27, zi k27 400 f27), (h24, zi k24 1250 f24), (h25, zi k25 833 f25), (h26, zi k26 833 f26), (h28, zi k28 400 f28), (h18, .inr (0, mX0 h19 h20 h21 h22 v18)), (h19, zi k19 120 f19)] sz) := by
  refine Met.ofW (cc := cX11_posting) (maxL := 4) (ret := (some .int)) (by decide) rfl ?_
  intro p e s m args below meth c s₁ B hml hv
  obtain ⟨rfl, hsz, hP, hK, hD0, hE, hZ⟩ := hv
  have hx := B.exec
  have hb := B.bytes
  have hr := B.returns
  have hG : ∀ w ∈ zG, w.before _ s = true := fun w h => atoms_spec (ws := (zw yX11_posting cX11_posting 4 (some .int))) B.pre w (List.mem_cons_of_mem _ h)
  have hown : s.vm.findClass RX11 = some m.cls := findClass_of_methodNamed B.named
  have hlocks := B.notSynchronized

  subst hsz
  have hD := hD0.self (sz := s.heap.size)
  generalize hAe : va_A [(h0, .inr (11, mX11 h1 h4 h11 h18 h23 h32 h33 h40 h48 h49 sp0 lw0)), (h4, .inr (10, mX10 h5 h6 h7 h8 h9 h10 v4)), (h5, .inl (k5, 400, .inr (.inl f5))), (h6, zi k6 400 f6), (h23, .inr (6, mX6 h24 h25 h26 h27 h28 h29 h30 h31 v23)), (h29, zi k29 400 f29), (h32, .inr (8, mX8 h23 v32)), (h27, zi k27 400 f27), (h24, zi k24 1250 f24), (h25, zi k25 833 f25), (h26, zi k26 833 f26), (h28, zi k28 400 f28), (h18, .inr (0, mX0 h19 h20 h21 h22 v18)), (h19, zi k19 120 f19)] s.heap.size = A at hD hZ ⊢
  have hA : ∀ q : Nat, s.heap.size ≤ q → A q := fun q h => by rw [← hAe]; exact Or.inr h
  have hS : va_S A s.heap s.heap [] := va_S.rf
  have hl := lv_entry ([.ref h0, .int x1]) (n := 4) (Nat.le_of_ble_eq_true rfl)
  rw [lg_entry_eq]
  generalize (lg_sl ([.ref h0, .int x1]) ++ List.replicate (4 - (lg_sl ([.ref h0, .int x1])).length) Slot.unset).toArray = ls at hl ⊢
  have hl : lv_has ls 4 [(0, .ref h0), (1, .int x1)] := hl
  have b_ := zk_0
  have b_ := zk_1
  have b_ := zk_2
  have b_ := zk_3
  refine lv_aload_n hx hb dX11_posting_0 rfl (lv_at hl 0 rfl) ?_
  refine va_get (D := (dC, dI)) (ci := 11) (v := .long lw0) (C := RX11) (T := TX11) (N := 12) hx hb hG zuX11 hown hK hP 0 rfl rfl 11 (by decide) (hG _ zv568) (fun _ h9 => h9) rfl dX11_posting_1 ?_
  refine lv_ldc2 hx hb hown (hG _ zv556) dX11_posting_4 ?_
  refine W.lcmp hx hb dX11_posting_7 ?_
  refine lv_topi (fun z7 e_z7 => ?_)
  have b_ : -2147483648 ≤ z7.toInt ∧ z7.toInt ≤ 2147483647 := ⟨zlo _, zhi _⟩
  refine lv_if_eq (tgt := 20) hx hb dX11_posting_8 (by decide) (fun c_ => ?_) (fun c_ => ?_)
  · skip
    have b_ := zT_eq rfl zk_0 c_
    refine lv_iconst (v := (-1)) hx hb dX11_posting_20 (by decide) ?_
    refine W.widen (k := 0) (n := 0) (by decide) (by decide) ?_
    have b_ : -2147483648 ≤ (v32 1).toInt ∧ (v32 1).toInt ≤ 2147483647 := ⟨zlo _, zhi _⟩
    have b_ : -2147483648 ≤ (v32 2).toInt ∧ (v32 2).toInt ≤ 2147483647 := ⟨zlo _, zhi _⟩
    have b_ : -2147483648 ≤ (v32 3).toInt ∧ (v32 3).toInt ≤ 2147483647 := ⟨zlo _, zhi _⟩
    have b_ : -2147483648 ≤ (v32 4).toInt ∧ (v32 4).toInt ≤ 2147483647 := ⟨zlo _, zhi _⟩
    have b_ : -2147483648 ≤ (v32 5).toInt ∧ (v32 5).toInt ≤ 2147483647 := ⟨zlo _, zhi _⟩
    have b_ : -2147483648 ≤ (v32 6).toInt ∧ (v32 6).toInt ≤ 2147483647 := ⟨zlo _, zhi _⟩
    have b_ : -2147483648 ≤ (v32 7).toInt ∧ (v32 7).toInt ≤ 2147483647 := ⟨zlo _, zhi _⟩
    have b_ : -2147483648 ≤ (v32 8).toInt ∧ (v32 8).toInt ≤ 2147483647 := ⟨zlo _, zhi _⟩
    have hpost : True := trivial
    have hP9 : va_P (dC, dI) vwCl [(h0, .inr (11, mX11 h1 h4 h11 h18 h23 h32 h33 h40 h48 h49 sp0 lw0)), (h4, .inr (10, mX10 h5 h6 h7 h8 h9 h10 v4)), (h5, .inl (k5, 400, .inr (.inl f5))), (h6, zi k6 400 f6), (h23, .inr (6, mX6 h24 h25 h26 h27 h28 h29 h30 h31 v23)), (h29, zi k29 400 f29), (h32, .inr (8, mX8 h23 (upd (upd (upd (upd (upd (upd (upd (upd v32 1 (v32 1)) 2 (v32 2)) 3 (v32 3)) 4 (v32 4)) 5 (v32 5)) 6 (v32 6)) 7 (v32 7)) 8 (v32 8)))), (h27, zi k27 400 f27), (h24, zi k24 1250 f24), (h25, zi k25 833 f25), (h26, zi k26 833 f26), (h28, zi k28 400 f28), (h18, .inr (0, mX0 h19 h20 h21 h22 v18)), (h19, zi k19 120 f19)] s.heap := hP
    have hD9 : va_D A [(h0, .inr (11, mX11 h1 h4 h11 h18 h23 h32 h33 h40 h48 h49 sp0 lw0)), (h4, .inr (10, mX10 h5 h6 h7 h8 h9 h10 v4)), (h5, .inl (k5, 400, .inr (.inl f5))), (h6, zi k6 400 f6), (h23, .inr (6, mX6 h24 h25 h26 h27 h28 h29 h30 h31 v23)), (h29, zi k29 400 f29), (h32, .inr (8, mX8 h23 (upd (upd (upd (upd (upd (upd (upd (upd v32 1 (v32 1)) 2 (v32 2)) 3 (v32 3)) 4 (v32 4)) 5 (v32 5)) 6 (v32 6)) 7 (v32 7)) 8 (v32 8)))), (h27, zi k27 400 f27), (h24, zi k24 1250 f24), (h25, zi k25 833 f25), (h26, zi k26 833 f26), (h28, zi k28 400 f28), (h18, .inr (0, mX0 h19 h20 h21 h22 v18)), (h19, zi k19 120 f19)] := hD
    exact W.iret (v := (-1)) hx hb hr (fun t ht hW => ⟨⟨(-1), (fun i => ([(v32 1), (v32 2), (v32 3), (v32 4), (v32 5), (v32 6), (v32 7), (v32 8)] : List (Int32)).getD i 0), rfl, hpost, (fun _ => 0), (fun _ => (fun _ => 0)), (fun _ => (fun _ => 0)), by rw [ht]; exact hP9, va_K.moved hW.alike hK, hD9⟩, hS.F ht⟩) hS.2.2 dX11_posting_21
  · skip
    have b_ := zF_eq rfl zk_0 c_
    refine lv_iload_n hx hb dX11_posting_11 rfl (lv_at hl 1 rfl) ?_
    have b_ : -2147483648 ≤ x1.toInt ∧ x1.toInt ≤ 2147483647 := ⟨zlo _, zhi _⟩
    refine lv_if_lt (tgt := 20) hx hb dX11_posting_12 (by decide) (fun c_ => ?_) (fun c_ => ?_)
    · skip
      have b_ := zT_lt rfl zk_0 c_
      refine lv_iconst (v := (-1)) hx hb dX11_posting_20 (by decide) ?_
      refine W.widen (k := 0) (n := 0) (by decide) (by decide) ?_
      have b_ : -2147483648 ≤ (v32 1).toInt ∧ (v32 1).toInt ≤ 2147483647 := ⟨zlo _, zhi _⟩
      have b_ : -2147483648 ≤ (v32 2).toInt ∧ (v32 2).toInt ≤ 2147483647 := ⟨zlo _, zhi _⟩
      have b_ : -2147483648 ≤ (v32 3).toInt ∧ (v32 3).toInt ≤ 2147483647 := ⟨zlo _, zhi _⟩
      have b_ : -2147483648 ≤ (v32 4).toInt ∧ (v32 4).toInt ≤ 2147483647 := ⟨zlo _, zhi _⟩
      have b_ : -2147483648 ≤ (v32 5).toInt ∧ (v32 5).toInt ≤ 2147483647 := ⟨zlo _, zhi _⟩
      have b_ : -2147483648 ≤ (v32 6).toInt ∧ (v32 6).toInt ≤ 2147483647 := ⟨zlo _, zhi _⟩
      have b_ : -2147483648 ≤ (v32 7).toInt ∧ (v32 7).toInt ≤ 2147483647 := ⟨zlo _, zhi _⟩
      have b_ : -2147483648 ≤ (v32 8).toInt ∧ (v32 8).toInt ≤ 2147483647 := ⟨zlo _, zhi _⟩
      have hpost : True := trivial
      have hP9 : va_P (dC, dI) vwCl [(h0, .inr (11, mX11 h1 h4 h11 h18 h23 h32 h33 h40 h48 h49 sp0 lw0)), (h4, .inr (10, mX10 h5 h6 h7 h8 h9 h10 v4)), (h5, .inl (k5, 400, .inr (.inl f5))), (h6, zi k6 400 f6), (h23, .inr (6, mX6 h24 h25 h26 h27 h28 h29 h30 h31 v23)), (h29, zi k29 400 f29), (h32, .inr (8, mX8 h23 (upd (upd (upd (upd (upd (upd (upd (upd v32 1 (v32 1)) 2 (v32 2)) 3 (v32 3)) 4 (v32 4)) 5 (v32 5)) 6 (v32 6)) 7 (v32 7)) 8 (v32 8)))), (h27, zi k27 400 f27), (h24, zi k24 1250 f24), (h25, zi k25 833 f25), (h26, zi k26 833 f26), (h28, zi k28 400 f28), (h18, .inr (0, mX0 h19 h20 h21 h22 v18)), (h19, zi k19 120 f19)] s.heap := hP
      have hD9 : va_D A [(h0, .inr (11, mX11 h1 h4 h11 h18 h23 h32 h33 h40 h48 h49 sp0 lw0)), (h4, .inr (10, mX10 h5 h6 h7 h8 h9 h10 v4)), (h5, .inl (k5, 400, .inr (.inl f5))), (h6, zi k6 400 f6), (h23, .inr (6, mX6 h24 h25 h26 h27 h28 h29 h30 h31 v23)), (h29, zi k29 400 f29), (h32, .inr (8, mX8 h23 (upd (upd (upd (upd (upd (upd (upd (upd v32 1 (v32 1)) 2 (v32 2)) 3 (v32 3)) 4 (v32 4)) 5 (v32 5)) 6 (v32 6)) 7 (v32 7)) 8 (v32 8)))), (h27, zi k27 400 f27), (h24, zi k24 1250 f24), (h25, zi k25 833 f25), (h26, zi k26 833 f26), (h28, zi k28 400 f28), (h18, .inr (0, mX0 h19 h20 h21 h22 v18)), (h19, zi k19 120 f19)] := hD
      exact W.iret (v := (-1)) hx hb hr (fun t ht hW => ⟨⟨(-1), (fun i => ([(v32 1), (v32 2), (v32 3), (v32 4), (v32 5), (v32 6), (v32 7), (v32 8)] : List (Int32)).getD i 0), rfl, hpost, (fun _ => 0), (fun _ => (fun _ => 0)), (fun _ => (fun _ => 0)), by rw [ht]; exact hP9, va_K.moved hW.alike hK, hD9⟩, hS.F ht⟩) hS.2.2 dX11_posting_21
    · skip
      have b_ := zF_lt rfl zk_0 c_
      refine lv_iload_n hx hb dX11_posting_15 rfl (lv_at hl 1 rfl) ?_
      refine lv_iconst (v := 4) hx hb dX11_posting_16 (by decide) ?_
      refine lv_icmp_le (tgt := 22) hx hb dX11_posting_17 (by decide) (fun c_ => ?_) (fun c_ => ?_)
      · skip
        have b_ := zT_le rfl zk_4 c_
        refine lv_aload_n hx hb dX11_posting_22 rfl (lv_at hl 0 rfl) ?_
        refine va_get (D := (dC, dI)) (ci := 11) (v := .ref h4) (C := RX11) (T := TX11) (N := 12) hx hb hG zuX11 hown hK hP 0 rfl rfl 1 (by decide) (hG _ zv558) (fun _ h9 => h9) rfl dX11_posting_23 ?_
        refine lv_aload_n hx hb dX11_posting_26 rfl (lv_at hl 0 rfl) ?_
        refine va_get (D := (dC, dI)) (ci := 11) (v := .long lw0) (C := RX11) (T := TX11) (N := 12) hx hb hG zuX11 hown hK hP 0 rfl rfl 11 (by decide) (hG _ zv568) (fun _ h9 => h9) rfl dX11_posting_27 ?_
        have hPc := hP.sub (ws' := [(h4, .inr (10, mX10 h5 h6 h7 h8 h9 h10 v4)), (h5, .inl (k5, 400, .inr (.inl f5)))]) [1, 2] rfl
        have hDc := hD.sub (ws' := [(h4, .inr (10, mX10 h5 h6 h7 h8 h9 h10 v4)), (h5, .inl (k5, 400, .inr (.inl f5)))]) [1, 2] (by decide) rfl
        have hKc := hK.sub (tys' := [(k5, .long)]) [0] rfl
        have hFc := va_free (wc := [(h4, .inr (10, mX10 h5 h6 h7 h8 h9 h10 v4)), (h5, .inl (k5, 400, .inr (.inl f5)))]) hD hS hA [1, 2] rfl
        refine va_calli (va_runV (As := [.long lw0]) (rest := []) ⟨hx, hb, hml, hown, hG⟩ (sX10_rankOf_1 l dC dI adK adV h4 h5 h6 h7 h8 h9 h10 k5 s.heap.size v4 f5 lw0 hv4) (cwV 1 hG (zgV zv961 zv740 zv741 zv131 zv742) rfl rfl rfl (by decide +kernel) ⟨Nat.le_of_ble_eq_true rfl, Nat.le_of_ble_eq_true rfl⟩) ⟨zPc_blind, va_recv hKc hPc (ci := 10) (q0 := 0) rfl rfl, zPc_pre hPc hKc hDc hE hS hFc hZ⟩ rfl rfl hl.1 rfl (lv_room (Nat.le_of_ble_eq_true rfl)) dX11_posting_30 ⟨Nat.le_of_ble_eq_true rfl, Nat.le_of_ble_eq_true rfl⟩) hS (fun q _ h => hFc q h) hFc (fun r30_ u30_ t H1 locs ht hvm hw hB hz1 hk1 hS => ?_)
        replace hw : ((-1) ≤ r30_.toInt ∧ r30_.toInt ≤ 399) ∧ (r30_.toInt < (v4 7).toInt) ∧ (zRf f5 (v4 7).toInt lw0.toInt r30_.toInt) := hw
        obtain ⟨b_, hX30_0, hX30_1⟩ := hw
        obtain ⟨w30_, a30_, b30_, hP1, hK1, hD1⟩ := hB
        rw [ht] at hP1
        obtain ⟨hP, hD⟩ := va_join (wr := [(h0, .inr (11, mX11 h1 h4 h11 h18 h23 h32 h33 h40 h48 h49 sp0 lw0)), (h6, zi k6 400 f6), (h23, .inr (6, mX6 h24 h25 h26 h27 h28 h29 h30 h31 v23)), (h29, zi k29 400 f29), (h32, .inr (8, mX8 h23 v32)), (h27, zi k27 400 f27), (h24, zi k24 1250 f24), (h25, zi k25 833 f25), (h26, zi k26 833 f26), (h28, zi k28 400 f28), (h18, .inr (0, mX0 h19 h20 h21 h22 v18)), (h19, zi k19 120 f19)]) (w1 := [(h4, .inr (10, mX10 h5 h6 h7 h8 h9 h10 v4)), (h5, .inl (k5, 400, .inr (.inl f5)))]) hP hD [1, 2] [0, 3, 4, 5, 6, 7, 8, 9, 10, 11, 12, 13] rfl rfl (by decide) (by decide) hk1 hFc hP1 hD1
        have hP : va_P (dC, dI) vwCl [(h0, .inr (11, mX11 h1 h4 h11 h18 h23 h32 h33 h40 h48 h49 sp0 lw0)), (h4, .inr (10, mX10 h5 h6 h7 h8 h9 h10 v4)), (h5, .inl (k5, 400, .inr (.inl f5))), (h6, zi k6 400 f6), (h23, .inr (6, mX6 h24 h25 h26 h27 h28 h29 h30 h31 v23)), (h29, zi k29 400 f29), (h32, .inr (8, mX8 h23 v32)), (h27, zi k27 400 f27), (h24, zi k24 1250 f24), (h25, zi k25 833 f25), (h26, zi k26 833 f26), (h28, zi k28 400 f28), (h18, .inr (0, mX0 h19 h20 h21 h22 v18)), (h19, zi k19 120 f19)] H1 := hP.sub [0, 12, 13, 1, 2, 3, 4, 5, 6, 7, 8, 9, 10, 11] rfl
        have hD : va_D A [(h0, .inr (11, mX11 h1 h4 h11 h18 h23 h32 h33 h40 h48 h49 sp0 lw0)), (h4, .inr (10, mX10 h5 h6 h7 h8 h9 h10 v4)), (h5, .inl (k5, 400, .inr (.inl f5))), (h6, zi k6 400 f6), (h23, .inr (6, mX6 h24 h25 h26 h27 h28 h29 h30 h31 v23)), (h29, zi k29 400 f29), (h32, .inr (8, mX8 h23 v32)), (h27, zi k27 400 f27), (h24, zi k24 1250 f24), (h25, zi k25 833 f25), (h26, zi k26 833 f26), (h28, zi k28 400 f28), (h18, .inr (0, mX0 h19 h20 h21 h22 v18)), (h19, zi k19 120 f19)] := hD.sub [0, 12, 13, 1, 2, 3, 4, 5, 6, 7, 8, 9, 10, 11] (by decide) rfl
        generalize H1 = H at hP hS ⊢
        clear hz1
        refine lv_istore_n (lv' := [(2, .int r30_), (0, .ref h0), (1, .int x1)]) hx hb dX11_posting_33 rfl hl (by decide) rfl (fun ls hl => ?_)
        refine lv_iload_n hx hb dX11_posting_34 rfl (lv_at hl 0 rfl) ?_
        refine lv_iconst (v := (-1)) hx hb dX11_posting_35 (by decide) ?_
        refine lv_icmp_ne (tgt := 41) hx hb dX11_posting_36 (by decide) (fun c_ => ?_) (fun c_ => ?_)
        · skip
          have b_ := zT_ne rfl zk_m1 c_
          refine lv_aload_n hx hb dX11_posting_41 rfl (lv_at hl 1 rfl) ?_
          refine va_get (D := (dC, dI)) (ci := 11) (v := .ref h4) (C := RX11) (T := TX11) (N := 12) hx hb hG zuX11 hown hK hP 0 rfl rfl 1 (by decide) (hG _ zv558) (fun _ h9 => h9) rfl dX11_posting_42 ?_
          refine lv_iload_n hx hb dX11_posting_45 rfl (lv_at hl 0 rfl) ?_
          have hPc := hP.sub (ws' := [(h4, .inr (10, mX10 h5 h6 h7 h8 h9 h10 v4)), (h6, zi k6 400 f6)]) [1, 3] rfl
          have hDc := hD.sub (ws' := [(h4, .inr (10, mX10 h5 h6 h7 h8 h9 h10 v4)), (h6, zi k6 400 f6)]) [1, 3] (by decide) rfl
          have hKc := hK.sub (tys' := [(k6, .int)]) [1] rfl
          have hFc := va_free (wc := [(h4, .inr (10, mX10 h5 h6 h7 h8 h9 h10 v4)), (h6, zi k6 400 f6)]) hD hS hA [1, 3] rfl
          refine va_calli (va_runV (As := [.int r30_]) (rest := []) ⟨hx, hb, hml, hown, hG⟩ (sX10_idAt_0 l dC dI adK adV h4 h6 h5 h7 h8 h9 h10 k6 H.size v4 f6 r30_ hv4 hf6) (cwV 1 hG (zgV zv963 zv753 zv754 zv131 zv755) rfl rfl rfl (by decide +kernel) ⟨Nat.le_of_ble_eq_true rfl, Nat.le_of_ble_eq_true rfl⟩) ⟨zPc_blind, va_recv hKc hPc (ci := 10) (q0 := 0) rfl rfl, zPc_pre hPc hKc hDc hE hS hFc hZ⟩ rfl rfl hl.1 rfl (lv_room (Nat.le_of_ble_eq_true rfl)) dX11_posting_46 ⟨Nat.le_of_ble_eq_true rfl, Nat.le_of_ble_eq_true rfl⟩) hS (fun q _ h => hFc q h) hFc (fun r46_ u46_ t H1 locs ht hvm hw hB hz1 hk1 hS => ?_)
          replace hw : ((-1) ≤ r46_.toInt ∧ r46_.toInt ≤ 399) ∧ (0 ≤ r30_.toInt ∧ r30_.toInt < (v4 7).toInt → r46_.toInt = (f6 ((r30_ : Int32)).toNatClampNeg).toInt) ∧ (r30_.toInt < 0 → r46_.toInt = -1) := hw
          obtain ⟨b_, hX46_0, hX46_1⟩ := hw
          obtain ⟨w46_, a46_, b46_, hP1, hK1, hD1⟩ := hB
          rw [ht] at hP1
          obtain ⟨hP, hD⟩ := va_join (wr := [(h0, .inr (11, mX11 h1 h4 h11 h18 h23 h32 h33 h40 h48 h49 sp0 lw0)), (h5, .inl (k5, 400, .inr (.inl f5))), (h23, .inr (6, mX6 h24 h25 h26 h27 h28 h29 h30 h31 v23)), (h29, zi k29 400 f29), (h32, .inr (8, mX8 h23 v32)), (h27, zi k27 400 f27), (h24, zi k24 1250 f24), (h25, zi k25 833 f25), (h26, zi k26 833 f26), (h28, zi k28 400 f28), (h18, .inr (0, mX0 h19 h20 h21 h22 v18)), (h19, zi k19 120 f19)]) (w1 := [(h4, .inr (10, mX10 h5 h6 h7 h8 h9 h10 v4)), (h6, zi k6 400 f6)]) hP hD [1, 3] [0, 2, 4, 5, 6, 7, 8, 9, 10, 11, 12, 13] rfl rfl (by decide) (by decide) hk1 hFc hP1 hD1
          have hP : va_P (dC, dI) vwCl [(h0, .inr (11, mX11 h1 h4 h11 h18 h23 h32 h33 h40 h48 h49 sp0 lw0)), (h4, .inr (10, mX10 h5 h6 h7 h8 h9 h10 v4)), (h5, .inl (k5, 400, .inr (.inl f5))), (h6, zi k6 400 f6), (h23, .inr (6, mX6 h24 h25 h26 h27 h28 h29 h30 h31 v23)), (h29, zi k29 400 f29), (h32, .inr (8, mX8 h23 v32)), (h27, zi k27 400 f27), (h24, zi k24 1250 f24), (h25, zi k25 833 f25), (h26, zi k26 833 f26), (h28, zi k28 400 f28), (h18, .inr (0, mX0 h19 h20 h21 h22 v18)), (h19, zi k19 120 f19)] H1 := hP.sub [0, 12, 1, 13, 2, 3, 4, 5, 6, 7, 8, 9, 10, 11] rfl
          have hD : va_D A [(h0, .inr (11, mX11 h1 h4 h11 h18 h23 h32 h33 h40 h48 h49 sp0 lw0)), (h4, .inr (10, mX10 h5 h6 h7 h8 h9 h10 v4)), (h5, .inl (k5, 400, .inr (.inl f5))), (h6, zi k6 400 f6), (h23, .inr (6, mX6 h24 h25 h26 h27 h28 h29 h30 h31 v23)), (h29, zi k29 400 f29), (h32, .inr (8, mX8 h23 v32)), (h27, zi k27 400 f27), (h24, zi k24 1250 f24), (h25, zi k25 833 f25), (h26, zi k26 833 f26), (h28, zi k28 400 f28), (h18, .inr (0, mX0 h19 h20 h21 h22 v18)), (h19, zi k19 120 f19)] := hD.sub [0, 12, 1, 13, 2, 3, 4, 5, 6, 7, 8, 9, 10, 11] (by decide) rfl
          generalize H1 = H at hP hS ⊢
          clear hz1
          refine lv_istore_n (lv' := [(3, .int r46_), (2, .int r30_), (0, .ref h0), (1, .int x1)]) hx hb dX11_posting_49 rfl hl (by decide) rfl (fun ls hl => ?_)
          refine lv_iload_n hx hb dX11_posting_50 rfl (lv_at hl 3 rfl) ?_
          rcases Classical.em (x1 = (0 : Int32)) with c_ | c_
          · skip
            have b_ : x1.toInt = 0 := by rw [c_]; exact zk_0
            refine lv_tableIn (off := 29) (tgt := 80) hx hb dX11_posting_51 (by omega) (by omega) (by rw [b_]; decide) (by decide) ?_
            refine lv_aload_n hx hb dX11_posting_80 rfl (lv_at hl 2 rfl) ?_
            refine va_get (D := (dC, dI)) (ci := 11) (v := .ref h23) (C := RX11) (T := TX11) (N := 12) hx hb hG zuX11 hown hK hP 0 rfl rfl 4 (by decide) (hG _ zv561) (fun _ h9 => h9) rfl dX11_posting_81 ?_
            refine lv_iload_n hx hb dX11_posting_84 rfl (lv_at hl 0 rfl) ?_
            have hPc := hP.sub (ws' := [(h23, .inr (6, mX6 h24 h25 h26 h27 h28 h29 h30 h31 v23)), (h29, zi k29 400 f29)]) [4, 5] rfl
            have hDc := hD.sub (ws' := [(h23, .inr (6, mX6 h24 h25 h26 h27 h28 h29 h30 h31 v23)), (h29, zi k29 400 f29)]) [4, 5] (by decide) rfl
            have hKc := hK.sub (tys' := [(k29, .int)]) [2] rfl
            have hFc := va_free (wc := [(h23, .inr (6, mX6 h24 h25 h26 h27 h28 h29 h30 h31 v23)), (h29, zi k29 400 f29)]) hD hS hA [4, 5] rfl
            refine va_calli (va_runV (As := [.int r46_]) (rest := []) ⟨hx, hb, hml, hown, hG⟩ (sX6_bitsOf_0 l dC dI adK adV h23 h29 h24 h25 h26 h27 h28 h30 h31 k29 H.size v23 f29 r46_ hv23) (cwV 1 hG (zgV zv977 zv772 zv773 zv133 zv774) rfl rfl rfl (by decide +kernel) ⟨Nat.le_of_ble_eq_true rfl, Nat.le_of_ble_eq_true rfl⟩) ⟨zPc_blind, va_recv hKc hPc (ci := 6) (q0 := 0) rfl rfl, zPc_pre hPc hKc hDc hE hS hFc hZ⟩ rfl rfl hl.1 rfl (lv_room (Nat.le_of_ble_eq_true rfl)) dX11_posting_85 ⟨Nat.le_of_ble_eq_true rfl, Nat.le_of_ble_eq_true rfl⟩) hS (fun q _ h => hFc q h) hFc (fun r85_ u85_ t H1 locs ht hvm hw hB hz1 hk1 hS => ?_)
            replace hw : (zW (0 ≤ r46_.toInt → r46_.toInt ≤ 399 → r85_.toInt = (f29 ((r46_ : Int32)).toNatClampNeg).toInt)) ∧ ((r46_.toInt < 0 ∨ 399 < r46_.toInt) → r85_.toInt = 0) := hw
            obtain ⟨hX85_0, hX85_1⟩ := hw
            obtain ⟨w85_, a85_, b85_, hP1, hK1, hD1⟩ := hB
            rw [ht] at hP1
            obtain ⟨hP, hD⟩ := va_join (wr := [(h0, .inr (11, mX11 h1 h4 h11 h18 h23 h32 h33 h40 h48 h49 sp0 lw0)), (h4, .inr (10, mX10 h5 h6 h7 h8 h9 h10 v4)), (h5, .inl (k5, 400, .inr (.inl f5))), (h6, zi k6 400 f6), (h32, .inr (8, mX8 h23 v32)), (h27, zi k27 400 f27), (h24, zi k24 1250 f24), (h25, zi k25 833 f25), (h26, zi k26 833 f26), (h28, zi k28 400 f28), (h18, .inr (0, mX0 h19 h20 h21 h22 v18)), (h19, zi k19 120 f19)]) (w1 := [(h23, .inr (6, mX6 h24 h25 h26 h27 h28 h29 h30 h31 v23)), (h29, zi k29 400 f29)]) hP hD [4, 5] [0, 1, 2, 3, 6, 7, 8, 9, 10, 11, 12, 13] rfl rfl (by decide) (by decide) hk1 hFc hP1 hD1
            have hP : va_P (dC, dI) vwCl [(h0, .inr (11, mX11 h1 h4 h11 h18 h23 h32 h33 h40 h48 h49 sp0 lw0)), (h4, .inr (10, mX10 h5 h6 h7 h8 h9 h10 v4)), (h5, .inl (k5, 400, .inr (.inl f5))), (h6, zi k6 400 f6), (h23, .inr (6, mX6 h24 h25 h26 h27 h28 h29 h30 h31 v23)), (h29, zi k29 400 f29), (h32, .inr (8, mX8 h23 v32)), (h27, zi k27 400 f27), (h24, zi k24 1250 f24), (h25, zi k25 833 f25), (h26, zi k26 833 f26), (h28, zi k28 400 f28), (h18, .inr (0, mX0 h19 h20 h21 h22 v18)), (h19, zi k19 120 f19)] H1 := hP.sub [0, 1, 2, 3, 12, 13, 4, 5, 6, 7, 8, 9, 10, 11] rfl
            have hD : va_D A [(h0, .inr (11, mX11 h1 h4 h11 h18 h23 h32 h33 h40 h48 h49 sp0 lw0)), (h4, .inr (10, mX10 h5 h6 h7 h8 h9 h10 v4)), (h5, .inl (k5, 400, .inr (.inl f5))), (h6, zi k6 400 f6), (h23, .inr (6, mX6 h24 h25 h26 h27 h28 h29 h30 h31 v23)), (h29, zi k29 400 f29), (h32, .inr (8, mX8 h23 v32)), (h27, zi k27 400 f27), (h24, zi k24 1250 f24), (h25, zi k25 833 f25), (h26, zi k26 833 f26), (h28, zi k28 400 f28), (h18, .inr (0, mX0 h19 h20 h21 h22 v18)), (h19, zi k19 120 f19)] := hD.sub [0, 1, 2, 3, 12, 13, 4, 5, 6, 7, 8, 9, 10, 11] (by decide) rfl
            generalize H1 = H at hP hS ⊢
            clear hz1
            refine W.widen (k := 0) (n := 0) (by decide) (by decide) ?_
            have b_ : -2147483648 ≤ r85_.toInt ∧ r85_.toInt ≤ 2147483647 := ⟨zlo _, zhi _⟩
            have b_ : -2147483648 ≤ (v32 1).toInt ∧ (v32 1).toInt ≤ 2147483647 := ⟨zlo _, zhi _⟩
            have b_ : -2147483648 ≤ (v32 2).toInt ∧ (v32 2).toInt ≤ 2147483647 := ⟨zlo _, zhi _⟩
            have b_ : -2147483648 ≤ (v32 3).toInt ∧ (v32 3).toInt ≤ 2147483647 := ⟨zlo _, zhi _⟩
            have b_ : -2147483648 ≤ (v32 4).toInt ∧ (v32 4).toInt ≤ 2147483647 := ⟨zlo _, zhi _⟩
            have b_ : -2147483648 ≤ (v32 5).toInt ∧ (v32 5).toInt ≤ 2147483647 := ⟨zlo _, zhi _⟩
            have b_ : -2147483648 ≤ (v32 6).toInt ∧ (v32 6).toInt ≤ 2147483647 := ⟨zlo _, zhi _⟩
            have b_ : -2147483648 ≤ (v32 7).toInt ∧ (v32 7).toInt ≤ 2147483647 := ⟨zlo _, zhi _⟩
            have b_ : -2147483648 ≤ (v32 8).toInt ∧ (v32 8).toInt ≤ 2147483647 := ⟨zlo _, zhi _⟩
            have hpost : True := trivial
            have hP9 : va_P (dC, dI) vwCl [(h0, .inr (11, mX11 h1 h4 h11 h18 h23 h32 h33 h40 h48 h49 sp0 lw0)), (h4, .inr (10, mX10 h5 h6 h7 h8 h9 h10 v4)), (h5, .inl (k5, 400, .inr (.inl f5))), (h6, zi k6 400 f6), (h23, .inr (6, mX6 h24 h25 h26 h27 h28 h29 h30 h31 v23)), (h29, zi k29 400 f29), (h32, .inr (8, mX8 h23 (upd (upd (upd (upd (upd (upd (upd (upd v32 1 (v32 1)) 2 (v32 2)) 3 (v32 3)) 4 (v32 4)) 5 (v32 5)) 6 (v32 6)) 7 (v32 7)) 8 (v32 8)))), (h27, zi k27 400 f27), (h24, zi k24 1250 f24), (h25, zi k25 833 f25), (h26, zi k26 833 f26), (h28, zi k28 400 f28), (h18, .inr (0, mX0 h19 h20 h21 h22 v18)), (h19, zi k19 120 f19)] H := hP
            have hD9 : va_D A [(h0, .inr (11, mX11 h1 h4 h11 h18 h23 h32 h33 h40 h48 h49 sp0 lw0)), (h4, .inr (10, mX10 h5 h6 h7 h8 h9 h10 v4)), (h5, .inl (k5, 400, .inr (.inl f5))), (h6, zi k6 400 f6), (h23, .inr (6, mX6 h24 h25 h26 h27 h28 h29 h30 h31 v23)), (h29, zi k29 400 f29), (h32, .inr (8, mX8 h23 (upd (upd (upd (upd (upd (upd (upd (upd v32 1 (v32 1)) 2 (v32 2)) 3 (v32 3)) 4 (v32 4)) 5 (v32 5)) 6 (v32 6)) 7 (v32 7)) 8 (v32 8)))), (h27, zi k27 400 f27), (h24, zi k24 1250 f24), (h25, zi k25 833 f25), (h26, zi k26 833 f26), (h28, zi k28 400 f28), (h18, .inr (0, mX0 h19 h20 h21 h22 v18)), (h19, zi k19 120 f19)] := hD
            exact W.iret (v := r85_) hx hb hr (fun t ht hW => ⟨⟨r85_, (fun i => ([(v32 1), (v32 2), (v32 3), (v32 4), (v32 5), (v32 6), (v32 7), (v32 8)] : List (Int32)).getD i 0), rfl, hpost, (fun _ => 0), (fun _ => (fun _ => 0)), (fun _ => (fun _ => 0)), by rw [ht]; exact hP9, va_K.moved hW.alike hK, hD9⟩, hS.F ht⟩) hS.2.2 dX11_posting_88
          · skip
            have b_ : x1.toInt ≠ 0 := fun h => c_ (zeqi.mpr (h.trans zk_0.symm))
            rcases Classical.em (x1 = (1 : Int32)) with c_ | c_
            · skip
              have b_ : x1.toInt = 1 := by rw [c_]; exact zk_1
              refine lv_tableIn (off := 38) (tgt := 89) hx hb dX11_posting_51 (by omega) (by omega) (by rw [b_]; decide) (by decide) ?_
              refine lv_aload_n hx hb dX11_posting_89 rfl (lv_at hl 2 rfl) ?_
              refine va_get (D := (dC, dI)) (ci := 11) (v := .ref h23) (C := RX11) (T := TX11) (N := 12) hx hb hG zuX11 hown hK hP 0 rfl rfl 4 (by decide) (hG _ zv561) (fun _ h9 => h9) rfl dX11_posting_90 ?_
              refine lv_iload_n hx hb dX11_posting_93 rfl (lv_at hl 0 rfl) ?_
              have hPc := hP.sub (ws' := [(h23, .inr (6, mX6 h24 h25 h26 h27 h28 h29 h30 h31 v23)), (h29, zi k29 400 f29)]) [4, 5] rfl
              have hDc := hD.sub (ws' := [(h23, .inr (6, mX6 h24 h25 h26 h27 h28 h29 h30 h31 v23)), (h29, zi k29 400 f29)]) [4, 5] (by decide) rfl
              have hKc := hK.sub (tys' := [(k29, .int)]) [2] rfl
              have hFc := va_free (wc := [(h23, .inr (6, mX6 h24 h25 h26 h27 h28 h29 h30 h31 v23)), (h29, zi k29 400 f29)]) hD hS hA [4, 5] rfl
              refine va_calli (va_runV (As := [.int r46_]) (rest := []) ⟨hx, hb, hml, hown, hG⟩ (sX6_bitsOf_0 l dC dI adK adV h23 h29 h24 h25 h26 h27 h28 h30 h31 k29 H.size v23 f29 r46_ hv23) (cwV 1 hG (zgV zv977 zv772 zv773 zv133 zv774) rfl rfl rfl (by decide +kernel) ⟨Nat.le_of_ble_eq_true rfl, Nat.le_of_ble_eq_true rfl⟩) ⟨zPc_blind, va_recv hKc hPc (ci := 6) (q0 := 0) rfl rfl, zPc_pre hPc hKc hDc hE hS hFc hZ⟩ rfl rfl hl.1 rfl (lv_room (Nat.le_of_ble_eq_true rfl)) dX11_posting_94 ⟨Nat.le_of_ble_eq_true rfl, Nat.le_of_ble_eq_true rfl⟩) hS (fun q _ h => hFc q h) hFc (fun r94_ u94_ t H1 locs ht hvm hw hB hz1 hk1 hS => ?_)
              replace hw : (zW (0 ≤ r46_.toInt → r46_.toInt ≤ 399 → r94_.toInt = (f29 ((r46_ : Int32)).toNatClampNeg).toInt)) ∧ ((r46_.toInt < 0 ∨ 399 < r46_.toInt) → r94_.toInt = 0) := hw
              obtain ⟨hX94_0, hX94_1⟩ := hw
              obtain ⟨w94_, a94_, b94_, hP1, hK1, hD1⟩ := hB
              rw [ht] at hP1
              obtain ⟨hP, hD⟩ := va_join (wr := [(h0, .inr (11, mX11 h1 h4 h11 h18 h23 h32 h33 h40 h48 h49 sp0 lw0)), (h4, .inr (10, mX10 h5 h6 h7 h8 h9 h10 v4)), (h5, .inl (k5, 400, .inr (.inl f5))), (h6, zi k6 400 f6), (h32, .inr (8, mX8 h23 v32)), (h27, zi k27 400 f27), (h24, zi k24 1250 f24), (h25, zi k25 833 f25), (h26, zi k26 833 f26), (h28, zi k28 400 f28), (h18, .inr (0, mX0 h19 h20 h21 h22 v18)), (h19, zi k19 120 f19)]) (w1 := [(h23, .inr (6, mX6 h24 h25 h26 h27 h28 h29 h30 h31 v23)), (h29, zi k29 400 f29)]) hP hD [4, 5] [0, 1, 2, 3, 6, 7, 8, 9, 10, 11, 12, 13] rfl rfl (by decide) (by decide) hk1 hFc hP1 hD1
              have hP : va_P (dC, dI) vwCl [(h0, .inr (11, mX11 h1 h4 h11 h18 h23 h32 h33 h40 h48 h49 sp0 lw0)), (h4, .inr (10, mX10 h5 h6 h7 h8 h9 h10 v4)), (h5, .inl (k5, 400, .inr (.inl f5))), (h6, zi k6 400 f6), (h23, .inr (6, mX6 h24 h25 h26 h27 h28 h29 h30 h31 v23)), (h29, zi k29 400 f29), (h32, .inr (8, mX8 h23 v32)), (h27, zi k27 400 f27), (h24, zi k24 1250 f24), (h25, zi k25 833 f25), (h26, zi k26 833 f26), (h28, zi k28 400 f28), (h18, .inr (0, mX0 h19 h20 h21 h22 v18)), (h19, zi k19 120 f19)] H1 := hP.sub [0, 1, 2, 3, 12, 13, 4, 5, 6, 7, 8, 9, 10, 11] rfl
              have hD : va_D A [(h0, .inr (11, mX11 h1 h4 h11 h18 h23 h32 h33 h40 h48 h49 sp0 lw0)), (h4, .inr (10, mX10 h5 h6 h7 h8 h9 h10 v4)), (h5, .inl (k5, 400, .inr (.inl f5))), (h6, zi k6 400 f6), (h23, .inr (6, mX6 h24 h25 h26 h27 h28 h29 h30 h31 v23)), (h29, zi k29 400 f29), (h32, .inr (8, mX8 h23 v32)), (h27, zi k27 400 f27), (h24, zi k24 1250 f24), (h25, zi k25 833 f25), (h26, zi k26 833 f26), (h28, zi k28 400 f28), (h18, .inr (0, mX0 h19 h20 h21 h22 v18)), (h19, zi k19 120 f19)] := hD.sub [0, 1, 2, 3, 12, 13, 4, 5, 6, 7, 8, 9, 10, 11] (by decide) rfl
              generalize H1 = H at hP hS ⊢
              clear hz1
              have hPc := hP.sub (ws' := []) [] rfl
              have hDc := hD.sub (ws' := []) [] (by decide) rfl
              have hKc := hK.sub (tys' := []) [] rfl
              have hFc := va_free (wc := []) hD hS hA [] rfl
              refine va_calli (va_runS (As := [.int r94_]) (rest := []) ⟨hx, hb, hml, hown, hG⟩ (sX6_chunksFor_0 l dC dI adK adV H.size r94_) (va_cwS 1 hG (zgS zv978 zv800 zv133 zv801) rfl rfl rfl (by decide +kernel) ⟨Nat.le_of_ble_eq_true rfl, Nat.le_of_ble_eq_true rfl⟩) ⟨zPc_blind, zPc_pre hPc hKc hDc hE hS hFc hZ⟩ rfl rfl hl.1 rfl (lv_room (Nat.le_of_ble_eq_true rfl)) dX11_posting_97 ⟨Nat.le_of_ble_eq_true rfl, Nat.le_of_ble_eq_true rfl⟩) hS (fun q _ h => hFc q h) hFc (fun r97_ u97_ t H1 locs ht hvm hw hB hz1 hk1 hS => ?_)
              replace hw : (0 ≤ r97_.toInt ∧ r97_.toInt ≤ 8388611) ∧ (0 ≤ r94_.toInt → r97_.toInt = (znc (r94_.toInt).toNat : Int)) := hw
              obtain ⟨b_, hX97_0⟩ := hw
              obtain ⟨w97_, a97_, b97_, hP1, hK1, hD1⟩ := hB
              rw [ht] at hP1
              obtain ⟨hP, hD⟩ := va_join (wr := [(h0, .inr (11, mX11 h1 h4 h11 h18 h23 h32 h33 h40 h48 h49 sp0 lw0)), (h4, .inr (10, mX10 h5 h6 h7 h8 h9 h10 v4)), (h5, .inl (k5, 400, .inr (.inl f5))), (h6, zi k6 400 f6), (h23, .inr (6, mX6 h24 h25 h26 h27 h28 h29 h30 h31 v23)), (h29, zi k29 400 f29), (h32, .inr (8, mX8 h23 v32)), (h27, zi k27 400 f27), (h24, zi k24 1250 f24), (h25, zi k25 833 f25), (h26, zi k26 833 f26), (h28, zi k28 400 f28), (h18, .inr (0, mX0 h19 h20 h21 h22 v18)), (h19, zi k19 120 f19)]) (w1 := []) hP hD [] [0, 1, 2, 3, 4, 5, 6, 7, 8, 9, 10, 11, 12, 13] rfl rfl (by decide) (by decide) hk1 hFc hP1 hD1
              have hP : va_P (dC, dI) vwCl [(h0, .inr (11, mX11 h1 h4 h11 h18 h23 h32 h33 h40 h48 h49 sp0 lw0)), (h4, .inr (10, mX10 h5 h6 h7 h8 h9 h10 v4)), (h5, .inl (k5, 400, .inr (.inl f5))), (h6, zi k6 400 f6), (h23, .inr (6, mX6 h24 h25 h26 h27 h28 h29 h30 h31 v23)), (h29, zi k29 400 f29), (h32, .inr (8, mX8 h23 v32)), (h27, zi k27 400 f27), (h24, zi k24 1250 f24), (h25, zi k25 833 f25), (h26, zi k26 833 f26), (h28, zi k28 400 f28), (h18, .inr (0, mX0 h19 h20 h21 h22 v18)), (h19, zi k19 120 f19)] H1 := hP.sub [0, 1, 2, 3, 4, 5, 6, 7, 8, 9, 10, 11, 12, 13] rfl
              have hD : va_D A [(h0, .inr (11, mX11 h1 h4 h11 h18 h23 h32 h33 h40 h48 h49 sp0 lw0)), (h4, .inr (10, mX10 h5 h6 h7 h8 h9 h10 v4)), (h5, .inl (k5, 400, .inr (.inl f5))), (h6, zi k6 400 f6), (h23, .inr (6, mX6 h24 h25 h26 h27 h28 h29 h30 h31 v23)), (h29, zi k29 400 f29), (h32, .inr (8, mX8 h23 v32)), (h27, zi k27 400 f27), (h24, zi k24 1250 f24), (h25, zi k25 833 f25), (h26, zi k26 833 f26), (h28, zi k28 400 f28), (h18, .inr (0, mX0 h19 h20 h21 h22 v18)), (h19, zi k19 120 f19)] := hD.sub [0, 1, 2, 3, 4, 5, 6, 7, 8, 9, 10, 11, 12, 13] (by decide) rfl
              generalize H1 = H at hP hS ⊢
              clear hz1
              refine W.widen (k := 0) (n := 0) (by decide) (by decide) ?_
              have b_ : -2147483648 ≤ (v32 1).toInt ∧ (v32 1).toInt ≤ 2147483647 := ⟨zlo _, zhi _⟩
              have b_ : -2147483648 ≤ (v32 2).toInt ∧ (v32 2).toInt ≤ 2147483647 := ⟨zlo _, zhi _⟩
              have b_ : -2147483648 ≤ (v32 3).toInt ∧ (v32 3).toInt ≤ 2147483647 := ⟨zlo _, zhi _⟩
              have b_ : -2147483648 ≤ (v32 4).toInt ∧ (v32 4).toInt ≤ 2147483647 := ⟨zlo _, zhi _⟩
              have b_ : -2147483648 ≤ (v32 5).toInt ∧ (v32 5).toInt ≤ 2147483647 := ⟨zlo _, zhi _⟩
              have b_ : -2147483648 ≤ (v32 6).toInt ∧ (v32 6).toInt ≤ 2147483647 := ⟨zlo _, zhi _⟩
              have b_ : -2147483648 ≤ (v32 7).toInt ∧ (v32 7).toInt ≤ 2147483647 := ⟨zlo _, zhi _⟩
              have b_ : -2147483648 ≤ (v32 8).toInt ∧ (v32 8).toInt ≤ 2147483647 := ⟨zlo _, zhi _⟩
              have hpost : True := trivial
              have hP9 : va_P (dC, dI) vwCl [(h0, .inr (11, mX11 h1 h4 h11 h18 h23 h32 h33 h40 h48 h49 sp0 lw0)), (h4, .inr (10, mX10 h5 h6 h7 h8 h9 h10 v4)), (h5, .inl (k5, 400, .inr (.inl f5))), (h6, zi k6 400 f6), (h23, .inr (6, mX6 h24 h25 h26 h27 h28 h29 h30 h31 v23)), (h29, zi k29 400 f29), (h32, .inr (8, mX8 h23 (upd (upd (upd (upd (upd (upd (upd (upd v32 1 (v32 1)) 2 (v32 2)) 3 (v32 3)) 4 (v32 4)) 5 (v32 5)) 6 (v32 6)) 7 (v32 7)) 8 (v32 8)))), (h27, zi k27 400 f27), (h24, zi k24 1250 f24), (h25, zi k25 833 f25), (h26, zi k26 833 f26), (h28, zi k28 400 f28), (h18, .inr (0, mX0 h19 h20 h21 h22 v18)), (h19, zi k19 120 f19)] H := hP
              have hD9 : va_D A [(h0, .inr (11, mX11 h1 h4 h11 h18 h23 h32 h33 h40 h48 h49 sp0 lw0)), (h4, .inr (10, mX10 h5 h6 h7 h8 h9 h10 v4)), (h5, .inl (k5, 400, .inr (.inl f5))), (h6, zi k6 400 f6), (h23, .inr (6, mX6 h24 h25 h26 h27 h28 h29 h30 h31 v23)), (h29, zi k29 400 f29), (h32, .inr (8, mX8 h23 (upd (upd (upd (upd (upd (upd (upd (upd v32 1 (v32 1)) 2 (v32 2)) 3 (v32 3)) 4 (v32 4)) 5 (v32 5)) 6 (v32 6)) 7 (v32 7)) 8 (v32 8)))), (h27, zi k27 400 f27), (h24, zi k24 1250 f24), (h25, zi k25 833 f25), (h26, zi k26 833 f26), (h28, zi k28 400 f28), (h18, .inr (0, mX0 h19 h20 h21 h22 v18)), (h19, zi k19 120 f19)] := hD
              exact W.iret (v := r97_) hx hb hr (fun t ht hW => ⟨⟨r97_, (fun i => ([(v32 1), (v32 2), (v32 3), (v32 4), (v32 5), (v32 6), (v32 7), (v32 8)] : List (Int32)).getD i 0), rfl, hpost, (fun _ => 0), (fun _ => (fun _ => 0)), (fun _ => (fun _ => 0)), by rw [ht]; exact hP9, va_K.moved hW.alike hK, hD9⟩, hS.F ht⟩) hS.2.2 dX11_posting_100
            · skip
              have b_ : x1.toInt ≠ 1 := fun h => c_ (zeqi.mpr (h.trans zk_1.symm))
              rcases Classical.em (x1 = (2 : Int32)) with c_ | c_
              · skip
                have b_ : x1.toInt = 2 := by rw [c_]; exact zk_2
                refine lv_tableIn (off := 50) (tgt := 101) hx hb dX11_posting_51 (by omega) (by omega) (by rw [b_]; decide) (by decide) ?_
                refine lv_aload_n hx hb dX11_posting_101 rfl (lv_at hl 2 rfl) ?_
                refine va_get (D := (dC, dI)) (ci := 11) (v := .ref h32) (C := RX11) (T := TX11) (N := 12) hx hb hG zuX11 hown hK hP 0 rfl rfl 5 (by decide) (hG _ zv562) (fun _ h9 => h9) rfl dX11_posting_102 ?_
                refine lv_iload_n hx hb dX11_posting_105 rfl (lv_at hl 0 rfl) ?_
                have hPc := hP.sub (ws' := [(h32, .inr (8, mX8 h23 v32)), (h23, .inr (6, mX6 h24 h25 h26 h27 h28 h29 h30 h31 v23)), (h29, zi k29 400 f29), (h27, zi k27 400 f27), (h24, zi k24 1250 f24), (h25, zi k25 833 f25), (h26, zi k26 833 f26), (h28, zi k28 400 f28)]) [6, 4, 5, 7, 8, 9, 10, 11] rfl
                have hDc := hD.sub (ws' := [(h32, .inr (8, mX8 h23 v32)), (h23, .inr (6, mX6 h24 h25 h26 h27 h28 h29 h30 h31 v23)), (h29, zi k29 400 f29), (h27, zi k27 400 f27), (h24, zi k24 1250 f24), (h25, zi k25 833 f25), (h26, zi k26 833 f26), (h28, zi k28 400 f28)]) [6, 4, 5, 7, 8, 9, 10, 11] (by decide) rfl
                have hKc := hK.sub (tys' := [(k29, .int), (k27, .int), (k24, .int), (k25, .int), (k26, .int), (k28, .int)]) [2, 3, 4, 5, 6, 7] rfl
                have hFc := va_free (wc := [(h32, .inr (8, mX8 h23 v32)), (h23, .inr (6, mX6 h24 h25 h26 h27 h28 h29 h30 h31 v23)), (h29, zi k29 400 f29), (h27, zi k27 400 f27), (h24, zi k24 1250 f24), (h25, zi k25 833 f25), (h26, zi k26 833 f26), (h28, zi k28 400 f28)]) hD hS hA [6, 4, 5, 7, 8, 9, 10, 11] rfl
                refine va_callv (va_runV (As := [.int r46_]) (rest := []) ⟨hx, hb, hml, hown, hG⟩ (sX8_open_0 l dC dI adK adV h32 h23 h29 h27 h24 h25 h26 h28 h30 h31 k29 k27 k24 k25 k26 k28 H.size v32 v23 f29 f27 f24 f25 f26 f28 r46_ hv23 hf25 hf28) (cwV 1 hG (zgV zv897 zv898 zv899 zv134 zv900) rfl rfl rfl (by decide +kernel) ⟨Nat.le_of_ble_eq_true rfl, Nat.le_of_ble_eq_true rfl⟩) ⟨zPc_blind, va_recv hKc hPc (ci := 8) (q0 := 0) rfl rfl, zPc_pre hPc hKc hDc hE hS hFc hZ⟩ rfl rfl hl.1 rfl (lv_room (Nat.le_of_ble_eq_true rfl)) dX11_posting_106 ⟨Nat.le_of_ble_eq_true rfl, Nat.le_of_ble_eq_true rfl⟩) hS (fun q _ h => hFc q h) hFc (fun u106_ t H1 locs ht hvm hw hB hz1 hk1 hS => ?_)
                replace hw : (0 ≤ (u106_ 2).toInt ∧ (u106_ 2).toInt ≤ 0) ∧ (0 ≤ (u106_ 3).toInt ∧ (u106_ 3).toInt ≤ 0) ∧ ((-1) ≤ (u106_ 4).toInt ∧ (u106_ 4).toInt ≤ (-1)) ∧ (0 ≤ (u106_ 5).toInt ∧ (u106_ 5).toInt ≤ 0) ∧ (0 ≤ (u106_ 6).toInt ∧ (u106_ 6).toInt ≤ 0) ∧ ((u106_ 4).toInt = -1) ∧ ((u106_ 5).toInt = 0) ∧ ((u106_ 6).toInt = 0) ∧ (zW (0 ≤ r46_.toInt → r46_.toInt ≤ 399 → ∀ B : Nat → List Bool, zPB f24 f25 f26 f27 f28 f29 (v23 8).toInt (v23 9).toInt (v23 10).toInt (v23 11).toInt B → zRr f27 f26 B (u106_ 0).toInt (u106_ 1).toInt (u106_ 2).toInt (u106_ 3).toInt (B ((r46_ : Int32)).toNatClampNeg))) := hw
                obtain ⟨b_, b_, b_, b_, b_, hX106_0, hX106_1, hX106_2, hX106_3⟩ := hw
                obtain ⟨w106_, a106_, b106_, hP1, hK1, hD1⟩ := hB
                rw [ht] at hP1
                obtain ⟨hP, hD⟩ := va_join (wr := [(h0, .inr (11, mX11 h1 h4 h11 h18 h23 h32 h33 h40 h48 h49 sp0 lw0)), (h4, .inr (10, mX10 h5 h6 h7 h8 h9 h10 v4)), (h5, .inl (k5, 400, .inr (.inl f5))), (h6, zi k6 400 f6), (h18, .inr (0, mX0 h19 h20 h21 h22 v18)), (h19, zi k19 120 f19)]) (w1 := [(h32, .inr (8, mX8 h23 (upd (upd (upd (upd (upd (upd (upd v32 1 (u106_ 0)) 2 (u106_ 1)) 3 (u106_ 2)) 4 (u106_ 3)) 5 (u106_ 4)) 6 (u106_ 5)) 7 (u106_ 6)))), (h23, .inr (6, mX6 h24 h25 h26 h27 h28 h29 h30 h31 v23)), (h29, zi k29 400 f29), (h27, zi k27 400 f27), (h24, zi k24 1250 f24), (h25, zi k25 833 f25), (h26, zi k26 833 f26), (h28, zi k28 400 f28)]) hP hD [6, 4, 5, 7, 8, 9, 10, 11] [0, 1, 2, 3, 12, 13] rfl rfl (by decide) (by decide) hk1 hFc hP1 hD1
                have hP : va_P (dC, dI) vwCl [(h0, .inr (11, mX11 h1 h4 h11 h18 h23 h32 h33 h40 h48 h49 sp0 lw0)), (h4, .inr (10, mX10 h5 h6 h7 h8 h9 h10 v4)), (h5, .inl (k5, 400, .inr (.inl f5))), (h6, zi k6 400 f6), (h23, .inr (6, mX6 h24 h25 h26 h27 h28 h29 h30 h31 v23)), (h29, zi k29 400 f29), (h32, .inr (8, mX8 h23 (upd (upd (upd (upd (upd (upd (upd v32 1 (u106_ 0)) 2 (u106_ 1)) 3 (u106_ 2)) 4 (u106_ 3)) 5 (u106_ 4)) 6 (u106_ 5)) 7 (u106_ 6)))), (h27, zi k27 400 f27), (h24, zi k24 1250 f24), (h25, zi k25 833 f25), (h26, zi k26 833 f26), (h28, zi k28 400 f28), (h18, .inr (0, mX0 h19 h20 h21 h22 v18)), (h19, zi k19 120 f19)] H1 := hP.sub [0, 1, 2, 3, 7, 8, 6, 9, 10, 11, 12, 13, 4, 5] rfl
                have hD : va_D A [(h0, .inr (11, mX11 h1 h4 h11 h18 h23 h32 h33 h40 h48 h49 sp0 lw0)), (h4, .inr (10, mX10 h5 h6 h7 h8 h9 h10 v4)), (h5, .inl (k5, 400, .inr (.inl f5))), (h6, zi k6 400 f6), (h23, .inr (6, mX6 h24 h25 h26 h27 h28 h29 h30 h31 v23)), (h29, zi k29 400 f29), (h32, .inr (8, mX8 h23 (upd (upd (upd (upd (upd (upd (upd v32 1 (u106_ 0)) 2 (u106_ 1)) 3 (u106_ 2)) 4 (u106_ 3)) 5 (u106_ 4)) 6 (u106_ 5)) 7 (u106_ 6)))), (h27, zi k27 400 f27), (h24, zi k24 1250 f24), (h25, zi k25 833 f25), (h26, zi k26 833 f26), (h28, zi k28 400 f28), (h18, .inr (0, mX0 h19 h20 h21 h22 v18)), (h19, zi k19 120 f19)] := hD.sub [0, 1, 2, 3, 7, 8, 6, 9, 10, 11, 12, 13, 4, 5] (by decide) rfl
                generalize H1 = H at hP hS ⊢
                clear hz1
                refine lv_aload_n hx hb dX11_posting_109 rfl (lv_at hl 2 rfl) ?_
                refine va_get (D := (dC, dI)) (ci := 11) (v := .ref h32) (C := RX11) (T := TX11) (N := 12) hx hb hG zuX11 hown hK hP 0 rfl rfl 5 (by decide) (hG _ zv562) (fun _ h9 => h9) rfl dX11_posting_110 ?_
                refine lv_aload_n hx hb dX11_posting_113 rfl (lv_at hl 2 rfl) ?_
                refine va_get (D := (dC, dI)) (ci := 11) (v := .ref h18) (C := RX11) (T := TX11) (N := 12) hx hb hG zuX11 hown hK hP 0 rfl rfl 3 (by decide) (hG _ zv560) (fun _ h9 => h9) rfl dX11_posting_114 ?_
                have b_ : -2147483648 ≤ (u106_ 0).toInt ∧ (u106_ 0).toInt ≤ 2147483647 := ⟨zlo _, zhi _⟩
                have b_ : -2147483648 ≤ (u106_ 1).toInt ∧ (u106_ 1).toInt ≤ 2147483647 := ⟨zlo _, zhi _⟩
                have hPc := hP.sub (ws' := [(h32, .inr (8, mX8 h23 (upd (upd (upd (upd (upd (upd (upd v32 1 (u106_ 0)) 2 (u106_ 1)) 3 (u106_ 2)) 4 (u106_ 3)) 5 (u106_ 4)) 6 (u106_ 5)) 7 (u106_ 6)))), (h23, .inr (6, mX6 h24 h25 h26 h27 h28 h29 h30 h31 v23)), (h26, zi k26 833 f26), (h25, zi k25 833 f25), (h24, zi k24 1250 f24), (h27, zi k27 400 f27), (h28, zi k28 400 f28), (h29, zi k29 400 f29), (h18, .inr (0, mX0 h19 h20 h21 h22 v18)), (h19, zi k19 120 f19)]) [6, 4, 10, 9, 8, 7, 11, 5, 12, 13] rfl
                have hDc := hD.sub (ws' := [(h32, .inr (8, mX8 h23 (upd (upd (upd (upd (upd (upd (upd v32 1 (u106_ 0)) 2 (u106_ 1)) 3 (u106_ 2)) 4 (u106_ 3)) 5 (u106_ 4)) 6 (u106_ 5)) 7 (u106_ 6)))), (h23, .inr (6, mX6 h24 h25 h26 h27 h28 h29 h30 h31 v23)), (h26, zi k26 833 f26), (h25, zi k25 833 f25), (h24, zi k24 1250 f24), (h27, zi k27 400 f27), (h28, zi k28 400 f28), (h29, zi k29 400 f29), (h18, .inr (0, mX0 h19 h20 h21 h22 v18)), (h19, zi k19 120 f19)]) [6, 4, 10, 9, 8, 7, 11, 5, 12, 13] (by decide) rfl
                have hKc := hK.sub (tys' := [(k26, .int), (k25, .int), (k24, .int), (k27, .int), (k28, .int), (k29, .int), (k19, .boolean)]) [6, 5, 4, 3, 7, 2, 8] rfl
                have hFc := va_free (wc := [(h32, .inr (8, mX8 h23 (upd (upd (upd (upd (upd (upd (upd v32 1 (u106_ 0)) 2 (u106_ 1)) 3 (u106_ 2)) 4 (u106_ 3)) 5 (u106_ 4)) 6 (u106_ 5)) 7 (u106_ 6)))), (h23, .inr (6, mX6 h24 h25 h26 h27 h28 h29 h30 h31 v23)), (h26, zi k26 833 f26), (h25, zi k25 833 f25), (h24, zi k24 1250 f24), (h27, zi k27 400 f27), (h28, zi k28 400 f28), (h29, zi k29 400 f29), (h18, .inr (0, mX0 h19 h20 h21 h22 v18)), (h19, zi k19 120 f19)]) hD hS hA [6, 4, 10, 9, 8, 7, 11, 5, 12, 13] rfl
                refine va_calli (va_runV (As := [.ref h18]) (rest := []) ⟨hx, hb, hml, hown, hG⟩ (sX8_tallyDocuments_0 l dC dI adK adV h32 h23 h26 h25 h24 h27 h28 h29 h18 h19 h30 h31 h20 h21 h22 k26 k25 k24 k27 k28 k29 k19 H.size (upd (upd (upd (upd (upd (upd (upd v32 1 (u106_ 0)) 2 (u106_ 1)) 3 (u106_ 2)) 4 (u106_ 3)) 5 (u106_ 4)) 6 (u106_ 5)) 7 (u106_ 6)) v23 f26 f25 f24 f27 f28 f29 v18 f19 hv23 hf25 hf28 hv18) (cwV 1 hG (zgV zv979 zv980 zv981 zv134 zv982) rfl rfl rfl (by decide +kernel) ⟨Nat.le_of_ble_eq_true rfl, Nat.le_of_ble_eq_true rfl⟩) ⟨zPc_blind, va_recv hKc hPc (ci := 8) (q0 := 0) rfl rfl, zPc_pre hPc hKc hDc hE hS hFc hZ⟩ rfl rfl hl.1 rfl (lv_room (Nat.le_of_ble_eq_true rfl)) dX11_posting_117 ⟨Nat.le_of_ble_eq_true rfl, Nat.le_of_ble_eq_true rfl⟩) hS (fun q _ h => hFc q h) hFc (fun r117_ u117_ t H1 locs ht hvm hw hB hz1 hk1 hS => ?_)
                obtain ⟨w117_, a117_, b117_, hP1, hK1, hD1⟩ := hB
                rw [ht] at hP1
                obtain ⟨hP, hD⟩ := va_join (wr := [(h0, .inr (11, mX11 h1 h4 h11 h18 h23 h32 h33 h40 h48 h49 sp0 lw0)), (h4, .inr (10, mX10 h5 h6 h7 h8 h9 h10 v4)), (h5, .inl (k5, 400, .inr (.inl f5))), (h6, zi k6 400 f6)]) (w1 := [(h32, .inr (8, mX8 h23 (upd (upd (upd (upd (upd (upd (upd (upd v32 1 (u117_ 0)) 2 (u117_ 1)) 3 (u117_ 2)) 4 (u117_ 3)) 5 (u117_ 4)) 6 (u117_ 5)) 7 (u117_ 6)) 8 (u117_ 7)))), (h23, .inr (6, mX6 h24 h25 h26 h27 h28 h29 h30 h31 v23)), (h26, zi k26 833 f26), (h25, zi k25 833 f25), (h24, zi k24 1250 f24), (h27, zi k27 400 f27), (h28, zi k28 400 f28), (h29, zi k29 400 f29), (h18, .inr (0, mX0 h19 h20 h21 h22 v18)), (h19, zi k19 120 f19)]) hP hD [6, 4, 10, 9, 8, 7, 11, 5, 12, 13] [0, 1, 2, 3] rfl rfl (by decide) (by decide) hk1 hFc hP1 hD1
                have hP : va_P (dC, dI) vwCl [(h0, .inr (11, mX11 h1 h4 h11 h18 h23 h32 h33 h40 h48 h49 sp0 lw0)), (h4, .inr (10, mX10 h5 h6 h7 h8 h9 h10 v4)), (h5, .inl (k5, 400, .inr (.inl f5))), (h6, zi k6 400 f6), (h23, .inr (6, mX6 h24 h25 h26 h27 h28 h29 h30 h31 v23)), (h29, zi k29 400 f29), (h32, .inr (8, mX8 h23 (upd (upd (upd (upd (upd (upd (upd (upd v32 1 (u117_ 0)) 2 (u117_ 1)) 3 (u117_ 2)) 4 (u117_ 3)) 5 (u117_ 4)) 6 (u117_ 5)) 7 (u117_ 6)) 8 (u117_ 7)))), (h27, zi k27 400 f27), (h24, zi k24 1250 f24), (h25, zi k25 833 f25), (h26, zi k26 833 f26), (h28, zi k28 400 f28), (h18, .inr (0, mX0 h19 h20 h21 h22 v18)), (h19, zi k19 120 f19)] H1 := hP.sub [0, 1, 2, 3, 5, 11, 4, 9, 8, 7, 6, 10, 12, 13] rfl
                have hD : va_D A [(h0, .inr (11, mX11 h1 h4 h11 h18 h23 h32 h33 h40 h48 h49 sp0 lw0)), (h4, .inr (10, mX10 h5 h6 h7 h8 h9 h10 v4)), (h5, .inl (k5, 400, .inr (.inl f5))), (h6, zi k6 400 f6), (h23, .inr (6, mX6 h24 h25 h26 h27 h28 h29 h30 h31 v23)), (h29, zi k29 400 f29), (h32, .inr (8, mX8 h23 (upd (upd (upd (upd (upd (upd (upd (upd v32 1 (u117_ 0)) 2 (u117_ 1)) 3 (u117_ 2)) 4 (u117_ 3)) 5 (u117_ 4)) 6 (u117_ 5)) 7 (u117_ 6)) 8 (u117_ 7)))), (h27, zi k27 400 f27), (h24, zi k24 1250 f24), (h25, zi k25 833 f25), (h26, zi k26 833 f26), (h28, zi k28 400 f28), (h18, .inr (0, mX0 h19 h20 h21 h22 v18)), (h19, zi k19 120 f19)] := hD.sub [0, 1, 2, 3, 5, 11, 4, 9, 8, 7, 6, 10, 12, 13] (by decide) rfl
                generalize H1 = H at hP hS ⊢
                clear hz1
                refine W.widen (k := 0) (n := 0) (by decide) (by decide) ?_
                have b_ : -2147483648 ≤ r117_.toInt ∧ r117_.toInt ≤ 2147483647 := ⟨zlo _, zhi _⟩
                have b_ : -2147483648 ≤ (u117_ 0).toInt ∧ (u117_ 0).toInt ≤ 2147483647 := ⟨zlo _, zhi _⟩
                have b_ : -2147483648 ≤ (u117_ 1).toInt ∧ (u117_ 1).toInt ≤ 2147483647 := ⟨zlo _, zhi _⟩
                have b_ : -2147483648 ≤ (u117_ 2).toInt ∧ (u117_ 2).toInt ≤ 2147483647 := ⟨zlo _, zhi _⟩
                have b_ : -2147483648 ≤ (u117_ 3).toInt ∧ (u117_ 3).toInt ≤ 2147483647 := ⟨zlo _, zhi _⟩
                have b_ : -2147483648 ≤ (u117_ 4).toInt ∧ (u117_ 4).toInt ≤ 2147483647 := ⟨zlo _, zhi _⟩
                have b_ : -2147483648 ≤ (u117_ 5).toInt ∧ (u117_ 5).toInt ≤ 2147483647 := ⟨zlo _, zhi _⟩
                have b_ : -2147483648 ≤ (u117_ 6).toInt ∧ (u117_ 6).toInt ≤ 2147483647 := ⟨zlo _, zhi _⟩
                have b_ : -2147483648 ≤ (u117_ 7).toInt ∧ (u117_ 7).toInt ≤ 2147483647 := ⟨zlo _, zhi _⟩
                have hpost : True := trivial
                have hP9 : va_P (dC, dI) vwCl [(h0, .inr (11, mX11 h1 h4 h11 h18 h23 h32 h33 h40 h48 h49 sp0 lw0)), (h4, .inr (10, mX10 h5 h6 h7 h8 h9 h10 v4)), (h5, .inl (k5, 400, .inr (.inl f5))), (h6, zi k6 400 f6), (h23, .inr (6, mX6 h24 h25 h26 h27 h28 h29 h30 h31 v23)), (h29, zi k29 400 f29), (h32, .inr (8, mX8 h23 (upd (upd (upd (upd (upd (upd (upd (upd v32 1 (u117_ 0)) 2 (u117_ 1)) 3 (u117_ 2)) 4 (u117_ 3)) 5 (u117_ 4)) 6 (u117_ 5)) 7 (u117_ 6)) 8 (u117_ 7)))), (h27, zi k27 400 f27), (h24, zi k24 1250 f24), (h25, zi k25 833 f25), (h26, zi k26 833 f26), (h28, zi k28 400 f28), (h18, .inr (0, mX0 h19 h20 h21 h22 v18)), (h19, zi k19 120 f19)] H := hP
                have hD9 : va_D A [(h0, .inr (11, mX11 h1 h4 h11 h18 h23 h32 h33 h40 h48 h49 sp0 lw0)), (h4, .inr (10, mX10 h5 h6 h7 h8 h9 h10 v4)), (h5, .inl (k5, 400, .inr (.inl f5))), (h6, zi k6 400 f6), (h23, .inr (6, mX6 h24 h25 h26 h27 h28 h29 h30 h31 v23)), (h29, zi k29 400 f29), (h32, .inr (8, mX8 h23 (upd (upd (upd (upd (upd (upd (upd (upd v32 1 (u117_ 0)) 2 (u117_ 1)) 3 (u117_ 2)) 4 (u117_ 3)) 5 (u117_ 4)) 6 (u117_ 5)) 7 (u117_ 6)) 8 (u117_ 7)))), (h27, zi k27 400 f27), (h24, zi k24 1250 f24), (h25, zi k25 833 f25), (h26, zi k26 833 f26), (h28, zi k28 400 f28), (h18, .inr (0, mX0 h19 h20 h21 h22 v18)), (h19, zi k19 120 f19)] := hD
                exact W.iret (v := r117_) hx hb hr (fun t ht hW => ⟨⟨r117_, (fun i => ([(u117_ 0), (u117_ 1), (u117_ 2), (u117_ 3), (u117_ 4), (u117_ 5), (u117_ 6), (u117_ 7)] : List (Int32)).getD i 0), rfl, hpost, (fun _ => 0), (fun _ => (fun _ => 0)), (fun _ => (fun _ => 0)), by rw [ht]; exact hP9, va_K.moved hW.alike hK, hD9⟩, hS.F ht⟩) hS.2.2 dX11_posting_120
              · skip
                have b_ : x1.toInt ≠ 2 := fun h => c_ (zeqi.mpr (h.trans zk_2.symm))
                rcases Classical.em (x1 = (3 : Int32)) with c_ | c_
                · skip
                  have b_ : x1.toInt = 3 := by rw [c_]; exact zk_3
                  refine lv_tableIn (off := 70) (tgt := 121) hx hb dX11_posting_51 (by omega) (by omega) (by rw [b_]; decide) (by decide) ?_
                  refine lv_aload_n hx hb dX11_posting_121 rfl (lv_at hl 2 rfl) ?_
                  refine va_get (D := (dC, dI)) (ci := 11) (v := .ref h32) (C := RX11) (T := TX11) (N := 12) hx hb hG zuX11 hown hK hP 0 rfl rfl 5 (by decide) (hG _ zv562) (fun _ h9 => h9) rfl dX11_posting_122 ?_
                  refine lv_iload_n hx hb dX11_posting_125 rfl (lv_at hl 0 rfl) ?_
                  have hPc := hP.sub (ws' := [(h32, .inr (8, mX8 h23 v32)), (h23, .inr (6, mX6 h24 h25 h26 h27 h28 h29 h30 h31 v23)), (h29, zi k29 400 f29), (h27, zi k27 400 f27), (h24, zi k24 1250 f24), (h25, zi k25 833 f25), (h26, zi k26 833 f26), (h28, zi k28 400 f28)]) [6, 4, 5, 7, 8, 9, 10, 11] rfl
                  have hDc := hD.sub (ws' := [(h32, .inr (8, mX8 h23 v32)), (h23, .inr (6, mX6 h24 h25 h26 h27 h28 h29 h30 h31 v23)), (h29, zi k29 400 f29), (h27, zi k27 400 f27), (h24, zi k24 1250 f24), (h25, zi k25 833 f25), (h26, zi k26 833 f26), (h28, zi k28 400 f28)]) [6, 4, 5, 7, 8, 9, 10, 11] (by decide) rfl
                  have hKc := hK.sub (tys' := [(k29, .int), (k27, .int), (k24, .int), (k25, .int), (k26, .int), (k28, .int)]) [2, 3, 4, 5, 6, 7] rfl
                  have hFc := va_free (wc := [(h32, .inr (8, mX8 h23 v32)), (h23, .inr (6, mX6 h24 h25 h26 h27 h28 h29 h30 h31 v23)), (h29, zi k29 400 f29), (h27, zi k27 400 f27), (h24, zi k24 1250 f24), (h25, zi k25 833 f25), (h26, zi k26 833 f26), (h28, zi k28 400 f28)]) hD hS hA [6, 4, 5, 7, 8, 9, 10, 11] rfl
                  refine va_callv (va_runV (As := [.int r46_]) (rest := []) ⟨hx, hb, hml, hown, hG⟩ (sX8_open_0 l dC dI adK adV h32 h23 h29 h27 h24 h25 h26 h28 h30 h31 k29 k27 k24 k25 k26 k28 H.size v32 v23 f29 f27 f24 f25 f26 f28 r46_ hv23 hf25 hf28) (cwV 1 hG (zgV zv897 zv898 zv899 zv134 zv900) rfl rfl rfl (by decide +kernel) ⟨Nat.le_of_ble_eq_true rfl, Nat.le_of_ble_eq_true rfl⟩) ⟨zPc_blind, va_recv hKc hPc (ci := 8) (q0 := 0) rfl rfl, zPc_pre hPc hKc hDc hE hS hFc hZ⟩ rfl rfl hl.1 rfl (lv_room (Nat.le_of_ble_eq_true rfl)) dX11_posting_126 ⟨Nat.le_of_ble_eq_true rfl, Nat.le_of_ble_eq_true rfl⟩) hS (fun q _ h => hFc q h) hFc (fun u126_ t H1 locs ht hvm hw hB hz1 hk1 hS => ?_)
                  replace hw : (0 ≤ (u126_ 2).toInt ∧ (u126_ 2).toInt ≤ 0) ∧ (0 ≤ (u126_ 3).toInt ∧ (u126_ 3).toInt ≤ 0) ∧ ((-1) ≤ (u126_ 4).toInt ∧ (u126_ 4).toInt ≤ (-1)) ∧ (0 ≤ (u126_ 5).toInt ∧ (u126_ 5).toInt ≤ 0) ∧ (0 ≤ (u126_ 6).toInt ∧ (u126_ 6).toInt ≤ 0) ∧ ((u126_ 4).toInt = -1) ∧ ((u126_ 5).toInt = 0) ∧ ((u126_ 6).toInt = 0) ∧ (zW (0 ≤ r46_.toInt → r46_.toInt ≤ 399 → ∀ B : Nat → List Bool, zPB f24 f25 f26 f27 f28 f29 (v23 8).toInt (v23 9).toInt (v23 10).toInt (v23 11).toInt B → zRr f27 f26 B (u126_ 0).toInt (u126_ 1).toInt (u126_ 2).toInt (u126_ 3).toInt (B ((r46_ : Int32)).toNatClampNeg))) := hw
                  obtain ⟨b_, b_, b_, b_, b_, hX126_0, hX126_1, hX126_2, hX126_3⟩ := hw
                  obtain ⟨w126_, a126_, b126_, hP1, hK1, hD1⟩ := hB
                  rw [ht] at hP1
                  obtain ⟨hP, hD⟩ := va_join (wr := [(h0, .inr (11, mX11 h1 h4 h11 h18 h23 h32 h33 h40 h48 h49 sp0 lw0)), (h4, .inr (10, mX10 h5 h6 h7 h8 h9 h10 v4)), (h5, .inl (k5, 400, .inr (.inl f5))), (h6, zi k6 400 f6), (h18, .inr (0, mX0 h19 h20 h21 h22 v18)), (h19, zi k19 120 f19)]) (w1 := [(h32, .inr (8, mX8 h23 (upd (upd (upd (upd (upd (upd (upd v32 1 (u126_ 0)) 2 (u126_ 1)) 3 (u126_ 2)) 4 (u126_ 3)) 5 (u126_ 4)) 6 (u126_ 5)) 7 (u126_ 6)))), (h23, .inr (6, mX6 h24 h25 h26 h27 h28 h29 h30 h31 v23)), (h29, zi k29 400 f29), (h27, zi k27 400 f27), (h24, zi k24 1250 f24), (h25, zi k25 833 f25), (h26, zi k26 833 f26), (h28, zi k28 400 f28)]) hP hD [6, 4, 5, 7, 8, 9, 10, 11] [0, 1, 2, 3, 12, 13] rfl rfl (by decide) (by decide) hk1 hFc hP1 hD1
                  have hP : va_P (dC, dI) vwCl [(h0, .inr (11, mX11 h1 h4 h11 h18 h23 h32 h33 h40 h48 h49 sp0 lw0)), (h4, .inr (10, mX10 h5 h6 h7 h8 h9 h10 v4)), (h5, .inl (k5, 400, .inr (.inl f5))), (h6, zi k6 400 f6), (h23, .inr (6, mX6 h24 h25 h26 h27 h28 h29 h30 h31 v23)), (h29, zi k29 400 f29), (h32, .inr (8, mX8 h23 (upd (upd (upd (upd (upd (upd (upd v32 1 (u126_ 0)) 2 (u126_ 1)) 3 (u126_ 2)) 4 (u126_ 3)) 5 (u126_ 4)) 6 (u126_ 5)) 7 (u126_ 6)))), (h27, zi k27 400 f27), (h24, zi k24 1250 f24), (h25, zi k25 833 f25), (h26, zi k26 833 f26), (h28, zi k28 400 f28), (h18, .inr (0, mX0 h19 h20 h21 h22 v18)), (h19, zi k19 120 f19)] H1 := hP.sub [0, 1, 2, 3, 7, 8, 6, 9, 10, 11, 12, 13, 4, 5] rfl
                  have hD : va_D A [(h0, .inr (11, mX11 h1 h4 h11 h18 h23 h32 h33 h40 h48 h49 sp0 lw0)), (h4, .inr (10, mX10 h5 h6 h7 h8 h9 h10 v4)), (h5, .inl (k5, 400, .inr (.inl f5))), (h6, zi k6 400 f6), (h23, .inr (6, mX6 h24 h25 h26 h27 h28 h29 h30 h31 v23)), (h29, zi k29 400 f29), (h32, .inr (8, mX8 h23 (upd (upd (upd (upd (upd (upd (upd v32 1 (u126_ 0)) 2 (u126_ 1)) 3 (u126_ 2)) 4 (u126_ 3)) 5 (u126_ 4)) 6 (u126_ 5)) 7 (u126_ 6)))), (h27, zi k27 400 f27), (h24, zi k24 1250 f24), (h25, zi k25 833 f25), (h26, zi k26 833 f26), (h28, zi k28 400 f28), (h18, .inr (0, mX0 h19 h20 h21 h22 v18)), (h19, zi k19 120 f19)] := hD.sub [0, 1, 2, 3, 7, 8, 6, 9, 10, 11, 12, 13, 4, 5] (by decide) rfl
                  generalize H1 = H at hP hS ⊢
                  clear hz1
                  refine lv_aload_n hx hb dX11_posting_129 rfl (lv_at hl 2 rfl) ?_
                  refine va_get (D := (dC, dI)) (ci := 11) (v := .ref h32) (C := RX11) (T := TX11) (N := 12) hx hb hG zuX11 hown hK hP 0 rfl rfl 5 (by decide) (hG _ zv562) (fun _ h9 => h9) rfl dX11_posting_130 ?_
                  refine lv_aload_n hx hb dX11_posting_133 rfl (lv_at hl 2 rfl) ?_
                  refine va_get (D := (dC, dI)) (ci := 11) (v := .ref h18) (C := RX11) (T := TX11) (N := 12) hx hb hG zuX11 hown hK hP 0 rfl rfl 3 (by decide) (hG _ zv560) (fun _ h9 => h9) rfl dX11_posting_134 ?_
                  have b_ : -2147483648 ≤ (u126_ 0).toInt ∧ (u126_ 0).toInt ≤ 2147483647 := ⟨zlo _, zhi _⟩
                  have b_ : -2147483648 ≤ (u126_ 1).toInt ∧ (u126_ 1).toInt ≤ 2147483647 := ⟨zlo _, zhi _⟩
                  have hPc := hP.sub (ws' := [(h32, .inr (8, mX8 h23 (upd (upd (upd (upd (upd (upd (upd v32 1 (u126_ 0)) 2 (u126_ 1)) 3 (u126_ 2)) 4 (u126_ 3)) 5 (u126_ 4)) 6 (u126_ 5)) 7 (u126_ 6)))), (h23, .inr (6, mX6 h24 h25 h26 h27 h28 h29 h30 h31 v23)), (h26, zi k26 833 f26), (h25, zi k25 833 f25), (h24, zi k24 1250 f24), (h27, zi k27 400 f27), (h28, zi k28 400 f28), (h29, zi k29 400 f29), (h18, .inr (0, mX0 h19 h20 h21 h22 v18)), (h19, zi k19 120 f19)]) [6, 4, 10, 9, 8, 7, 11, 5, 12, 13] rfl
                  have hDc := hD.sub (ws' := [(h32, .inr (8, mX8 h23 (upd (upd (upd (upd (upd (upd (upd v32 1 (u126_ 0)) 2 (u126_ 1)) 3 (u126_ 2)) 4 (u126_ 3)) 5 (u126_ 4)) 6 (u126_ 5)) 7 (u126_ 6)))), (h23, .inr (6, mX6 h24 h25 h26 h27 h28 h29 h30 h31 v23)), (h26, zi k26 833 f26), (h25, zi k25 833 f25), (h24, zi k24 1250 f24), (h27, zi k27 400 f27), (h28, zi k28 400 f28), (h29, zi k29 400 f29), (h18, .inr (0, mX0 h19 h20 h21 h22 v18)), (h19, zi k19 120 f19)]) [6, 4, 10, 9, 8, 7, 11, 5, 12, 13] (by decide) rfl
                  have hKc := hK.sub (tys' := [(k26, .int), (k25, .int), (k24, .int), (k27, .int), (k28, .int), (k29, .int), (k19, .boolean)]) [6, 5, 4, 3, 7, 2, 8] rfl
                  have hFc := va_free (wc := [(h32, .inr (8, mX8 h23 (upd (upd (upd (upd (upd (upd (upd v32 1 (u126_ 0)) 2 (u126_ 1)) 3 (u126_ 2)) 4 (u126_ 3)) 5 (u126_ 4)) 6 (u126_ 5)) 7 (u126_ 6)))), (h23, .inr (6, mX6 h24 h25 h26 h27 h28 h29 h30 h31 v23)), (h26, zi k26 833 f26), (h25, zi k25 833 f25), (h24, zi k24 1250 f24), (h27, zi k27 400 f27), (h28, zi k28 400 f28), (h29, zi k29 400 f29), (h18, .inr (0, mX0 h19 h20 h21 h22 v18)), (h19, zi k19 120 f19)]) hD hS hA [6, 4, 10, 9, 8, 7, 11, 5, 12, 13] rfl
                  refine va_calli (va_runV (As := [.ref h18]) (rest := []) ⟨hx, hb, hml, hown, hG⟩ (sX8_tallyPlaces_0 l dC dI adK adV h32 h23 h26 h25 h24 h27 h28 h29 h18 h19 h30 h31 h20 h21 h22 k26 k25 k24 k27 k28 k29 k19 H.size (upd (upd (upd (upd (upd (upd (upd v32 1 (u126_ 0)) 2 (u126_ 1)) 3 (u126_ 2)) 4 (u126_ 3)) 5 (u126_ 4)) 6 (u126_ 5)) 7 (u126_ 6)) v23 f26 f25 f24 f27 f28 f29 v18 f19 hv23 hf25 hf28 hv18) (cwV 1 hG (zgV zv985 zv986 zv987 zv134 zv988) rfl rfl rfl (by decide +kernel) ⟨Nat.le_of_ble_eq_true rfl, Nat.le_of_ble_eq_true rfl⟩) ⟨zPc_blind, va_recv hKc hPc (ci := 8) (q0 := 0) rfl rfl, zPc_pre hPc hKc hDc hE hS hFc hZ⟩ rfl rfl hl.1 rfl (lv_room (Nat.le_of_ble_eq_true rfl)) dX11_posting_137 ⟨Nat.le_of_ble_eq_true rfl, Nat.le_of_ble_eq_true rfl⟩) hS (fun q _ h => hFc q h) hFc (fun r137_ u137_ t H1 locs ht hvm hw hB hz1 hk1 hS => ?_)
                  obtain ⟨w137_, a137_, b137_, hP1, hK1, hD1⟩ := hB
                  rw [ht] at hP1
                  obtain ⟨hP, hD⟩ := va_join (wr := [(h0, .inr (11, mX11 h1 h4 h11 h18 h23 h32 h33 h40 h48 h49 sp0 lw0)), (h4, .inr (10, mX10 h5 h6 h7 h8 h9 h10 v4)), (h5, .inl (k5, 400, .inr (.inl f5))), (h6, zi k6 400 f6)]) (w1 := [(h32, .inr (8, mX8 h23 (upd (upd (upd (upd (upd (upd (upd (upd v32 1 (u137_ 0)) 2 (u137_ 1)) 3 (u137_ 2)) 4 (u137_ 3)) 5 (u137_ 4)) 6 (u137_ 5)) 7 (u137_ 6)) 8 (u137_ 7)))), (h23, .inr (6, mX6 h24 h25 h26 h27 h28 h29 h30 h31 v23)), (h26, zi k26 833 f26), (h25, zi k25 833 f25), (h24, zi k24 1250 f24), (h27, zi k27 400 f27), (h28, zi k28 400 f28), (h29, zi k29 400 f29), (h18, .inr (0, mX0 h19 h20 h21 h22 v18)), (h19, zi k19 120 f19)]) hP hD [6, 4, 10, 9, 8, 7, 11, 5, 12, 13] [0, 1, 2, 3] rfl rfl (by decide) (by decide) hk1 hFc hP1 hD1
                  have hP : va_P (dC, dI) vwCl [(h0, .inr (11, mX11 h1 h4 h11 h18 h23 h32 h33 h40 h48 h49 sp0 lw0)), (h4, .inr (10, mX10 h5 h6 h7 h8 h9 h10 v4)), (h5, .inl (k5, 400, .inr (.inl f5))), (h6, zi k6 400 f6), (h23, .inr (6, mX6 h24 h25 h26 h27 h28 h29 h30 h31 v23)), (h29, zi k29 400 f29), (h32, .inr (8, mX8 h23 (upd (upd (upd (upd (upd (upd (upd (upd v32 1 (u137_ 0)) 2 (u137_ 1)) 3 (u137_ 2)) 4 (u137_ 3)) 5 (u137_ 4)) 6 (u137_ 5)) 7 (u137_ 6)) 8 (u137_ 7)))), (h27, zi k27 400 f27), (h24, zi k24 1250 f24), (h25, zi k25 833 f25), (h26, zi k26 833 f26), (h28, zi k28 400 f28), (h18, .inr (0, mX0 h19 h20 h21 h22 v18)), (h19, zi k19 120 f19)] H1 := hP.sub [0, 1, 2, 3, 5, 11, 4, 9, 8, 7, 6, 10, 12, 13] rfl
                  have hD : va_D A [(h0, .inr (11, mX11 h1 h4 h11 h18 h23 h32 h33 h40 h48 h49 sp0 lw0)), (h4, .inr (10, mX10 h5 h6 h7 h8 h9 h10 v4)), (h5, .inl (k5, 400, .inr (.inl f5))), (h6, zi k6 400 f6), (h23, .inr (6, mX6 h24 h25 h26 h27 h28 h29 h30 h31 v23)), (h29, zi k29 400 f29), (h32, .inr (8, mX8 h23 (upd (upd (upd (upd (upd (upd (upd (upd v32 1 (u137_ 0)) 2 (u137_ 1)) 3 (u137_ 2)) 4 (u137_ 3)) 5 (u137_ 4)) 6 (u137_ 5)) 7 (u137_ 6)) 8 (u137_ 7)))), (h27, zi k27 400 f27), (h24, zi k24 1250 f24), (h25, zi k25 833 f25), (h26, zi k26 833 f26), (h28, zi k28 400 f28), (h18, .inr (0, mX0 h19 h20 h21 h22 v18)), (h19, zi k19 120 f19)] := hD.sub [0, 1, 2, 3, 5, 11, 4, 9, 8, 7, 6, 10, 12, 13] (by decide) rfl
                  generalize H1 = H at hP hS ⊢
                  clear hz1
                  refine W.widen (k := 0) (n := 0) (by decide) (by decide) ?_
                  have b_ : -2147483648 ≤ r137_.toInt ∧ r137_.toInt ≤ 2147483647 := ⟨zlo _, zhi _⟩
                  have b_ : -2147483648 ≤ (u137_ 0).toInt ∧ (u137_ 0).toInt ≤ 2147483647 := ⟨zlo _, zhi _⟩
                  have b_ : -2147483648 ≤ (u137_ 1).toInt ∧ (u137_ 1).toInt ≤ 2147483647 := ⟨zlo _, zhi _⟩
                  have b_ : -2147483648 ≤ (u137_ 2).toInt ∧ (u137_ 2).toInt ≤ 2147483647 := ⟨zlo _, zhi _⟩
                  have b_ : -2147483648 ≤ (u137_ 3).toInt ∧ (u137_ 3).toInt ≤ 2147483647 := ⟨zlo _, zhi _⟩
                  have b_ : -2147483648 ≤ (u137_ 4).toInt ∧ (u137_ 4).toInt ≤ 2147483647 := ⟨zlo _, zhi _⟩
                  have b_ : -2147483648 ≤ (u137_ 5).toInt ∧ (u137_ 5).toInt ≤ 2147483647 := ⟨zlo _, zhi _⟩
                  have b_ : -2147483648 ≤ (u137_ 6).toInt ∧ (u137_ 6).toInt ≤ 2147483647 := ⟨zlo _, zhi _⟩
                  have b_ : -2147483648 ≤ (u137_ 7).toInt ∧ (u137_ 7).toInt ≤ 2147483647 := ⟨zlo _, zhi _⟩
                  have hpost : True := trivial
                  have hP9 : va_P (dC, dI) vwCl [(h0, .inr (11, mX11 h1 h4 h11 h18 h23 h32 h33 h40 h48 h49 sp0 lw0)), (h4, .inr (10, mX10 h5 h6 h7 h8 h9 h10 v4)), (h5, .inl (k5, 400, .inr (.inl f5))), (h6, zi k6 400 f6), (h23, .inr (6, mX6 h24 h25 h26 h27 h28 h29 h30 h31 v23)), (h29, zi k29 400 f29), (h32, .inr (8, mX8 h23 (upd (upd (upd (upd (upd (upd (upd (upd v32 1 (u137_ 0)) 2 (u137_ 1)) 3 (u137_ 2)) 4 (u137_ 3)) 5 (u137_ 4)) 6 (u137_ 5)) 7 (u137_ 6)) 8 (u137_ 7)))), (h27, zi k27 400 f27), (h24, zi k24 1250 f24), (h25, zi k25 833 f25), (h26, zi k26 833 f26), (h28, zi k28 400 f28), (h18, .inr (0, mX0 h19 h20 h21 h22 v18)), (h19, zi k19 120 f19)] H := hP
                  have hD9 : va_D A [(h0, .inr (11, mX11 h1 h4 h11 h18 h23 h32 h33 h40 h48 h49 sp0 lw0)), (h4, .inr (10, mX10 h5 h6 h7 h8 h9 h10 v4)), (h5, .inl (k5, 400, .inr (.inl f5))), (h6, zi k6 400 f6), (h23, .inr (6, mX6 h24 h25 h26 h27 h28 h29 h30 h31 v23)), (h29, zi k29 400 f29), (h32, .inr (8, mX8 h23 (upd (upd (upd (upd (upd (upd (upd (upd v32 1 (u137_ 0)) 2 (u137_ 1)) 3 (u137_ 2)) 4 (u137_ 3)) 5 (u137_ 4)) 6 (u137_ 5)) 7 (u137_ 6)) 8 (u137_ 7)))), (h27, zi k27 400 f27), (h24, zi k24 1250 f24), (h25, zi k25 833 f25), (h26, zi k26 833 f26), (h28, zi k28 400 f28), (h18, .inr (0, mX0 h19 h20 h21 h22 v18)), (h19, zi k19 120 f19)] := hD
                  exact W.iret (v := r137_) hx hb hr (fun t ht hW => ⟨⟨r137_, (fun i => ([(u137_ 0), (u137_ 1), (u137_ 2), (u137_ 3), (u137_ 4), (u137_ 5), (u137_ 6), (u137_ 7)] : List (Int32)).getD i 0), rfl, hpost, (fun _ => 0), (fun _ => (fun _ => 0)), (fun _ => (fun _ => 0)), by rw [ht]; exact hP9, va_K.moved hW.alike hK, hD9⟩, hS.F ht⟩) hS.2.2 dX11_posting_140
                · skip
                  have b_ : x1.toInt ≠ 3 := fun h => c_ (zeqi.mpr (h.trans zk_3.symm))
                  refine lv_tableOut (tgt := 141) hx hb dX11_posting_51 (by omega) (by decide) ?_
                  refine lv_iload_n hx hb dX11_posting_141 rfl (lv_at hl 1 rfl) ?_
                  refine W.widen (k := 0) (n := 0) (by decide) (by decide) ?_
                  have b_ : -2147483648 ≤ (v32 1).toInt ∧ (v32 1).toInt ≤ 2147483647 := ⟨zlo _, zhi _⟩
                  have b_ : -2147483648 ≤ (v32 2).toInt ∧ (v32 2).toInt ≤ 2147483647 := ⟨zlo _, zhi _⟩
                  have b_ : -2147483648 ≤ (v32 3).toInt ∧ (v32 3).toInt ≤ 2147483647 := ⟨zlo _, zhi _⟩
                  have b_ : -2147483648 ≤ (v32 4).toInt ∧ (v32 4).toInt ≤ 2147483647 := ⟨zlo _, zhi _⟩
                  have b_ : -2147483648 ≤ (v32 5).toInt ∧ (v32 5).toInt ≤ 2147483647 := ⟨zlo _, zhi _⟩
                  have b_ : -2147483648 ≤ (v32 6).toInt ∧ (v32 6).toInt ≤ 2147483647 := ⟨zlo _, zhi _⟩
                  have b_ : -2147483648 ≤ (v32 7).toInt ∧ (v32 7).toInt ≤ 2147483647 := ⟨zlo _, zhi _⟩
                  have b_ : -2147483648 ≤ (v32 8).toInt ∧ (v32 8).toInt ≤ 2147483647 := ⟨zlo _, zhi _⟩
                  have hpost : True := trivial
                  have hP9 : va_P (dC, dI) vwCl [(h0, .inr (11, mX11 h1 h4 h11 h18 h23 h32 h33 h40 h48 h49 sp0 lw0)), (h4, .inr (10, mX10 h5 h6 h7 h8 h9 h10 v4)), (h5, .inl (k5, 400, .inr (.inl f5))), (h6, zi k6 400 f6), (h23, .inr (6, mX6 h24 h25 h26 h27 h28 h29 h30 h31 v23)), (h29, zi k29 400 f29), (h32, .inr (8, mX8 h23 (upd (upd (upd (upd (upd (upd (upd (upd v32 1 (v32 1)) 2 (v32 2)) 3 (v32 3)) 4 (v32 4)) 5 (v32 5)) 6 (v32 6)) 7 (v32 7)) 8 (v32 8)))), (h27, zi k27 400 f27), (h24, zi k24 1250 f24), (h25, zi k25 833 f25), (h26, zi k26 833 f26), (h28, zi k28 400 f28), (h18, .inr (0, mX0 h19 h20 h21 h22 v18)), (h19, zi k19 120 f19)] H := hP
                  have hD9 : va_D A [(h0, .inr (11, mX11 h1 h4 h11 h18 h23 h32 h33 h40 h48 h49 sp0 lw0)), (h4, .inr (10, mX10 h5 h6 h7 h8 h9 h10 v4)), (h5, .inl (k5, 400, .inr (.inl f5))), (h6, zi k6 400 f6), (h23, .inr (6, mX6 h24 h25 h26 h27 h28 h29 h30 h31 v23)), (h29, zi k29 400 f29), (h32, .inr (8, mX8 h23 (upd (upd (upd (upd (upd (upd (upd (upd v32 1 (v32 1)) 2 (v32 2)) 3 (v32 3)) 4 (v32 4)) 5 (v32 5)) 6 (v32 6)) 7 (v32 7)) 8 (v32 8)))), (h27, zi k27 400 f27), (h24, zi k24 1250 f24), (h25, zi k25 833 f25), (h26, zi k26 833 f26), (h28, zi k28 400 f28), (h18, .inr (0, mX0 h19 h20 h21 h22 v18)), (h19, zi k19 120 f19)] := hD
                  exact W.iret (v := r30_) hx hb hr (fun t ht hW => ⟨⟨r30_, (fun i => ([(v32 1), (v32 2), (v32 3), (v32 4), (v32 5), (v32 6), (v32 7), (v32 8)] : List (Int32)).getD i 0), rfl, hpost, (fun _ => 0), (fun _ => (fun _ => 0)), (fun _ => (fun _ => 0)), by rw [ht]; exact hP9, va_K.moved hW.alike hK, hD9⟩, hS.F ht⟩) hS.2.2 dX11_posting_142
        · skip
          have b_ := zF_ne rfl zk_m1 c_
          refine lv_iconst (v := 0) hx hb dX11_posting_39 (by decide) ?_
          refine W.widen (k := 0) (n := 0) (by decide) (by decide) ?_
          have b_ : -2147483648 ≤ (v32 1).toInt ∧ (v32 1).toInt ≤ 2147483647 := ⟨zlo _, zhi _⟩
          have b_ : -2147483648 ≤ (v32 2).toInt ∧ (v32 2).toInt ≤ 2147483647 := ⟨zlo _, zhi _⟩
          have b_ : -2147483648 ≤ (v32 3).toInt ∧ (v32 3).toInt ≤ 2147483647 := ⟨zlo _, zhi _⟩
          have b_ : -2147483648 ≤ (v32 4).toInt ∧ (v32 4).toInt ≤ 2147483647 := ⟨zlo _, zhi _⟩
          have b_ : -2147483648 ≤ (v32 5).toInt ∧ (v32 5).toInt ≤ 2147483647 := ⟨zlo _, zhi _⟩
          have b_ : -2147483648 ≤ (v32 6).toInt ∧ (v32 6).toInt ≤ 2147483647 := ⟨zlo _, zhi _⟩
          have b_ : -2147483648 ≤ (v32 7).toInt ∧ (v32 7).toInt ≤ 2147483647 := ⟨zlo _, zhi _⟩
          have b_ : -2147483648 ≤ (v32 8).toInt ∧ (v32 8).toInt ≤ 2147483647 := ⟨zlo _, zhi _⟩
          have hpost : True := trivial
          have hP9 : va_P (dC, dI) vwCl [(h0, .inr (11, mX11 h1 h4 h11 h18 h23 h32 h33 h40 h48 h49 sp0 lw0)), (h4, .inr (10, mX10 h5 h6 h7 h8 h9 h10 v4)), (h5, .inl (k5, 400, .inr (.inl f5))), (h6, zi k6 400 f6), (h23, .inr (6, mX6 h24 h25 h26 h27 h28 h29 h30 h31 v23)), (h29, zi k29 400 f29), (h32, .inr (8, mX8 h23 (upd (upd (upd (upd (upd (upd (upd (upd v32 1 (v32 1)) 2 (v32 2)) 3 (v32 3)) 4 (v32 4)) 5 (v32 5)) 6 (v32 6)) 7 (v32 7)) 8 (v32 8)))), (h27, zi k27 400 f27), (h24, zi k24 1250 f24), (h25, zi k25 833 f25), (h26, zi k26 833 f26), (h28, zi k28 400 f28), (h18, .inr (0, mX0 h19 h20 h21 h22 v18)), (h19, zi k19 120 f19)] H := hP
          have hD9 : va_D A [(h0, .inr (11, mX11 h1 h4 h11 h18 h23 h32 h33 h40 h48 h49 sp0 lw0)), (h4, .inr (10, mX10 h5 h6 h7 h8 h9 h10 v4)), (h5, .inl (k5, 400, .inr (.inl f5))), (h6, zi k6 400 f6), (h23, .inr (6, mX6 h24 h25 h26 h27 h28 h29 h30 h31 v23)), (h29, zi k29 400 f29), (h32, .inr (8, mX8 h23 (upd (upd (upd (upd (upd (upd (upd (upd v32 1 (v32 1)) 2 (v32 2)) 3 (v32 3)) 4 (v32 4)) 5 (v32 5)) 6 (v32 6)) 7 (v32 7)) 8 (v32 8)))), (h27, zi k27 400 f27), (h24, zi k24 1250 f24), (h25, zi k25 833 f25), (h26, zi k26 833 f26), (h28, zi k28 400 f28), (h18, .inr (0, mX0 h19 h20 h21 h22 v18)), (h19, zi k19 120 f19)] := hD
          exact W.iret (v := 0) hx hb hr (fun t ht hW => ⟨⟨0, (fun i => ([(v32 1), (v32 2), (v32 3), (v32 4), (v32 5), (v32 6), (v32 7), (v32 8)] : List (Int32)).getD i 0), rfl, hpost, (fun _ => 0), (fun _ => (fun _ => 0)), (fun _ => (fun _ => 0)), by rw [ht]; exact hP9, va_K.moved hW.alike hK, hD9⟩, hS.F ht⟩) hS.2.2 dX11_posting_40
      · skip
        have b_ := zF_le rfl zk_4 c_
        refine lv_iconst (v := (-1)) hx hb dX11_posting_20 (by decide) ?_
        refine W.widen (k := 0) (n := 0) (by decide) (by decide) ?_
        have b_ : -2147483648 ≤ (v32 1).toInt ∧ (v32 1).toInt ≤ 2147483647 := ⟨zlo _, zhi _⟩
        have b_ : -2147483648 ≤ (v32 2).toInt ∧ (v32 2).toInt ≤ 2147483647 := ⟨zlo _, zhi _⟩
        have b_ : -2147483648 ≤ (v32 3).toInt ∧ (v32 3).toInt ≤ 2147483647 := ⟨zlo _, zhi _⟩
        have b_ : -2147483648 ≤ (v32 4).toInt ∧ (v32 4).toInt ≤ 2147483647 := ⟨zlo _, zhi _⟩
        have b_ : -2147483648 ≤ (v32 5).toInt ∧ (v32 5).toInt ≤ 2147483647 := ⟨zlo _, zhi _⟩
        have b_ : -2147483648 ≤ (v32 6).toInt ∧ (v32 6).toInt ≤ 2147483647 := ⟨zlo _, zhi _⟩
        have b_ : -2147483648 ≤ (v32 7).toInt ∧ (v32 7).toInt ≤ 2147483647 := ⟨zlo _, zhi _⟩
        have b_ : -2147483648 ≤ (v32 8).toInt ∧ (v32 8).toInt ≤ 2147483647 := ⟨zlo _, zhi _⟩
        have hpost : True := trivial
        have hP9 : va_P (dC, dI) vwCl [(h0, .inr (11, mX11 h1 h4 h11 h18 h23 h32 h33 h40 h48 h49 sp0 lw0)), (h4, .inr (10, mX10 h5 h6 h7 h8 h9 h10 v4)), (h5, .inl (k5, 400, .inr (.inl f5))), (h6, zi k6 400 f6), (h23, .inr (6, mX6 h24 h25 h26 h27 h28 h29 h30 h31 v23)), (h29, zi k29 400 f29), (h32, .inr (8, mX8 h23 (upd (upd (upd (upd (upd (upd (upd (upd v32 1 (v32 1)) 2 (v32 2)) 3 (v32 3)) 4 (v32 4)) 5 (v32 5)) 6 (v32 6)) 7 (v32 7)) 8 (v32 8)))), (h27, zi k27 400 f27), (h24, zi k24 1250 f24), (h25, zi k25 833 f25), (h26, zi k26 833 f26), (h28, zi k28 400 f28), (h18, .inr (0, mX0 h19 h20 h21 h22 v18)), (h19, zi k19 120 f19)] s.heap := hP
        have hD9 : va_D A [(h0, .inr (11, mX11 h1 h4 h11 h18 h23 h32 h33 h40 h48 h49 sp0 lw0)), (h4, .inr (10, mX10 h5 h6 h7 h8 h9 h10 v4)), (h5, .inl (k5, 400, .inr (.inl f5))), (h6, zi k6 400 f6), (h23, .inr (6, mX6 h24 h25 h26 h27 h28 h29 h30 h31 v23)), (h29, zi k29 400 f29), (h32, .inr (8, mX8 h23 (upd (upd (upd (upd (upd (upd (upd (upd v32 1 (v32 1)) 2 (v32 2)) 3 (v32 3)) 4 (v32 4)) 5 (v32 5)) 6 (v32 6)) 7 (v32 7)) 8 (v32 8)))), (h27, zi k27 400 f27), (h24, zi k24 1250 f24), (h25, zi k25 833 f25), (h26, zi k26 833 f26), (h28, zi k28 400 f28), (h18, .inr (0, mX0 h19 h20 h21 h22 v18)), (h19, zi k19 120 f19)] := hD
        exact W.iret (v := (-1)) hx hb hr (fun t ht hW => ⟨⟨(-1), (fun i => ([(v32 1), (v32 2), (v32 3), (v32 4), (v32 5), (v32 6), (v32 7), (v32 8)] : List (Int32)).getD i 0), rfl, hpost, (fun _ => 0), (fun _ => (fun _ => 0)), (fun _ => (fun _ => 0)), by rw [ht]; exact hP9, va_K.moved hW.alike hK, hD9⟩, hS.F ht⟩) hS.2.2 dX11_posting_21
set_option maxHeartbeats 8000000 in
set_option maxRecDepth 100000 in
theorem sX6_bitAt_0 (l : Launch) (dC : Nat → ClassId) (dI : Nat → Nat → Nat) (adK adV : Nat → Nat) (h0 : Nat) (h6 : Nat) (h4 : Nat) (h2 : Nat) (h1 : Nat) (h3 : Nat) (h5 : Nat) (h7 : Nat) (h8 : Nat) (k6 : ClassId) (k4 : ClassId) (k2 : ClassId) (k1 : ClassId) (k3 : ClassId) (sz : Nat) (v0 : Nat → Int32) (f6 : Nat → Int32) (f4 : Nat → Int32) (f2 : Nat → Int32) (f1 : Nat → Int32) (f3 : Nat → Int32) (x1 : Int32) (x2 : Int32) (hv0 : zR rg_Postings v0) (hf2 : zA 0 1250 f2) : Met l yX6_bitAt (zw yX6_bitAt cX6_bitAt 6 (some .int)) { frames := 2, cells := 0, slots := 0, locals := 41 } (zPc dC dI adK adV [.ref h0, .int x1, .int x2] sz [(h0, .inr (6, mX6 h1 h2 h3 h4 h5 h6 h7 h8 v0)), (h6, zi k6 400 f6), (h4, zi k4 400 f4), (h2, zi k2 833 f2), (h1, zi k1 1250 f1), (h3, zi k3 833 f3)] [(k6, .int), (k4, .int), (k2, .int), (k1, .int), (k3, .int)]) (va_Qi (fun (r : Int32) (u : Nat → Int32) => (0 ≤ r.toInt ∧ r.toInt ≤ 1)) (fun (u : Nat → Int32) (t : State) => ∃ (ww : Nat → Int64) (aa : Nat → Nat → Int32) (bb : Nat → Nat → Int64), va_P (dC, dI) vwCl [(h0, .inr (6, mX6 h1 h2 h3 h4 h5 h6 h7 h8 v0)), (h6, zi k6 400 f6), (h4, zi k4 400 f4), (h2, zi k2 833 f2), (h1, zi k1 1250 f1), (h3, zi k3 833 f3)] t.heap ∧ va_K (dC, dI) vwCl [(k6, .int), (k4, .int), (k2, .int), (k1, .int), (k3, .int)] t ∧ va_D (va_A [(h0, .inr (6, mX6 h1 h2 h3 h4 h5 h6 h7 h8 v0)), (h6, zi k6 400 f6), (h4, zi k4 400 f4), (h2, zi k2 833 f2), (h1, zi k1 1250 f1), (h3, zi k3 833 f3)] sz) [(h0, .inr (6, mX6 h1 h2 h3 h4 h5 h6 h7 h8 v0)), (h6, zi k6 400 f6), (h4, zi k4 400 f4), (h2, zi k2 833 f2), (h1, zi k1 1250 f1), (h3, zi k3 833 f3)]) (va_A [(h0, .inr (6, mX6 h1 h2 h3 h4 h5 h6 h7 h8 v0)), (h6, zi k6 400 f6), (h4, zi k4 400 f4), (h2, zi k2 833 f2), (h1, zi k1 1250 f1), (h3, zi k3 833 f3)] sz)) 0 0 (va_A [(h0, .inr (6, mX6 h1 h2 h3 h4 h5 h6 h7 h8 v0)), (h6, zi k6 400 f6), (h4, zi k4 400 f4), (h2, zi k2 833 f2), (h1, zi k1 1250 f1), (h3, zi k3 833 f3)] sz) := by
  refine Met.ofW (cc := cX6_bitAt) (maxL := 6) (ret := (some .int)) (by decide) rfl ?_
  intro p e s m args below meth c s₁ B hml hv
  obtain ⟨rfl, hsz, hP, hK, hD0, hE, hZ⟩ := hv
  have hx := B.exec
  have hb := B.bytes
  have hr := B.returns
  have hG : ∀ w ∈ zG, w.before _ s = true := fun w h => atoms_spec (ws := (zw yX6_bitAt cX6_bitAt 6 (some .int))) B.pre w (List.mem_cons_of_mem _ h)
  have hown : s.vm.findClass RX6 = some m.cls := findClass_of_methodNamed B.named
  have hlocks := B.notSynchronized

  subst hsz
  have hD := hD0.self (sz := s.heap.size)
  generalize hAe : va_A [(h0, .inr (6, mX6 h1 h2 h3 h4 h5 h6 h7 h8 v0)), (h6, zi k6 400 f6), (h4, zi k4 400 f4), (h2, zi k2 833 f2), (h1, zi k1 1250 f1), (h3, zi k3 833 f3)] s.heap.size = A at hD hZ ⊢
  have hA : ∀ q : Nat, s.heap.size ≤ q → A q := fun q h => by rw [← hAe]; exact Or.inr h
  have hS : va_S A s.heap s.heap [] := va_S.rf
  have hl := lv_entry ([.ref h0, .int x1, .int x2]) (n := 6) (Nat.le_of_ble_eq_true rfl)
  rw [lg_entry_eq]
  generalize (lg_sl ([.ref h0, .int x1, .int x2]) ++ List.replicate (6 - (lg_sl ([.ref h0, .int x1, .int x2])).length) Slot.unset).toArray = ls at hl ⊢
  have hl : lv_has ls 6 [(0, .ref h0), (1, .int x1), (2, .int x2)] := hl
  have b_ := zk_0
  refine lv_iload_n hx hb dX6_bitAt_0 rfl (lv_at hl 2 rfl) ?_
  have hPc := hP.sub (ws' := []) [] rfl
  have hDc := hD.sub (ws' := []) [] (by decide) rfl
  have hKc := hK.sub (tys' := []) [] rfl
  have hFc := va_free (wc := []) hD hS hA [] rfl
  refine va_calli (va_runS (As := [.int x2]) (rest := []) ⟨hx, hb, hml, hown, hG⟩ (sX6_chunkOf_0 l dC dI adK adV s.heap.size x2) (va_cwS 1 hG (zgS zv802 zv803 zv133 zv804) rfl rfl rfl (by decide +kernel) ⟨Nat.le_of_ble_eq_true rfl, Nat.le_of_ble_eq_true rfl⟩) ⟨zPc_blind, zPc_pre hPc hKc hDc hE hS hFc hZ⟩ rfl rfl hl.1 rfl (lv_room (Nat.le_of_ble_eq_true rfl)) dX6_bitAt_1 ⟨Nat.le_of_ble_eq_true rfl, Nat.le_of_ble_eq_true rfl⟩) hS (fun q _ h => hFc q h) hFc (fun r1_ u1_ t H1 locs ht hvm hw hB hz1 hk1 hS => ?_)
  replace hw : (0 ≤ r1_.toInt ∧ r1_.toInt ≤ 8388610) ∧ (0 ≤ x2.toInt → zCk x2.toInt r1_.toInt) := hw
  obtain ⟨b_, hX1_0⟩ := hw
  obtain ⟨w1_, a1_, b1_, hP1, hK1, hD1⟩ := hB
  rw [ht] at hP1
  obtain ⟨hP, hD⟩ := va_join (wr := [(h0, .inr (6, mX6 h1 h2 h3 h4 h5 h6 h7 h8 v0)), (h6, zi k6 400 f6), (h4, zi k4 400 f4), (h2, zi k2 833 f2), (h1, zi k1 1250 f1), (h3, zi k3 833 f3)]) (w1 := []) hP hD [] [0, 1, 2, 3, 4, 5] rfl rfl (by decide) (by decide) hk1 hFc hP1 hD1
  have hP : va_P (dC, dI) vwCl [(h0, .inr (6, mX6 h1 h2 h3 h4 h5 h6 h7 h8 v0)), (h6, zi k6 400 f6), (h4, zi k4 400 f4), (h2, zi k2 833 f2), (h1, zi k1 1250 f1), (h3, zi k3 833 f3)] H1 := hP.sub [0, 1, 2, 3, 4, 5] rfl
  have hD : va_D A [(h0, .inr (6, mX6 h1 h2 h3 h4 h5 h6 h7 h8 v0)), (h6, zi k6 400 f6), (h4, zi k4 400 f4), (h2, zi k2 833 f2), (h1, zi k1 1250 f1), (h3, zi k3 833 f3)] := hD.sub [0, 1, 2, 3, 4, 5] (by decide) rfl
  generalize H1 = H at hP hS ⊢
  clear hz1
  refine lv_istore_n (lv' := [(3, .int r1_), (0, .ref h0), (1, .int x1), (2, .int x2)]) hx hb dX6_bitAt_4 rfl hl (by decide) rfl (fun ls hl => ?_)
  refine lv_aload_n hx hb dX6_bitAt_5 rfl (lv_at hl 1 rfl) ?_
  refine lv_iload_n hx hb dX6_bitAt_6 rfl (lv_at hl 2 rfl) ?_
  have hPc := hP.sub (ws' := [(h0, .inr (6, mX6 h1 h2 h3 h4 h5 h6 h7 h8 v0)), (h6, zi k6 400 f6), (h4, zi k4 400 f4)]) [0, 1, 2] rfl
  have hDc := hD.sub (ws' := [(h0, .inr (6, mX6 h1 h2 h3 h4 h5 h6 h7 h8 v0)), (h6, zi k6 400 f6), (h4, zi k4 400 f4)]) [0, 1, 2] (by decide) rfl
  have hKc := hK.sub (tys' := [(k6, .int), (k4, .int)]) [0, 1] rfl
  have hFc := va_free (wc := [(h0, .inr (6, mX6 h1 h2 h3 h4 h5 h6 h7 h8 v0)), (h6, zi k6 400 f6), (h4, zi k4 400 f4)]) hD hS hA [0, 1, 2] rfl
  refine va_calli (va_runV (As := [.int x1]) (rest := []) ⟨hx, hb, hml, hown, hG⟩ (sX6_firstChunkOf_0 l dC dI adK adV h0 h6 h4 h1 h2 h3 h5 h7 h8 k6 k4 H.size v0 f6 f4 x1 hv0) (cwV 1 hG (zgV zv1496 zv903 zv904 zv133 zv905) rfl rfl rfl (by decide +kernel) ⟨Nat.le_of_ble_eq_true rfl, Nat.le_of_ble_eq_true rfl⟩) ⟨zPc_blind, va_recv hKc hPc (ci := 6) (q0 := 0) rfl rfl, zPc_pre hPc hKc hDc hE hS hFc hZ⟩ rfl rfl hl.1 rfl (lv_room (Nat.le_of_ble_eq_true rfl)) dX6_bitAt_7 ⟨Nat.le_of_ble_eq_true rfl, Nat.le_of_ble_eq_true rfl⟩) hS (fun q _ h => hFc q h) hFc (fun r7_ u7_ t H1 locs ht hvm hw hB hz1 hk1 hS => ?_)
  replace hw : (zW (0 ≤ x1.toInt → x1.toInt ≤ 399 → 0 < (f6 ((x1 : Int32)).toNatClampNeg).toInt → r7_.toInt = (f4 ((x1 : Int32)).toNatClampNeg).toInt)) := hw
  have hX7_0 := hw
  obtain ⟨w7_, a7_, b7_, hP1, hK1, hD1⟩ := hB
  rw [ht] at hP1
  obtain ⟨hP, hD⟩ := va_join (wr := [(h2, zi k2 833 f2), (h1, zi k1 1250 f1), (h3, zi k3 833 f3)]) (w1 := [(h0, .inr (6, mX6 h1 h2 h3 h4 h5 h6 h7 h8 v0)), (h6, zi k6 400 f6), (h4, zi k4 400 f4)]) hP hD [0, 1, 2] [3, 4, 5] rfl rfl (by decide) (by decide) hk1 hFc hP1 hD1
  have hP : va_P (dC, dI) vwCl [(h0, .inr (6, mX6 h1 h2 h3 h4 h5 h6 h7 h8 v0)), (h6, zi k6 400 f6), (h4, zi k4 400 f4), (h2, zi k2 833 f2), (h1, zi k1 1250 f1), (h3, zi k3 833 f3)] H1 := hP.sub [3, 4, 5, 0, 1, 2] rfl
  have hD : va_D A [(h0, .inr (6, mX6 h1 h2 h3 h4 h5 h6 h7 h8 v0)), (h6, zi k6 400 f6), (h4, zi k4 400 f4), (h2, zi k2 833 f2), (h1, zi k1 1250 f1), (h3, zi k3 833 f3)] := hD.sub [3, 4, 5, 0, 1, 2] (by decide) rfl
  generalize H1 = H at hP hS ⊢
  clear hz1
  refine lv_istore (lv' := [(4, .int r7_), (3, .int r1_), (0, .ref h0), (1, .int x1), (2, .int x2)]) hx hb dX6_bitAt_10 hl (by decide) rfl (fun ls hl => ?_)
  refine lv_iconst (v := 0) hx hb dX6_bitAt_12 (by decide) ?_
  refine lv_istore (lv' := [(5, .int 0), (4, .int r7_), (3, .int r1_), (0, .ref h0), (1, .int x1), (2, .int x2)]) hx hb dX6_bitAt_13 hl (by decide) rfl (fun ls hl => ?_)
  refine zcutL (fun u15_ => (999999999 - (u15_ 1).toInt).toNat) (fun H locs ls u15_ w15_ a15_ b15_ => va_P (dC, dI) vwCl [(h0, .inr (6, mX6 h1 h2 h3 h4 h5 h6 h7 h8 v0)), (h6, zi k6 400 f6), (h4, zi k4 400 f4), (h2, zi k2 833 f2), (h1, zi k1 1250 f1), (h3, zi k3 833 f3)] H ∧ va_D A [(h0, .inr (6, mX6 h1 h2 h3 h4 h5 h6 h7 h8 v0)), (h6, zi k6 400 f6), (h4, zi k4 400 f4), (h2, zi k2 833 f2), (h1, zi k1 1250 f1), (h3, zi k3 833 f3)] ∧ va_S A s.heap H locs ∧ lv_has ls 6 [(0, .ref h0), (1, .int x1), (2, .int x2), (3, .int r1_), (4, .int (u15_ 0)), (5, .int (u15_ 1))] ∧ (0 ≤ (u15_ 1).toInt ∧ (u15_ 1).toInt ≤ 999999999)) (fun ls u15_ w15_ => F0 m 15 ls []) 0 0 ?_ (fun hJ15 => ?_)
  · skip
    intro H locs ls u15_ w15_ a15_ b15_ hc hJ15
    obtain ⟨hP, hD, hS, hl, b_⟩ := hc
    refine lv_iload hx hb dX6_bitAt_15 (lv_at hl 5 rfl) ?_
    refine lv_iload_n hx hb dX6_bitAt_17 rfl (lv_at hl 3 rfl) ?_
    refine lv_icmp_ge (tgt := 35) hx hb dX6_bitAt_18 (by decide) (fun c_ => ?_) (fun c_ => ?_)
    · skip
      have b_ := zT_ge rfl rfl c_
      refine lv_aload_n hx hb dX6_bitAt_35 rfl (lv_at hl 0 rfl) ?_
      refine lv_iload hx hb dX6_bitAt_36 (lv_at hl 4 rfl) ?_
      refine lv_iload_n hx hb dX6_bitAt_38 rfl (lv_at hl 2 rfl) ?_
      refine lv_iload_n hx hb dX6_bitAt_39 rfl (lv_at hl 3 rfl) ?_
      have hPc := hP.sub (ws' := []) [] rfl
      have hDc := hD.sub (ws' := []) [] (by decide) rfl
      have hKc := hK.sub (tys' := []) [] rfl
      have hFc := va_free (wc := []) hD hS hA [] rfl
      refine va_calli (va_runS (As := [.int r1_]) (rest := [.int x2, .int (u15_ 0), .ref h0]) ⟨hx, hb, hml, hown, hG⟩ (sX6_roomOf_0 l dC dI adK adV H.size r1_) (va_cwS 1 hG (zgS zv805 zv806 zv133 zv807) rfl rfl rfl (by decide +kernel) ⟨Nat.le_of_ble_eq_true rfl, Nat.le_of_ble_eq_true rfl⟩) ⟨zPc_blind, zPc_pre hPc hKc hDc hE hS hFc hZ⟩ rfl rfl hl.1 rfl (lv_room (Nat.le_of_ble_eq_true rfl)) dX6_bitAt_40 ⟨Nat.le_of_ble_eq_true rfl, Nat.le_of_ble_eq_true rfl⟩) hS (fun q _ h => hFc q h) hFc (fun r40_ u40_ t H1 locs ht hvm hw hB hz1 hk1 hS => ?_)
      replace hw : (0 ≤ r1_.toInt → r1_.toInt ≤ 1000 → zRo r1_.toInt r40_.toInt) := hw
      have hX40_0 := hw
      obtain ⟨w40_, a40_, b40_, hP1, hK1, hD1⟩ := hB
      rw [ht] at hP1
      obtain ⟨hP, hD⟩ := va_join (wr := [(h0, .inr (6, mX6 h1 h2 h3 h4 h5 h6 h7 h8 v0)), (h6, zi k6 400 f6), (h4, zi k4 400 f4), (h2, zi k2 833 f2), (h1, zi k1 1250 f1), (h3, zi k3 833 f3)]) (w1 := []) hP hD [] [0, 1, 2, 3, 4, 5] rfl rfl (by decide) (by decide) hk1 hFc hP1 hD1
      have hP : va_P (dC, dI) vwCl [(h0, .inr (6, mX6 h1 h2 h3 h4 h5 h6 h7 h8 v0)), (h6, zi k6 400 f6), (h4, zi k4 400 f4), (h2, zi k2 833 f2), (h1, zi k1 1250 f1), (h3, zi k3 833 f3)] H1 := hP.sub [0, 1, 2, 3, 4, 5] rfl
      have hD : va_D A [(h0, .inr (6, mX6 h1 h2 h3 h4 h5 h6 h7 h8 v0)), (h6, zi k6 400 f6), (h4, zi k4 400 f4), (h2, zi k2 833 f2), (h1, zi k1 1250 f1), (h3, zi k3 833 f3)] := hD.sub [0, 1, 2, 3, 4, 5] (by decide) rfl
      generalize H1 = H at hP hS ⊢
      clear hz1
      have b_ : -2147483648 ≤ x2.toInt ∧ x2.toInt ≤ 2147483647 := ⟨zlo _, zhi _⟩
      have b_ : -2147483648 ≤ r40_.toInt ∧ r40_.toInt ≤ 2147483647 := ⟨zlo _, zhi _⟩
      refine lv_isub hx hb dX6_bitAt_43 ?_
      refine lv_topi (fun z43 e_z43 => ?_)
      have hPc := hP.sub (ws' := [(h0, .inr (6, mX6 h1 h2 h3 h4 h5 h6 h7 h8 v0)), (h2, zi k2 833 f2), (h1, zi k1 1250 f1)]) [0, 3, 4] rfl
      have hDc := hD.sub (ws' := [(h0, .inr (6, mX6 h1 h2 h3 h4 h5 h6 h7 h8 v0)), (h2, zi k2 833 f2), (h1, zi k1 1250 f1)]) [0, 3, 4] (by decide) rfl
      have hKc := hK.sub (tys' := [(k2, .int), (k1, .int)]) [2, 3] rfl
      have hFc := va_free (wc := [(h0, .inr (6, mX6 h1 h2 h3 h4 h5 h6 h7 h8 v0)), (h2, zi k2 833 f2), (h1, zi k1 1250 f1)]) hD hS hA [0, 3, 4] rfl
      refine va_calli (va_runV (As := [.int (u15_ 0), .int z43]) (rest := []) ⟨hx, hb, hml, hown, hG⟩ (sX6_bitInChunk_0 l dC dI adK adV h0 h2 h1 h3 h4 h5 h6 h7 h8 k2 k1 H.size v0 f2 f1 (u15_ 0) z43 hv0 hf2) (cwV 2 hG (zgV zv1498 zv928 zv929 zv133 zv930) rfl rfl rfl (by decide +kernel) ⟨Nat.le_of_ble_eq_true rfl, Nat.le_of_ble_eq_true rfl⟩) ⟨zPc_blind, va_recv hKc hPc (ci := 6) (q0 := 0) rfl rfl, zPc_pre hPc hKc hDc hE hS hFc hZ⟩ rfl rfl hl.1 rfl (lv_room (Nat.le_of_ble_eq_true rfl)) dX6_bitAt_44 ⟨Nat.le_of_ble_eq_true rfl, Nat.le_of_ble_eq_true rfl⟩) hS (fun q _ h => hFc q h) hFc (fun r44_ u44_ t H1 locs ht hvm hw hB hz1 hk1 hS => ?_)
      replace hw : (0 ≤ r44_.toInt ∧ r44_.toInt ≤ 1) ∧ (zBi f1 f2 (v0 8).toInt ((u15_ 0) : Int32) z43.toInt r44_.toInt) := hw
      obtain ⟨b_, hX44_0⟩ := hw
      obtain ⟨w44_, a44_, b44_, hP1, hK1, hD1⟩ := hB
      rw [ht] at hP1
      obtain ⟨hP, hD⟩ := va_join (wr := [(h6, zi k6 400 f6), (h4, zi k4 400 f4), (h3, zi k3 833 f3)]) (w1 := [(h0, .inr (6, mX6 h1 h2 h3 h4 h5 h6 h7 h8 v0)), (h2, zi k2 833 f2), (h1, zi k1 1250 f1)]) hP hD [0, 3, 4] [1, 2, 5] rfl rfl (by decide) (by decide) hk1 hFc hP1 hD1
      have hP : va_P (dC, dI) vwCl [(h0, .inr (6, mX6 h1 h2 h3 h4 h5 h6 h7 h8 v0)), (h6, zi k6 400 f6), (h4, zi k4 400 f4), (h2, zi k2 833 f2), (h1, zi k1 1250 f1), (h3, zi k3 833 f3)] H1 := hP.sub [3, 0, 1, 4, 5, 2] rfl
      have hD : va_D A [(h0, .inr (6, mX6 h1 h2 h3 h4 h5 h6 h7 h8 v0)), (h6, zi k6 400 f6), (h4, zi k4 400 f4), (h2, zi k2 833 f2), (h1, zi k1 1250 f1), (h3, zi k3 833 f3)] := hD.sub [3, 0, 1, 4, 5, 2] (by decide) rfl
      generalize H1 = H at hP hS ⊢
      clear hz1
      refine W.widen (k := 0) (n := 0) (by decide) (by decide) ?_
      have hpost : (0 ≤ r44_.toInt ∧ r44_.toInt ≤ 1) := (by first | with_reducible assumption | exact ⟨by omega, by omega⟩)
      have hP9 : va_P (dC, dI) vwCl [(h0, .inr (6, mX6 h1 h2 h3 h4 h5 h6 h7 h8 v0)), (h6, zi k6 400 f6), (h4, zi k4 400 f4), (h2, zi k2 833 f2), (h1, zi k1 1250 f1), (h3, zi k3 833 f3)] H := hP
      have hD9 : va_D A [(h0, .inr (6, mX6 h1 h2 h3 h4 h5 h6 h7 h8 v0)), (h6, zi k6 400 f6), (h4, zi k4 400 f4), (h2, zi k2 833 f2), (h1, zi k1 1250 f1), (h3, zi k3 833 f3)] := hD
      exact W.iret (v := r44_) hx hb hr (fun t ht hW => ⟨⟨r44_, (fun _ => 0), rfl, hpost, (fun _ => 0), (fun _ => (fun _ => 0)), (fun _ => (fun _ => 0)), by rw [ht]; exact hP9, va_K.moved hW.alike hK, hD9⟩, hS.F ht⟩) hS.2.2 dX6_bitAt_47
    · skip
      have b_ := zF_ge rfl rfl c_
      refine lv_aload_n hx hb dX6_bitAt_21 rfl (lv_at hl 0 rfl) ?_
      refine lv_iload hx hb dX6_bitAt_22 (lv_at hl 4 rfl) ?_
      have hPc := hP.sub (ws' := [(h0, .inr (6, mX6 h1 h2 h3 h4 h5 h6 h7 h8 v0)), (h3, zi k3 833 f3)]) [0, 5] rfl
      have hDc := hD.sub (ws' := [(h0, .inr (6, mX6 h1 h2 h3 h4 h5 h6 h7 h8 v0)), (h3, zi k3 833 f3)]) [0, 5] (by decide) rfl
      have hKc := hK.sub (tys' := [(k3, .int)]) [4] rfl
      have hFc := va_free (wc := [(h0, .inr (6, mX6 h1 h2 h3 h4 h5 h6 h7 h8 v0)), (h3, zi k3 833 f3)]) hD hS hA [0, 5] rfl
      refine va_calli (va_runV (As := [.int (u15_ 0)]) (rest := []) ⟨hx, hb, hml, hown, hG⟩ (sX6_chunkBehind_0 l dC dI adK adV h0 h3 h1 h2 h4 h5 h6 h7 h8 k3 H.size v0 f3 (u15_ 0) hv0) (cwV 1 hG (zgV zv1497 zv924 zv925 zv133 zv926) rfl rfl rfl (by decide +kernel) ⟨Nat.le_of_ble_eq_true rfl, Nat.le_of_ble_eq_true rfl⟩) ⟨zPc_blind, va_recv hKc hPc (ci := 6) (q0 := 0) rfl rfl, zPc_pre hPc hKc hDc hE hS hFc hZ⟩ rfl rfl hl.1 rfl (lv_room (Nat.le_of_ble_eq_true rfl)) dX6_bitAt_24 ⟨Nat.le_of_ble_eq_true rfl, Nat.le_of_ble_eq_true rfl⟩) hS (fun q _ h => hFc q h) hFc (fun r24_ u24_ t H1 locs ht hvm hw hB hz1 hk1 hS => ?_)
      replace hw : (0 ≤ (u15_ 0).toInt ∧ (u15_ 0).toInt < (v0 8).toInt → r24_.toInt = (f3 (((u15_ 0) : Int32)).toNatClampNeg).toInt) := hw
      have hX24_0 := hw
      obtain ⟨w24_, a24_, b24_, hP1, hK1, hD1⟩ := hB
      rw [ht] at hP1
      obtain ⟨hP, hD⟩ := va_join (wr := [(h6, zi k6 400 f6), (h4, zi k4 400 f4), (h2, zi k2 833 f2), (h1, zi k1 1250 f1)]) (w1 := [(h0, .inr (6, mX6 h1 h2 h3 h4 h5 h6 h7 h8 v0)), (h3, zi k3 833 f3)]) hP hD [0, 5] [1, 2, 3, 4] rfl rfl (by decide) (by decide) hk1 hFc hP1 hD1
      have hP : va_P (dC, dI) vwCl [(h0, .inr (6, mX6 h1 h2 h3 h4 h5 h6 h7 h8 v0)), (h6, zi k6 400 f6), (h4, zi k4 400 f4), (h2, zi k2 833 f2), (h1, zi k1 1250 f1), (h3, zi k3 833 f3)] H1 := hP.sub [4, 0, 1, 2, 3, 5] rfl
      have hD : va_D A [(h0, .inr (6, mX6 h1 h2 h3 h4 h5 h6 h7 h8 v0)), (h6, zi k6 400 f6), (h4, zi k4 400 f4), (h2, zi k2 833 f2), (h1, zi k1 1250 f1), (h3, zi k3 833 f3)] := hD.sub [4, 0, 1, 2, 3, 5] (by decide) rfl
      generalize H1 = H at hP hS ⊢
      clear hz1
      refine lv_istore (lv' := [(4, .int r24_), (0, .ref h0), (1, .int x1), (2, .int x2), (3, .int r1_), (5, .int (u15_ 1))]) hx hb dX6_bitAt_27 hl (by decide) rfl (fun ls hl => ?_)
      obtain ⟨z29, e_z29⟩ : ∃ z : Int32, z = (u15_ 1) + Int32.ofInt 1 := ⟨_, rfl⟩
      have b_ := zadd (x := (u15_ 1)) (y := Int32.ofInt 1) rfl (show (Int32.ofInt 1).toInt = 1 from by decide) e_z29 (by omega) (by omega)
      refine lv_iinc (v := z29) (lv' := [(5, .int z29), (4, .int r24_), (0, .ref h0), (1, .int x1), (2, .int x2), (3, .int r1_)]) hx hb dX6_bitAt_29 hl (k := 5) rfl e_z29.symm (by decide) rfl (fun ls hl => ?_)
      refine lv_goto (tgt := 15) hx hb dX6_bitAt_32 (by decide) ?_
      have b_ : -2147483648 ≤ x1.toInt ∧ x1.toInt ≤ 2147483647 := ⟨zlo _, zhi _⟩
      have b_ : -2147483648 ≤ x2.toInt ∧ x2.toInt ≤ 2147483647 := ⟨zlo _, zhi _⟩
      have b_ : -2147483648 ≤ r24_.toInt ∧ r24_.toInt ≤ 2147483647 := ⟨zlo _, zhi _⟩
      have hc : va_P (dC, dI) vwCl [(h0, .inr (6, mX6 h1 h2 h3 h4 h5 h6 h7 h8 v0)), (h6, zi k6 400 f6), (h4, zi k4 400 f4), (h2, zi k2 833 f2), (h1, zi k1 1250 f1), (h3, zi k3 833 f3)] H ∧ va_D A [(h0, .inr (6, mX6 h1 h2 h3 h4 h5 h6 h7 h8 v0)), (h6, zi k6 400 f6), (h4, zi k4 400 f4), (h2, zi k2 833 f2), (h1, zi k1 1250 f1), (h3, zi k3 833 f3)] ∧ va_S A s.heap H locs ∧ lv_has ls 6 [(0, .ref h0), (1, .int x1), (2, .int x2), (3, .int r1_), (4, .int r24_), (5, .int z29)] ∧ (0 ≤ z29.toInt ∧ z29.toInt ≤ 999999999) := ⟨hP, hD, hS, lv_sub hl [2, 3, 4, 5, 1, 0] rfl, (by first | with_reducible assumption | exact ⟨by omega, by omega⟩)⟩
      exact hJ15 H locs ls (fun i => ([r24_, z29] : List (Int32)).getD i 0) (fun _ => 0) (fun _ => (fun _ => 0)) (fun _ => (fun _ => 0)) hc (show (999999999 - z29.toInt).toNat < (999999999 - (u15_ 1).toInt).toNat from by omega)
  · skip
    have b_ : -2147483648 ≤ x1.toInt ∧ x1.toInt ≤ 2147483647 := ⟨zlo _, zhi _⟩
    have b_ : -2147483648 ≤ x2.toInt ∧ x2.toInt ≤ 2147483647 := ⟨zlo _, zhi _⟩
    have b_ : -2147483648 ≤ r7_.toInt ∧ r7_.toInt ≤ 2147483647 := ⟨zlo _, zhi _⟩
    have hc : va_P (dC, dI) vwCl [(h0, .inr (6, mX6 h1 h2 h3 h4 h5 h6 h7 h8 v0)), (h6, zi k6 400 f6), (h4, zi k4 400 f4), (h2, zi k2 833 f2), (h1, zi k1 1250 f1), (h3, zi k3 833 f3)] H ∧ va_D A [(h0, .inr (6, mX6 h1 h2 h3 h4 h5 h6 h7 h8 v0)), (h6, zi k6 400 f6), (h4, zi k4 400 f4), (h2, zi k2 833 f2), (h1, zi k1 1250 f1), (h3, zi k3 833 f3)] ∧ va_S A s.heap H locs ∧ lv_has ls 6 [(0, .ref h0), (1, .int x1), (2, .int x2), (3, .int r1_), (4, .int r7_), (5, .int 0)] ∧ (0 ≤ (0 : Int32).toInt ∧ (0 : Int32).toInt ≤ 999999999) := ⟨hP, hD, hS, lv_sub hl [3, 4, 5, 2, 1, 0] rfl, (by first | with_reducible assumption | exact ⟨by omega, by omega⟩)⟩
    exact hJ15 H locs ls (fun i => ([r7_, 0] : List (Int32)).getD i 0) (fun _ => 0) (fun _ => (fun _ => 0)) (fun _ => (fun _ => 0)) hc
set_option maxHeartbeats 8000000 in
set_option maxRecDepth 100000 in
theorem sX11_bit_0 (l : Launch) (hl0 : l.stackTraces = false) (dC : Nat → ClassId) (dI : Nat → Nat → Nat) (adK adV : Nat → Nat) (h0 : Nat) (h4 : Nat) (h5 : Nat) (h6 : Nat) (h7 : Nat) (h23 : Nat) (h29 : Nat) (h27 : Nat) (h25 : Nat) (h24 : Nat) (h26 : Nat) (h1 : Nat) (h11 : Nat) (h18 : Nat) (h32 : Nat) (h33 : Nat) (h40 : Nat) (h48 : Nat) (h49 : Nat) (h8 : Nat) (h9 : Nat) (h10 : Nat) (h28 : Nat) (h30 : Nat) (h31 : Nat) (k5 : ClassId) (k6 : ClassId) (k7 : ClassId) (k29 : ClassId) (k27 : ClassId) (k25 : ClassId) (k24 : ClassId) (k26 : ClassId) (sz : Nat) (sp0 : Value) (lw0 : Int64) (v4 : Nat → Int32) (f5 : Nat → Int64) (f6 : Nat → Int32) (f7 : Nat → Int32) (v23 : Nat → Int32) (f29 : Nat → Int32) (f27 : Nat → Int32) (f25 : Nat → Int32) (f24 : Nat → Int32) (f26 : Nat → Int32) (x1 : Int32) (hv4 : zR rg_Words400 v4) (hf6 : zA 0 399 f6) (hf7 : zA (-1) 399 f7) (hv23 : zR rg_Postings v23) (hf25 : zA 0 1250 f25) : vx_Met l yX11_bit (zw yX11_bit cX11_bit 3 (some .int)) { frames := 8, cells := 1, slots := 6, locals := 120 } (zPc dC dI adK adV [.ref h0, .int x1] sz [(h0, .inr (11, mX11 h1 h4 h11 h18 h23 h32 h33 h40 h48 h49 sp0 lw0)), (h4, .inr (10, mX10 h5 h6 h7 h8 h9 h10 v4)), (h5, .inl (k5, 400, .inr (.inl f5))), (h6, zi k6 400 f6), (h7, zi k7 400 f7), (h23, .inr (6, mX6 h24 h25 h26 h27 h28 h29 h30 h31 v23)), (h29, zi k29 400 f29), (h27, zi k27 400 f27), (h25, zi k25 833 f25), (h24, zi k24 1250 f24), (h26, zi k26 833 f26)] [(k5, .long), (k6, .int), (k7, .int), (k29, .int), (k27, .int), (k25, .int), (k24, .int), (k26, .int)]) (va_Qi (fun (r : Int32) (u : Nat → Int32) => (0 ≤ r.toInt ∧ r.toInt ≤ 1)) (fun (u : Nat → Int32) (t : State) => ∃ (ww : Nat → Int64) (aa : Nat → Nat → Int32) (bb : Nat → Nat → Int64), va_P (dC, dI) vwCl [(h0, .inr (11, mX11 h1 h4 h11 h18 h23 h32 h33 h40 h48 h49 sp0 lw0)), (h4, .inr (10, mX10 h5 h6 h7 h8 h9 h10 v4)), (h5, .inl (k5, 400, .inr (.inl f5))), (h6, zi k6 400 f6), (h7, zi k7 400 f7), (h23, .inr (6, mX6 h24 h25 h26 h27 h28 h29 h30 h31 v23)), (h29, zi k29 400 f29), (h27, zi k27 400 f27), (h25, zi k25 833 f25), (h24, zi k24 1250 f24), (h26, zi k26 833 f26)] t.heap ∧ va_K (dC, dI) vwCl [(k5, .long), (k6, .int), (k7, .int), (k29, .int), (k27, .int), (k25, .int), (k24, .int), (k26, .int)] t ∧ va_D (va_A [(h0, .inr (11, mX11 h1 h4 h11 h18 h23 h32 h33 h40 h48 h49 sp0 lw0)), (h4, .inr (10, mX10 h5 h6 h7 h8 h9 h10 v4)), (h5, .inl (k5, 400, .inr (.inl f5))), (h6, zi k6 400 f6), (h7, zi k7 400 f7), (h23, .inr (6, mX6 h24 h25 h26 h27 h28 h29 h30 h31 v23)), (h29, zi k29 400 f29), (h27, zi k27 400 f27), (h25, zi k25 833 f25), (h24, zi k24 1250 f24), (h26, zi k26 833 f26)] sz) [(h0, .inr (11, mX11 h1 h4 h11 h18 h23 h32 h33 h40 h48 h49 sp0 lw0)), (h4, .inr (10, mX10 h5 h6 h7 h8 h9 h10 v4)), (h5, .inl (k5, 400, .inr (.inl f5))), (h6, zi k6 400 f6), (h7, zi k7 400 f7), (h23, .inr (6, mX6 h24 h25 h26 h27 h28 h29 h30 h31 v23)), (h29, zi k29 400 f29), (h27, zi k27 400 f27), (h25, zi k25 833 f25), (h24, zi k24 1250 f24), (h26, zi k26 833 f26)]) (va_A [(h0, .inr (11, mX11 h1 h4 h11 h18 h23 h32 h33 h40 h48 h49 sp0 lw0)), (h4, .inr (10, mX10 h5 h6 h7 h8 h9 h10 v4)), (h5, .inl (k5, 400, .inr (.inl f5))), (h6, zi k6 400 f6), (h7, zi k7 400 f7), (h23, .inr (6, mX6 h24 h25 h26 h27 h28 h29 h30 h31 v23)), (h29, zi k29 400 f29), (h27, zi k27 400 f27), (h25, zi k25 833 f25), (h24, zi k24 1250 f24), (h26, zi k26 833 f26)] sz)) (vx_X (fun (u : Nat → Int32) => True) (fun (E : String) (u : Nat → Int32) (t : State) => E = "java/lang/IndexOutOfBoundsException" ∧ ∃ (ww : Nat → Int64) (aa : Nat → Nat → Int32) (bb : Nat → Nat → Int64), va_P (dC, dI) vwCl [(h0, .inr (11, mX11 h1 h4 h11 h18 h23 h32 h33 h40 h48 h49 sp0 lw0)), (h4, .inr (10, mX10 h5 h6 h7 h8 h9 h10 v4)), (h5, .inl (k5, 400, .inr (.inl f5))), (h6, zi k6 400 f6), (h7, zi k7 400 f7), (h23, .inr (6, mX6 h24 h25 h26 h27 h28 h29 h30 h31 v23)), (h29, zi k29 400 f29), (h27, zi k27 400 f27), (h25, zi k25 833 f25), (h24, zi k24 1250 f24), (h26, zi k26 833 f26)] t.heap ∧ va_K (dC, dI) vwCl [(k5, .long), (k6, .int), (k7, .int), (k29, .int), (k27, .int), (k25, .int), (k24, .int), (k26, .int)] t ∧ va_D (va_A [(h0, .inr (11, mX11 h1 h4 h11 h18 h23 h32 h33 h40 h48 h49 sp0 lw0)), (h4, .inr (10, mX10 h5 h6 h7 h8 h9 h10 v4)), (h5, .inl (k5, 400, .inr (.inl f5))), (h6, zi k6 400 f6), (h7, zi k7 400 f7), (h23, .inr (6, mX6 h24 h25 h26 h27 h28 h29 h30 h31 v23)), (h29, zi k29 400 f29), (h27, zi k27 400 f27), (h25, zi k25 833 f25), (h24, zi k24 1250 f24), (h26, zi k26 833 f26)] sz) [(h0, .inr (11, mX11 h1 h4 h11 h18 h23 h32 h33 h40 h48 h49 sp0 lw0)), (h4, .inr (10, mX10 h5 h6 h7 h8 h9 h10 v4)), (h5, .inl (k5, 400, .inr (.inl f5))), (h6, zi k6 400 f6), (h7, zi k7 400 f7), (h23, .inr (6, mX6 h24 h25 h26 h27 h28 h29 h30 h31 v23)), (h29, zi k29 400 f29), (h27, zi k27 400 f27), (h25, zi k25 833 f25), (h24, zi k24 1250 f24), (h26, zi k26 833 f26)]) (va_A [(h0, .inr (11, mX11 h1 h4 h11 h18 h23 h32 h33 h40 h48 h49 sp0 lw0)), (h4, .inr (10, mX10 h5 h6 h7 h8 h9 h10 v4)), (h5, .inl (k5, 400, .inr (.inl f5))), (h6, zi k6 400 f6), (h7, zi k7 400 f7), (h23, .inr (6, mX6 h24 h25 h26 h27 h28 h29 h30 h31 v23)), (h29, zi k29 400 f29), (h27, zi k27 400 f27), (h25, zi k25 833 f25), (h24, zi k24 1250 f24), (h26, zi k26 833 f26)] sz)) 1 6 (va_A [(h0, .inr (11, mX11 h1 h4 h11 h18 h23 h32 h33 h40 h48 h49 sp0 lw0)), (h4, .inr (10, mX10 h5 h6 h7 h8 h9 h10 v4)), (h5, .inl (k5, 400, .inr (.inl f5))), (h6, zi k6 400 f6), (h7, zi k7 400 f7), (h23, .inr (6, mX6 h24 h25 h26 h27 h28 h29 h30 h31 v23)), (h29, zi k29 400 f29), (h27, zi k27 400 f27), (h25, zi k25 833 f25), (h24, zi k24 1250 f24), (h26, zi k26 833 f26)] sz) := by
  refine vx_ofW (cc := cX11_bit) (maxL := 3) (ret := (some .int)) (by decide) rfl ?_
  intro p e s m args below meth c s₁ B hml hout hv
  obtain ⟨rfl, hsz, hP, hK, hD0, hE, hZ⟩ := hv
  have hx := B.exec
  have hb := B.bytes
  have hr := B.returns
  have hG : ∀ w ∈ zG, w.before _ s = true := fun w h => atoms_spec (ws := (zw yX11_bit cX11_bit 3 (some .int))) B.pre w (List.mem_cons_of_mem _ h)
  have hown : s.vm.findClass RX11 = some m.cls := findClass_of_methodNamed B.named
  have hlocks := B.notSynchronized

  subst hsz
  have hD := hD0.self (sz := s.heap.size)
  generalize hAe : va_A [(h0, .inr (11, mX11 h1 h4 h11 h18 h23 h32 h33 h40 h48 h49 sp0 lw0)), (h4, .inr (10, mX10 h5 h6 h7 h8 h9 h10 v4)), (h5, .inl (k5, 400, .inr (.inl f5))), (h6, zi k6 400 f6), (h7, zi k7 400 f7), (h23, .inr (6, mX6 h24 h25 h26 h27 h28 h29 h30 h31 v23)), (h29, zi k29 400 f29), (h27, zi k27 400 f27), (h25, zi k25 833 f25), (h24, zi k24 1250 f24), (h26, zi k26 833 f26)] s.heap.size = A at hD hZ ⊢
  have hA : ∀ q : Nat, s.heap.size ≤ q → A q := fun q h => by rw [← hAe]; exact Or.inr h
  have hS : va_S A s.heap s.heap [] := va_S.rf
  have hl := lv_entry ([.ref h0, .int x1]) (n := 3) (Nat.le_of_ble_eq_true rfl)
  rw [lg_entry_eq]
  generalize (lg_sl ([.ref h0, .int x1]) ++ List.replicate (3 - (lg_sl ([.ref h0, .int x1])).length) Slot.unset).toArray = ls at hl ⊢
  have hl : lv_has ls 3 [(0, .ref h0), (1, .int x1)] := hl
  refine lv_aload_n hx hb dX11_bit_0 rfl (lv_at hl 0 rfl) ?_
  refine va_get (D := (dC, dI)) (ci := 11) (v := .ref h4) (C := RX11) (T := TX11) (N := 12) hx hb hG zuX11 hown hK hP 0 rfl rfl 1 (by decide) (hG _ zv558) (fun _ h9 => h9) rfl dX11_bit_1 ?_
  refine lv_aload_n hx hb dX11_bit_4 rfl (lv_at hl 0 rfl) ?_
  refine va_get (D := (dC, dI)) (ci := 11) (v := .long lw0) (C := RX11) (T := TX11) (N := 12) hx hb hG zuX11 hown hK hP 0 rfl rfl 11 (by decide) (hG _ zv568) (fun _ h9 => h9) rfl dX11_bit_5 ?_
  have hPc := hP.sub (ws' := [(h4, .inr (10, mX10 h5 h6 h7 h8 h9 h10 v4)), (h5, .inl (k5, 400, .inr (.inl f5))), (h6, zi k6 400 f6), (h7, zi k7 400 f7)]) [1, 2, 3, 4] rfl
  have hDc := hD.sub (ws' := [(h4, .inr (10, mX10 h5 h6 h7 h8 h9 h10 v4)), (h5, .inl (k5, 400, .inr (.inl f5))), (h6, zi k6 400 f6), (h7, zi k7 400 f7)]) [1, 2, 3, 4] (by decide) rfl
  have hKc := hK.sub (tys' := [(k5, .long), (k6, .int), (k7, .int)]) [0, 1, 2] rfl
  have hFc := va_free (wc := [(h4, .inr (10, mX10 h5 h6 h7 h8 h9 h10 v4)), (h5, .inl (k5, 400, .inr (.inl f5))), (h6, zi k6 400 f6), (h7, zi k7 400 f7)]) hD hS hA [1, 2, 3, 4] rfl
  refine va_calli (va_runV (As := [.long lw0]) (rest := []) ⟨hx, hb, hml, hown, hG⟩ (sX10_idOf_0 l dC dI adK adV h4 h5 h6 h7 h8 h9 h10 k5 k6 k7 s.heap.size v4 f5 f6 f7 lw0 hv4 hf6 hf7) (cwV 1 hG (zgV zv968 zv748 zv749 zv131 zv750) rfl rfl rfl (by decide +kernel) ⟨Nat.le_of_ble_eq_true rfl, Nat.le_of_ble_eq_true rfl⟩) ⟨zPc_blind, va_recv hKc hPc (ci := 10) (q0 := 0) rfl rfl, zPc_pre hPc hKc hDc hE hS hFc hZ⟩ rfl rfl hl.1 rfl (lv_room (Nat.le_of_ble_eq_true rfl)) dX11_bit_8 ⟨Nat.le_of_ble_eq_true rfl, Nat.le_of_ble_eq_true rfl⟩) hS (fun q _ h => hFc q h) hFc (fun r8_ u8_ t H1 locs ht hvm hw hB hz1 hk1 hS => ?_)
  replace hw : ((-1) ≤ r8_.toInt ∧ r8_.toInt ≤ 399) ∧ (∀ V : List Int, zVo f5 f6 f7 (v4 7).toInt V → zIf V lw0.toInt r8_.toInt) := hw
  obtain ⟨b_, hX8_0⟩ := hw
  obtain ⟨w8_, a8_, b8_, hP1, hK1, hD1⟩ := hB
  rw [ht] at hP1
  obtain ⟨hP, hD⟩ := va_join (wr := [(h0, .inr (11, mX11 h1 h4 h11 h18 h23 h32 h33 h40 h48 h49 sp0 lw0)), (h23, .inr (6, mX6 h24 h25 h26 h27 h28 h29 h30 h31 v23)), (h29, zi k29 400 f29), (h27, zi k27 400 f27), (h25, zi k25 833 f25), (h24, zi k24 1250 f24), (h26, zi k26 833 f26)]) (w1 := [(h4, .inr (10, mX10 h5 h6 h7 h8 h9 h10 v4)), (h5, .inl (k5, 400, .inr (.inl f5))), (h6, zi k6 400 f6), (h7, zi k7 400 f7)]) hP hD [1, 2, 3, 4] [0, 5, 6, 7, 8, 9, 10] rfl rfl (by decide) (by decide) hk1 hFc hP1 hD1
  have hP : va_P (dC, dI) vwCl [(h0, .inr (11, mX11 h1 h4 h11 h18 h23 h32 h33 h40 h48 h49 sp0 lw0)), (h4, .inr (10, mX10 h5 h6 h7 h8 h9 h10 v4)), (h5, .inl (k5, 400, .inr (.inl f5))), (h6, zi k6 400 f6), (h7, zi k7 400 f7), (h23, .inr (6, mX6 h24 h25 h26 h27 h28 h29 h30 h31 v23)), (h29, zi k29 400 f29), (h27, zi k27 400 f27), (h25, zi k25 833 f25), (h24, zi k24 1250 f24), (h26, zi k26 833 f26)] H1 := hP.sub [0, 7, 8, 9, 10, 1, 2, 3, 4, 5, 6] rfl
  have hD : va_D A [(h0, .inr (11, mX11 h1 h4 h11 h18 h23 h32 h33 h40 h48 h49 sp0 lw0)), (h4, .inr (10, mX10 h5 h6 h7 h8 h9 h10 v4)), (h5, .inl (k5, 400, .inr (.inl f5))), (h6, zi k6 400 f6), (h7, zi k7 400 f7), (h23, .inr (6, mX6 h24 h25 h26 h27 h28 h29 h30 h31 v23)), (h29, zi k29 400 f29), (h27, zi k27 400 f27), (h25, zi k25 833 f25), (h24, zi k24 1250 f24), (h26, zi k26 833 f26)] := hD.sub [0, 7, 8, 9, 10, 1, 2, 3, 4, 5, 6] (by decide) rfl
  generalize H1 = H at hP hS ⊢
  clear hz1
  refine lv_istore_n (lv' := [(2, .int r8_), (0, .ref h0), (1, .int x1)]) hx hb dX11_bit_11 rfl hl (by decide) rfl (fun ls hl => ?_)
  refine lv_iload_n hx hb dX11_bit_12 rfl (lv_at hl 2 rfl) ?_
  refine zcutW (fun H locs ls u28_ w28_ a28_ b28_ => va_P (dC, dI) vwCl [(h0, .inr (11, mX11 h1 h4 h11 h18 h23 h32 h33 h40 h48 h49 sp0 lw0)), (h4, .inr (10, mX10 h5 h6 h7 h8 h9 h10 v4)), (h5, .inl (k5, 400, .inr (.inl f5))), (h6, zi k6 400 f6), (h7, zi k7 400 f7), (h23, .inr (6, mX6 h24 h25 h26 h27 h28 h29 h30 h31 v23)), (h29, zi k29 400 f29), (h27, zi k27 400 f27), (h25, zi k25 833 f25), (h24, zi k24 1250 f24), (h26, zi k26 833 f26)] H ∧ va_D A [(h0, .inr (11, mX11 h1 h4 h11 h18 h23 h32 h33 h40 h48 h49 sp0 lw0)), (h4, .inr (10, mX10 h5 h6 h7 h8 h9 h10 v4)), (h5, .inl (k5, 400, .inr (.inl f5))), (h6, zi k6 400 f6), (h7, zi k7 400 f7), (h23, .inr (6, mX6 h24 h25 h26 h27 h28 h29 h30 h31 v23)), (h29, zi k29 400 f29), (h27, zi k27 400 f27), (h25, zi k25 833 f25), (h24, zi k24 1250 f24), (h26, zi k26 833 f26)] ∧ va_S A s.heap H locs ∧ lv_has ls 3 [(0, .ref h0), (1, .int x1), (2, .int r8_)]) (fun ls u28_ w28_ => F0 m 28 ls []) 0 0 ?_ (fun hJ28 => ?_)
  · skip
    intro H locs ls u28_ w28_ a28_ b28_ hc
    obtain ⟨hP, hD, hS, hl⟩ := hc
    have hpost : True := trivial
    have hP9 : va_P (dC, dI) vwCl [(h0, .inr (11, mX11 h1 h4 h11 h18 h23 h32 h33 h40 h48 h49 sp0 lw0)), (h4, .inr (10, mX10 h5 h6 h7 h8 h9 h10 v4)), (h5, .inl (k5, 400, .inr (.inl f5))), (h6, zi k6 400 f6), (h7, zi k7 400 f7), (h23, .inr (6, mX6 h24 h25 h26 h27 h28 h29 h30 h31 v23)), (h29, zi k29 400 f29), (h27, zi k27 400 f27), (h25, zi k25 833 f25), (h24, zi k24 1250 f24), (h26, zi k26 833 f26)] H := hP
    have hD9 : va_D A [(h0, .inr (11, mX11 h1 h4 h11 h18 h23 h32 h33 h40 h48 h49 sp0 lw0)), (h4, .inr (10, mX10 h5 h6 h7 h8 h9 h10 v4)), (h5, .inl (k5, 400, .inr (.inl f5))), (h6, zi k6 400 f6), (h7, zi k7 400 f7), (h23, .inr (6, mX6 h24 h25 h26 h27 h28 h29 h30 h31 v23)), (h29, zi k29 400 f29), (h27, zi k27 400 f27), (h25, zi k25 833 f25), (h24, zi k24 1250 f24), (h26, zi k26 833 f26)] := hD
    obtain ⟨sa, hstr⟩ := zE_S220 hE
    exact vx_throwS (names := ["java/lang/RuntimeException", "java/lang/Exception"]) (A := A) hx hb hl0 hown (by decide +kernel) (by decide +kernel) (hG _ zv1411) (hG _ zv154) hstr (zhat hG hE) zAT_ot hZ.1 hZ.2.1 hS (hl.1.trans hml.symm) dX11_bit_28 dX11_bit_31 dX11_bit_32 dX11_bit_34 dX11_bit_37 (fun x h => (hout x h).elim) (by decide) (by decide +kernel) (Nat.le_of_ble_eq_true rfl) (Nat.le_of_ble_eq_true rfl) hlocks (fun t hvm hz hk => ⟨(fun _ => 0), hpost, ⟨rfl, (fun _ => 0), (fun _ => (fun _ => 0)), (fun _ => (fun _ => 0)), zkeepP hP9 hk, va_K.moved hvm hK, hD9⟩, zkeepF hS hz hk⟩) hS.2.2 (Nat.le_of_ble_eq_true rfl) (Nat.le_of_ble_eq_true rfl)
  · skip
    have b_ : -2147483648 ≤ x1.toInt ∧ x1.toInt ≤ 2147483647 := ⟨zlo _, zhi _⟩
    refine lv_if_lt (tgt := 28) hx hb dX11_bit_13 (by decide) (fun c_ => ?_) (fun c_ => ?_)
    · skip
      have b_ := zT_lt rfl zk_0 c_
      have hc : va_P (dC, dI) vwCl [(h0, .inr (11, mX11 h1 h4 h11 h18 h23 h32 h33 h40 h48 h49 sp0 lw0)), (h4, .inr (10, mX10 h5 h6 h7 h8 h9 h10 v4)), (h5, .inl (k5, 400, .inr (.inl f5))), (h6, zi k6 400 f6), (h7, zi k7 400 f7), (h23, .inr (6, mX6 h24 h25 h26 h27 h28 h29 h30 h31 v23)), (h29, zi k29 400 f29), (h27, zi k27 400 f27), (h25, zi k25 833 f25), (h24, zi k24 1250 f24), (h26, zi k26 833 f26)] H ∧ va_D A [(h0, .inr (11, mX11 h1 h4 h11 h18 h23 h32 h33 h40 h48 h49 sp0 lw0)), (h4, .inr (10, mX10 h5 h6 h7 h8 h9 h10 v4)), (h5, .inl (k5, 400, .inr (.inl f5))), (h6, zi k6 400 f6), (h7, zi k7 400 f7), (h23, .inr (6, mX6 h24 h25 h26 h27 h28 h29 h30 h31 v23)), (h29, zi k29 400 f29), (h27, zi k27 400 f27), (h25, zi k25 833 f25), (h24, zi k24 1250 f24), (h26, zi k26 833 f26)] ∧ va_S A s.heap H locs ∧ lv_has ls 3 [(0, .ref h0), (1, .int x1), (2, .int r8_)] := ⟨hP, hD, hS, lv_sub hl [1, 2, 0] rfl⟩
      exact hJ28 H locs ls (fun _ => 0) (fun _ => 0) (fun _ => (fun _ => 0)) (fun _ => (fun _ => 0)) hc
    · skip
      have b_ := zF_lt rfl zk_0 c_
      refine lv_iload_n hx hb dX11_bit_16 rfl (lv_at hl 2 rfl) ?_
      refine lv_aload_n hx hb dX11_bit_17 rfl (lv_at hl 1 rfl) ?_
      refine va_get (D := (dC, dI)) (ci := 11) (v := .ref h23) (C := RX11) (T := TX11) (N := 12) hx hb hG zuX11 hown hK hP 0 rfl rfl 4 (by decide) (hG _ zv561) (fun _ h9 => h9) rfl dX11_bit_18 ?_
      refine lv_iload_n hx hb dX11_bit_21 rfl (lv_at hl 0 rfl) ?_
      have hPc := hP.sub (ws' := [(h23, .inr (6, mX6 h24 h25 h26 h27 h28 h29 h30 h31 v23)), (h29, zi k29 400 f29)]) [5, 6] rfl
      have hDc := hD.sub (ws' := [(h23, .inr (6, mX6 h24 h25 h26 h27 h28 h29 h30 h31 v23)), (h29, zi k29 400 f29)]) [5, 6] (by decide) rfl
      have hKc := hK.sub (tys' := [(k29, .int)]) [3] rfl
      have hFc := va_free (wc := [(h23, .inr (6, mX6 h24 h25 h26 h27 h28 h29 h30 h31 v23)), (h29, zi k29 400 f29)]) hD hS hA [5, 6] rfl
      refine va_calli (va_runV (As := [.int r8_]) (rest := [.int x1]) ⟨hx, hb, hml, hown, hG⟩ (sX6_bitsOf_0 l dC dI adK adV h23 h29 h24 h25 h26 h27 h28 h30 h31 k29 H.size v23 f29 r8_ hv23) (cwV 1 hG (zgV zv977 zv772 zv773 zv133 zv774) rfl rfl rfl (by decide +kernel) ⟨Nat.le_of_ble_eq_true rfl, Nat.le_of_ble_eq_true rfl⟩) ⟨zPc_blind, va_recv hKc hPc (ci := 6) (q0 := 0) rfl rfl, zPc_pre hPc hKc hDc hE hS hFc hZ⟩ rfl rfl hl.1 rfl (lv_room (Nat.le_of_ble_eq_true rfl)) dX11_bit_22 ⟨Nat.le_of_ble_eq_true rfl, Nat.le_of_ble_eq_true rfl⟩) hS (fun q _ h => hFc q h) hFc (fun r22_ u22_ t H1 locs ht hvm hw hB hz1 hk1 hS => ?_)
      replace hw : (zW (0 ≤ r8_.toInt → r8_.toInt ≤ 399 → r22_.toInt = (f29 ((r8_ : Int32)).toNatClampNeg).toInt)) ∧ ((r8_.toInt < 0 ∨ 399 < r8_.toInt) → r22_.toInt = 0) := hw
      obtain ⟨hX22_0, hX22_1⟩ := hw
      obtain ⟨w22_, a22_, b22_, hP1, hK1, hD1⟩ := hB
      rw [ht] at hP1
      obtain ⟨hP, hD⟩ := va_join (wr := [(h0, .inr (11, mX11 h1 h4 h11 h18 h23 h32 h33 h40 h48 h49 sp0 lw0)), (h4, .inr (10, mX10 h5 h6 h7 h8 h9 h10 v4)), (h5, .inl (k5, 400, .inr (.inl f5))), (h6, zi k6 400 f6), (h7, zi k7 400 f7), (h27, zi k27 400 f27), (h25, zi k25 833 f25), (h24, zi k24 1250 f24), (h26, zi k26 833 f26)]) (w1 := [(h23, .inr (6, mX6 h24 h25 h26 h27 h28 h29 h30 h31 v23)), (h29, zi k29 400 f29)]) hP hD [5, 6] [0, 1, 2, 3, 4, 7, 8, 9, 10] rfl rfl (by decide) (by decide) hk1 hFc hP1 hD1
      have hP : va_P (dC, dI) vwCl [(h0, .inr (11, mX11 h1 h4 h11 h18 h23 h32 h33 h40 h48 h49 sp0 lw0)), (h4, .inr (10, mX10 h5 h6 h7 h8 h9 h10 v4)), (h5, .inl (k5, 400, .inr (.inl f5))), (h6, zi k6 400 f6), (h7, zi k7 400 f7), (h23, .inr (6, mX6 h24 h25 h26 h27 h28 h29 h30 h31 v23)), (h29, zi k29 400 f29), (h27, zi k27 400 f27), (h25, zi k25 833 f25), (h24, zi k24 1250 f24), (h26, zi k26 833 f26)] H1 := hP.sub [0, 1, 2, 3, 4, 9, 10, 5, 6, 7, 8] rfl
      have hD : va_D A [(h0, .inr (11, mX11 h1 h4 h11 h18 h23 h32 h33 h40 h48 h49 sp0 lw0)), (h4, .inr (10, mX10 h5 h6 h7 h8 h9 h10 v4)), (h5, .inl (k5, 400, .inr (.inl f5))), (h6, zi k6 400 f6), (h7, zi k7 400 f7), (h23, .inr (6, mX6 h24 h25 h26 h27 h28 h29 h30 h31 v23)), (h29, zi k29 400 f29), (h27, zi k27 400 f27), (h25, zi k25 833 f25), (h24, zi k24 1250 f24), (h26, zi k26 833 f26)] := hD.sub [0, 1, 2, 3, 4, 9, 10, 5, 6, 7, 8] (by decide) rfl
      generalize H1 = H at hP hS ⊢
      clear hz1
      have b_ : -2147483648 ≤ r22_.toInt ∧ r22_.toInt ≤ 2147483647 := ⟨zlo _, zhi _⟩
      refine lv_icmp_lt (tgt := 38) hx hb dX11_bit_25 (by decide) (fun c_ => ?_) (fun c_ => ?_)
      · skip
        have b_ := zT_lt rfl rfl c_
        refine lv_aload_n hx hb dX11_bit_38 rfl (lv_at hl 1 rfl) ?_
        refine va_get (D := (dC, dI)) (ci := 11) (v := .ref h23) (C := RX11) (T := TX11) (N := 12) hx hb hG zuX11 hown hK hP 0 rfl rfl 4 (by decide) (hG _ zv561) (fun _ h9 => h9) rfl dX11_bit_39 ?_
        refine lv_iload_n hx hb dX11_bit_42 rfl (lv_at hl 0 rfl) ?_
        refine lv_iload_n hx hb dX11_bit_43 rfl (lv_at hl 2 rfl) ?_
        have hPc := hP.sub (ws' := [(h23, .inr (6, mX6 h24 h25 h26 h27 h28 h29 h30 h31 v23)), (h29, zi k29 400 f29), (h27, zi k27 400 f27), (h25, zi k25 833 f25), (h24, zi k24 1250 f24), (h26, zi k26 833 f26)]) [5, 6, 7, 8, 9, 10] rfl
        have hDc := hD.sub (ws' := [(h23, .inr (6, mX6 h24 h25 h26 h27 h28 h29 h30 h31 v23)), (h29, zi k29 400 f29), (h27, zi k27 400 f27), (h25, zi k25 833 f25), (h24, zi k24 1250 f24), (h26, zi k26 833 f26)]) [5, 6, 7, 8, 9, 10] (by decide) rfl
        have hKc := hK.sub (tys' := [(k29, .int), (k27, .int), (k25, .int), (k24, .int), (k26, .int)]) [3, 4, 5, 6, 7] rfl
        have hFc := va_free (wc := [(h23, .inr (6, mX6 h24 h25 h26 h27 h28 h29 h30 h31 v23)), (h29, zi k29 400 f29), (h27, zi k27 400 f27), (h25, zi k25 833 f25), (h24, zi k24 1250 f24), (h26, zi k26 833 f26)]) hD hS hA [5, 6, 7, 8, 9, 10] rfl
        refine va_calli (va_runV (As := [.int r8_, .int x1]) (rest := []) ⟨hx, hb, hml, hown, hG⟩ (sX6_bitAt_0 l dC dI adK adV h23 h29 h27 h25 h24 h26 h28 h30 h31 k29 k27 k25 k24 k26 H.size v23 f29 f27 f25 f24 f26 r8_ x1 hv23 hf25) (cwV 2 hG (zgV zv1492 zv1493 zv1494 zv133 zv1495) rfl rfl rfl (by decide +kernel) ⟨Nat.le_of_ble_eq_true rfl, Nat.le_of_ble_eq_true rfl⟩) ⟨zPc_blind, va_recv hKc hPc (ci := 6) (q0 := 0) rfl rfl, zPc_pre hPc hKc hDc hE hS hFc hZ⟩ rfl rfl hl.1 rfl (lv_room (Nat.le_of_ble_eq_true rfl)) dX11_bit_44 ⟨Nat.le_of_ble_eq_true rfl, Nat.le_of_ble_eq_true rfl⟩) hS (fun q _ h => hFc q h) hFc (fun r44_ u44_ t H1 locs ht hvm hw hB hz1 hk1 hS => ?_)
        replace hw : (0 ≤ r44_.toInt ∧ r44_.toInt ≤ 1) := hw
        have b_ := hw
        obtain ⟨w44_, a44_, b44_, hP1, hK1, hD1⟩ := hB
        rw [ht] at hP1
        obtain ⟨hP, hD⟩ := va_join (wr := [(h0, .inr (11, mX11 h1 h4 h11 h18 h23 h32 h33 h40 h48 h49 sp0 lw0)), (h4, .inr (10, mX10 h5 h6 h7 h8 h9 h10 v4)), (h5, .inl (k5, 400, .inr (.inl f5))), (h6, zi k6 400 f6), (h7, zi k7 400 f7)]) (w1 := [(h23, .inr (6, mX6 h24 h25 h26 h27 h28 h29 h30 h31 v23)), (h29, zi k29 400 f29), (h27, zi k27 400 f27), (h25, zi k25 833 f25), (h24, zi k24 1250 f24), (h26, zi k26 833 f26)]) hP hD [5, 6, 7, 8, 9, 10] [0, 1, 2, 3, 4] rfl rfl (by decide) (by decide) hk1 hFc hP1 hD1
        have hP : va_P (dC, dI) vwCl [(h0, .inr (11, mX11 h1 h4 h11 h18 h23 h32 h33 h40 h48 h49 sp0 lw0)), (h4, .inr (10, mX10 h5 h6 h7 h8 h9 h10 v4)), (h5, .inl (k5, 400, .inr (.inl f5))), (h6, zi k6 400 f6), (h7, zi k7 400 f7), (h23, .inr (6, mX6 h24 h25 h26 h27 h28 h29 h30 h31 v23)), (h29, zi k29 400 f29), (h27, zi k27 400 f27), (h25, zi k25 833 f25), (h24, zi k24 1250 f24), (h26, zi k26 833 f26)] H1 := hP.sub [0, 1, 2, 3, 4, 5, 6, 7, 8, 9, 10] rfl
        have hD : va_D A [(h0, .inr (11, mX11 h1 h4 h11 h18 h23 h32 h33 h40 h48 h49 sp0 lw0)), (h4, .inr (10, mX10 h5 h6 h7 h8 h9 h10 v4)), (h5, .inl (k5, 400, .inr (.inl f5))), (h6, zi k6 400 f6), (h7, zi k7 400 f7), (h23, .inr (6, mX6 h24 h25 h26 h27 h28 h29 h30 h31 v23)), (h29, zi k29 400 f29), (h27, zi k27 400 f27), (h25, zi k25 833 f25), (h24, zi k24 1250 f24), (h26, zi k26 833 f26)] := hD.sub [0, 1, 2, 3, 4, 5, 6, 7, 8, 9, 10] (by decide) rfl
        generalize H1 = H at hP hS ⊢
        clear hz1
        refine W.widen (k := 1) (n := 6) (by decide) (by decide) ?_
        have hpost : (0 ≤ r44_.toInt ∧ r44_.toInt ≤ 1) := (by first | with_reducible assumption | exact ⟨by omega, by omega⟩)
        have hP9 : va_P (dC, dI) vwCl [(h0, .inr (11, mX11 h1 h4 h11 h18 h23 h32 h33 h40 h48 h49 sp0 lw0)), (h4, .inr (10, mX10 h5 h6 h7 h8 h9 h10 v4)), (h5, .inl (k5, 400, .inr (.inl f5))), (h6, zi k6 400 f6), (h7, zi k7 400 f7), (h23, .inr (6, mX6 h24 h25 h26 h27 h28 h29 h30 h31 v23)), (h29, zi k29 400 f29), (h27, zi k27 400 f27), (h25, zi k25 833 f25), (h24, zi k24 1250 f24), (h26, zi k26 833 f26)] H := hP
        have hD9 : va_D A [(h0, .inr (11, mX11 h1 h4 h11 h18 h23 h32 h33 h40 h48 h49 sp0 lw0)), (h4, .inr (10, mX10 h5 h6 h7 h8 h9 h10 v4)), (h5, .inl (k5, 400, .inr (.inl f5))), (h6, zi k6 400 f6), (h7, zi k7 400 f7), (h23, .inr (6, mX6 h24 h25 h26 h27 h28 h29 h30 h31 v23)), (h29, zi k29 400 f29), (h27, zi k27 400 f27), (h25, zi k25 833 f25), (h24, zi k24 1250 f24), (h26, zi k26 833 f26)] := hD
        exact vx_ret (W.iret (v := r44_) hx hb hr (fun t ht hW => ⟨⟨r44_, (fun _ => 0), rfl, hpost, (fun _ => 0), (fun _ => (fun _ => 0)), (fun _ => (fun _ => 0)), by rw [ht]; exact hP9, va_K.moved hW.alike hK, hD9⟩, hS.F ht⟩) hS.2.2 dX11_bit_47)
      · skip
        have b_ := zF_lt rfl rfl c_
        have hc : va_P (dC, dI) vwCl [(h0, .inr (11, mX11 h1 h4 h11 h18 h23 h32 h33 h40 h48 h49 sp0 lw0)), (h4, .inr (10, mX10 h5 h6 h7 h8 h9 h10 v4)), (h5, .inl (k5, 400, .inr (.inl f5))), (h6, zi k6 400 f6), (h7, zi k7 400 f7), (h23, .inr (6, mX6 h24 h25 h26 h27 h28 h29 h30 h31 v23)), (h29, zi k29 400 f29), (h27, zi k27 400 f27), (h25, zi k25 833 f25), (h24, zi k24 1250 f24), (h26, zi k26 833 f26)] H ∧ va_D A [(h0, .inr (11, mX11 h1 h4 h11 h18 h23 h32 h33 h40 h48 h49 sp0 lw0)), (h4, .inr (10, mX10 h5 h6 h7 h8 h9 h10 v4)), (h5, .inl (k5, 400, .inr (.inl f5))), (h6, zi k6 400 f6), (h7, zi k7 400 f7), (h23, .inr (6, mX6 h24 h25 h26 h27 h28 h29 h30 h31 v23)), (h29, zi k29 400 f29), (h27, zi k27 400 f27), (h25, zi k25 833 f25), (h24, zi k24 1250 f24), (h26, zi k26 833 f26)] ∧ va_S A s.heap H locs ∧ lv_has ls 3 [(0, .ref h0), (1, .int x1), (2, .int r8_)] := ⟨hP, hD, hS, lv_sub hl [1, 2, 0] rfl⟩
        exact hJ28 H locs ls (fun _ => 0) (fun _ => 0) (fun _ => (fun _ => 0)) (fun _ => (fun _ => 0)) hc
