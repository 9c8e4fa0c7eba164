set_option maxHeartbeats 8000000 in
set_option maxRecDepth 100000 in
theorem p12_sX6_documentsOf_0 (l : Launch) (dC : Nat → ClassId) (dI : Nat → Nat → Nat) (adK adV : Nat → Nat) (h0 : Nat) (h7 : Nat) (h1 : Nat) (h2 : Nat) (h3 : Nat) (h4 : Nat) (h5 : Nat) (h6 : Nat) (h8 : Nat) (k7 : ClassId) (sz : Nat) (v0 : Nat → Int32) (f7 : Nat → Int32) (x1 : Int32) (hv0 : zR rg_Postings v0) : Met l yX6_documentsOf (zw yX6_documentsOf cX6_documentsOf 2 (some .int)) { frames := 1, cells := 0, slots := 0, locals := 20 } (zPc dC dI adK adV [.ref h0, .int x1] sz [(h0, .inr (6, mX6 h1 h2 h3 h4 h5 h6 h7 h8 v0)), (h7, zi k7 400 f7)] [(k7, .int)]) (va_Qi (fun (r : Int32) (u : Nat → Int32) => (zW (0 ≤ x1.toInt → x1.toInt ≤ 399 → r.toInt = (f7 ((x1 : Int32)).toNatClampNeg).toInt)) ∧ (x1.toInt < 0 → r.toInt = 0)) (fun (u : Nat → Int32) (t : State) => ∃ (ww : Nat → Int64) (aa : Nat → Nat → Int32) (bb : Nat → Nat → Int64), va_P (dC, dI) vwCl [(h0, .inr (6, mX6 h1 h2 h3 h4 h5 h6 h7 h8 v0)), (h7, zi k7 400 f7)] t.heap ∧ va_K (dC, dI) vwCl [(k7, .int)] t ∧ va_D (va_A [(h0, .inr (6, mX6 h1 h2 h3 h4 h5 h6 h7 h8 v0)), (h7, zi k7 400 f7)] sz) [(h0, .inr (6, mX6 h1 h2 h3 h4 h5 h6 h7 h8 v0)), (h7, zi k7 400 f7)]) (va_A [(h0, .inr (6, mX6 h1 h2 h3 h4 h5 h6 h7 h8 v0)), (h7, zi k7 400 f7)] sz)) 0 0 (va_A [(h0, .inr (6, mX6 h1 h2 h3 h4 h5 h6 h7 h8 v0)), (h7, zi k7 400 f7)] sz) := by
  refine Met.ofW (cc := cX6_documentsOf) (maxL := 2) (ret := (some .int)) (by decide) rfl ?_
  intro p e s m args below meth c s₁ B hml hv
  obtain ⟨rfl, hsz, hP, hK, hD0, hE, hZ⟩ := hv
  have hx := B.exec
  have hb := B.bytes
  have hr := B.returns
  have hG : ∀ w ∈ zG, w.before _ s = true := fun w h => atoms_spec (ws := (zw yX6_documentsOf cX6_documentsOf 2 (some .int))) B.pre w (List.mem_cons_of_mem _ h)
  have hown : s.vm.findClass RX6 = some m.cls := findClass_of_methodNamed B.named
  have hlocks := B.notSynchronized

  subst hsz
  have hD := hD0.self (sz := s.heap.size)
  generalize hAe : va_A [(h0, .inr (6, mX6 h1 h2 h3 h4 h5 h6 h7 h8 v0)), (h7, zi k7 400 f7)] s.heap.size = A at hD hZ ⊢
  have hA : ∀ q : Nat, s.heap.size ≤ q → A q := fun q h => by rw [← hAe]; exact Or.inr h
  have hS : va_S A s.heap s.heap [] := va_S.rf
  have hl := lv_entry ([.ref h0, .int x1]) (n := 2) (Nat.le_of_ble_eq_true rfl)
  rw [lg_entry_eq]
  generalize (lg_sl ([.ref h0, .int x1]) ++ List.replicate (2 - (lg_sl ([.ref h0, .int x1])).length) Slot.unset).toArray = ls at hl ⊢
  have hl : lv_has ls 2 [(0, .ref h0), (1, .int x1)] := hl
  have b_ := zk_0
  refine lv_iload_n hx hb dX6_documentsOf_0 rfl (lv_at hl 1 rfl) ?_
  have hPc := hP.sub (ws' := []) [] rfl
  have hDc := hD.sub (ws' := []) [] (by decide) rfl
  have hKc := hK.sub (tys' := []) [] rfl
  have hFc := va_free (wc := []) hD hS hA [] rfl
  refine va_calli (va_runS (As := [.int x1]) (rest := []) ⟨hx, hb, hml, hown, hG⟩ (sX6_isId_0 l dC dI adK adV s.heap.size x1) (va_cwS 1 hG (zgS zv775 zv776 zv133 zv777) rfl rfl rfl (by decide +kernel) ⟨Nat.le_of_ble_eq_true rfl, Nat.le_of_ble_eq_true rfl⟩) ⟨zPc_blind, zPc_pre hPc hKc hDc hE hS hFc hZ⟩ rfl rfl hl.1 rfl (lv_room (Nat.le_of_ble_eq_true rfl)) dX6_documentsOf_1 ⟨Nat.le_of_ble_eq_true rfl, Nat.le_of_ble_eq_true rfl⟩) hS (fun q _ h => hFc q h) hFc (fun r1_ u1_ t H1 locs ht hvm hw hB hz1 hk1 hS => ?_)
  replace hw : (0 ≤ r1_.toInt ∧ r1_.toInt ≤ 1) ∧ (r1_.toInt = 1 → (0 ≤ x1.toInt ∧ x1.toInt ≤ 399)) ∧ (r1_.toInt = 0 → x1.toInt < 0 ∨ 399 < x1.toInt) := hw
  obtain ⟨b_, hX1_0, hX1_1⟩ := hw
  obtain ⟨w1_, a1_, b1_, hP1, hK1, hD1⟩ := hB
  rw [ht] at hP1
  obtain ⟨hP, hD⟩ := va_join (wr := [(h0, .inr (6, mX6 h1 h2 h3 h4 h5 h6 h7 h8 v0)), (h7, zi k7 400 f7)]) (w1 := []) hP hD [] [0, 1] rfl rfl (by decide) (by decide) hk1 hFc hP1 hD1
  have hP : va_P (dC, dI) vwCl [(h0, .inr (6, mX6 h1 h2 h3 h4 h5 h6 h7 h8 v0)), (h7, zi k7 400 f7)] H1 := hP.sub [0, 1] rfl
  have hD : va_D A [(h0, .inr (6, mX6 h1 h2 h3 h4 h5 h6 h7 h8 v0)), (h7, zi k7 400 f7)] := hD.sub [0, 1] (by decide) rfl
  generalize H1 = H at hP hS ⊢
  clear hz1
  refine lv_if_eq (tgt := 16) hx hb dX6_documentsOf_4 (by decide) (fun c_ => ?_) (fun c_ => ?_)
  · skip
    have b_ := zT_eq rfl zk_0 c_
    refine lv_iconst (v := 0) hx hb dX6_documentsOf_16 (by decide) ?_
    refine W.widen (k := 0) (n := 0) (by decide) (by decide) ?_
    have hpost : (zW (0 ≤ x1.toInt → x1.toInt ≤ 399 → (0 : Int32).toInt = (f7 ((x1 : Int32)).toNatClampNeg).toInt)) ∧ (x1.toInt < 0 → (0 : Int32).toInt = 0) := ⟨by first | exact fun _ _ => congrArg Int32.toInt e_z12 | (intro q1 q2; omega), by omega⟩
    have hP9 : va_P (dC, dI) vwCl [(h0, .inr (6, mX6 h1 h2 h3 h4 h5 h6 h7 h8 v0)), (h7, zi k7 400 f7)] H := hP
    have hD9 : va_D A [(h0, .inr (6, mX6 h1 h2 h3 h4 h5 h6 h7 h8 v0)), (h7, zi k7 400 f7)] := hD
    exact W.iret (v := 0) hx hb hr (fun t ht hW => ⟨⟨0, (fun _ => 0), rfl, hpost, (fun _ => 0), (fun _ => (fun _ => 0)), (fun _ => (fun _ => 0)), by rw [ht]; exact hP9, va_K.moved hW.alike hK, hD9⟩, hS.F ht⟩) hS.2.2 dX6_documentsOf_17
  · skip
    have b_ := zF_eq rfl zk_0 c_
    refine lv_aload_n hx hb dX6_documentsOf_7 rfl (lv_at hl 0 rfl) ?_
    refine va_get (D := (dC, dI)) (ci := 6) (v := .ref h7) (C := RX6) (T := TX6) (N := 12) hx hb hG zuX6 hown hK hP 0 rfl rfl 6 (by decide) (hG _ zv254) (fun _ h9 => h9) rfl dX6_documentsOf_8 ?_
    refine lv_iload_n hx hb dX6_documentsOf_11 rfl (lv_at hl 1 rfl) ?_
    refine va_iald hx hb hK hP 1 0 rfl rfl (zin_lit ⟨by omega, by omega⟩) dX6_documentsOf_12 ?_
    refine lv_topi (fun z12 e_z12 => ?_)
    refine lv_goto (tgt := 17) hx hb dX6_documentsOf_13 (by decide) ?_
    refine W.widen (k := 0) (n := 0) (by decide) (by decide) ?_
    have b_ : -2147483648 ≤ z12.toInt ∧ z12.toInt ≤ 2147483647 := ⟨zlo _, zhi _⟩
    have hpost : (zW (0 ≤ x1.toInt → x1.toInt ≤ 399 → z12.toInt = (f7 ((x1 : Int32)).toNatClampNeg).toInt)) ∧ (x1.toInt < 0 → z12.toInt = 0) := ⟨by first | exact fun _ _ => congrArg Int32.toInt e_z12 | (intro q1 q2; omega), by omega⟩
    have hP9 : va_P (dC, dI) vwCl [(h0, .inr (6, mX6 h1 h2 h3 h4 h5 h6 h7 h8 v0)), (h7, zi k7 400 f7)] H := hP
    have hD9 : va_D A [(h0, .inr (6, mX6 h1 h2 h3 h4 h5 h6 h7 h8 v0)), (h7, zi k7 400 f7)] := hD
    exact W.iret (v := z12) hx hb hr (fun t ht hW => ⟨⟨z12, (fun _ => 0), rfl, hpost, (fun _ => 0), (fun _ => (fun _ => 0)), (fun _ => (fun _ => 0)), by rw [ht]; exact hP9, va_K.moved hW.alike hK, hD9⟩, hS.F ht⟩) hS.2.2 dX6_documentsOf_17
set_option maxHeartbeats 8000000 in
set_option maxRecDepth 100000 in
theorem p12_sX11_look_0 (l : Launch) (dC : Nat → ClassId) (dI : Nat → Nat → Nat) (adK adV : Nat → Nat) (h0 : Nat) (h1 : Nat) (h2 : Nat) (h3 : Nat) (h4 : Nat) (h5 : Nat) (h6 : Nat) (h7 : Nat) (h23 : Nat) (h30 : Nat) (h24 : Nat) (h25 : Nat) (h26 : Nat) (h27 : Nat) (h28 : Nat) (h29 : Nat) (h31 : Nat) (h18 : Nat) (h11 : Nat) (h32 : Nat) (h33 : Nat) (h40 : Nat) (h48 : Nat) (h49 : Nat) (h8 : Nat) (h9 : Nat) (h10 : Nat) (h19 : Nat) (h20 : Nat) (h21 : Nat) (h22 : Nat) (k2 : ClassId) (k3 : ClassId) (k5 : ClassId) (k6 : ClassId) (k7 : ClassId) (k30 : ClassId) (k24 : ClassId) (k25 : ClassId) (k26 : ClassId) (k27 : ClassId) (k28 : ClassId) (k29 : ClassId) (k31 : ClassId) (sz : Nat) (sp0 : Value) (lw0 : Int64) (v1 : Nat → Int32) (f2 : Nat → Int32) (f3 : Nat → Int32) (v4 : Nat → Int32) (f5 : Nat → Int64) (f6 : Nat → Int32) (f7 : Nat → Int32) (v23 : Nat → Int32) (f30 : Nat → Int32) (f24 : Nat → Int32) (f25 : Nat → Int32) (f26 : Nat → Int32) (f27 : Nat → Int32) (f28 : Nat → Int32) (f29 : Nat → Int32) (f31 : Nat → Int32) (v18 : Nat → Int32) (hv1 : zR rg_Tape v1) (hv4 : zR rg_Words400 v4) (hf6 : zA 0 399 f6) (hf7 : zA (-1) 399 f7) (hv23 : zR rg_Postings v23) (hf25 : zA 0 1250 f25) (hf28 : zA 0 832 f28) (hv18 : zR rg_Documents v18) : Met l yX11_look (zw yX11_look cX11_look 1 (some .int)) { frames := 8, cells := 0, slots := 0, locals := 170 } (zPc dC dI adK adV [.ref h0] sz [(h0, .inr (11, mX11 h1 h4 h11 h18 h23 h32 h33 h40 h48 h49 sp0 lw0)), (h1, .inr (9, mX9 h2 h3 v1)), (h2, zi k2 600 f2), (h3, zi k3 12 f3), (h4, .inr (10, mX10 h5 h6 h7 h8 h9 h10 v4)), (h5, .inl (k5, 400, .inr (.inl f5))), (h6, zi k6 400 f6), (h7, zi k7 400 f7), (h23, .inr (6, mX6 h24 h25 h26 h27 h28 h29 h30 h31 v23)), (h30, zi k30 400 f30), (h24, zi k24 1250 f24), (h25, zi k25 833 f25), (h26, zi k26 833 f26), (h27, zi k27 400 f27), (h28, zi k28 400 f28), (h29, zi k29 400 f29), (h31, zi k31 400 f31), (h18, .inr (0, mX0 h19 h20 h21 h22 v18))] [(k2, .byte), (k3, .byte), (k5, .long), (k6, .int), (k7, .int), (k30, .int), (k24, .int), (k25, .int), (k26, .int), (k27, .int), (k28, .int), (k29, .int), (k31, .int)]) (va_Qi (fun (r : Int32) (u : Nat → Int32) => (0 ≤ (u 0).toInt ∧ (u 0).toInt ≤ 0) ∧ (0 ≤ (u 1).toInt ∧ (u 1).toInt ≤ 12) ∧ (zLc f2 (v1 2).toInt f5 f6 f7 (v4 7).toInt f24 f25 f26 f27 f28 f29 (v23 8).toInt (v23 9).toInt (v23 10).toInt (v23 11).toInt f30 f31 (v18 4).toInt r.toInt)) (fun (u : Nat → Int32) (t : State) => ∃ (ww : Nat → Int64) (aa : Nat → Nat → Int32) (bb : Nat → Nat → Int64), (zFW f2 (v1 2).toInt (ww 0).toInt) ∧ va_P (dC, dI) vwCl [(h0, .inr (11, mX11 h1 h4 h11 h18 h23 h32 h33 h40 h48 h49 sp0 (ww 0))), (h1, .inr (9, mX9 h2 h3 (upd (upd v1 2 (u 0)) 3 (u 1)))), (h2, zi k2 600 f2), (h3, zi k3 12 (aa 0)), (h4, .inr (10, mX10 h5 h6 h7 h8 h9 h10 v4)), (h5, .inl (k5, 400, .inr (.inl f5))), (h6, zi k6 400 f6), (h7, zi k7 400 f7), (h23, .inr (6, mX6 h24 h25 h26 h27 h28 h29 h30 h31 v23)), (h30, zi k30 400 f30), (h24, zi k24 1250 f24), (h25, zi k25 833 f25), (h26, zi k26 833 f26), (h27, zi k27 400 f27), (h28, zi k28 400 f28), (h29, zi k29 400 f29), (h31, zi k31 400 f31), (h18, .inr (0, mX0 h19 h20 h21 h22 v18))] t.heap ∧ va_K (dC, dI) vwCl [(k2, .byte), (k3, .byte), (k5, .long), (k6, .int), (k7, .int), (k30, .int), (k24, .int), (k25, .int), (k26, .int), (k27, .int), (k28, .int), (k29, .int), (k31, .int)] t ∧ va_D (va_A [(h0, .inr (11, mX11 h1 h4 h11 h18 h23 h32 h33 h40 h48 h49 sp0 lw0)), (h1, .inr (9, mX9 h2 h3 v1)), (h2, zi k2 600 f2), (h3, zi k3 12 f3), (h4, .inr (10, mX10 h5 h6 h7 h8 h9 h10 v4)), (h5, .inl (k5, 400, .inr (.inl f5))), (h6, zi k6 400 f6), (h7, zi k7 400 f7), (h23, .inr (6, mX6 h24 h25 h26 h27 h28 h29 h30 h31 v23)), (h30, zi k30 400 f30), (h24, zi k24 1250 f24), (h25, zi k25 833 f25), (h26, zi k26 833 f26), (h27, zi k27 400 f27), (h28, zi k28 400 f28), (h29, zi k29 400 f29), (h31, zi k31 400 f31), (h18, .inr (0, mX0 h19 h20 h21 h22 v18))] sz) [(h0, .inr (11, mX11 h1 h4 h11 h18 h23 h32 h33 h40 h48 h49 sp0 (ww 0))), (h1, .inr (9, mX9 h2 h3 (upd (upd v1 2 (u 0)) 3 (u 1)))), (h2, zi k2 600 f2), (h3, zi k3 12 (aa 0)), (h4, .inr (10, mX10 h5 h6 h7 h8 h9 h10 v4)), (h5, .inl (k5, 400, .inr (.inl f5))), (h6, zi k6 400 f6), (h7, zi k7 400 f7), (h23, .inr (6, mX6 h24 h25 h26 h27 h28 h29 h30 h31 v23)), (h30, zi k30 400 f30), (h24, zi k24 1250 f24), (h25, zi k25 833 f25), (h26, zi k26 833 f26), (h27, zi k27 400 f27), (h28, zi k28 400 f28), (h29, zi k29 400 f29), (h31, zi k31 400 f31), (h18, .inr (0, mX0 h19 h20 h21 h22 v18))]) (va_A [(h0, .inr (11, mX11 h1 h4 h11 h18 h23 h32 h33 h40 h48 h49 sp0 lw0)), (h1, .inr (9, mX9 h2 h3 v1)), (h2, zi k2 600 f2), (h3, zi k3 12 f3), (h4, .inr (10, mX10 h5 h6 h7 h8 h9 h10 v4)), (h5, .inl (k5, 400, .inr (.inl f5))), (h6, zi k6 400 f6), (h7, zi k7 400 f7), (h23, .inr (6, mX6 h24 h25 h26 h27 h28 h29 h30 h31 v23)), (h30, zi k30 400 f30), (h24, zi k24 1250 f24), (h25, zi k25 833 f25), (h26, zi k26 833 f26), (h27, zi k27 400 f27), (h28, zi k28 400 f28), (h29, zi k29 400 f29), (h31, zi k31 400 f31), (h18, .inr (0, mX0 h19 h20 h21 h22 v18))] sz)) 0 0 (va_A [(h0, .inr (11, mX11 h1 h4 h11 h18 h23 h32 h33 h40 h48 h49 sp0 lw0)), (h1, .inr (9, mX9 h2 h3 v1)), (h2, zi k2 600 f2), (h3, zi k3 12 f3), (h4, .inr (10, mX10 h5 h6 h7 h8 h9 h10 v4)), (h5, .inl (k5, 400, .inr (.inl f5))), (h6, zi k6 400 f6), (h7, zi k7 400 f7), (h23, .inr (6, mX6 h24 h25 h26 h27 h28 h29 h30 h31 v23)), (h30, zi k30 400 f30), (h24, zi k24 1250 f24), (h25, zi k25 833 f25), (h26, zi k26 833 f26), (h27, zi k27 400 f27), (h28, zi k28 400 f28), (h29, zi k29 400 f29), (h31, zi k31 400 f31), (h18, .inr (0, mX0 h19 h20 h21 h22 v18))] sz) := by
  refine Met.ofW (cc := cX11_look) (maxL := 1) (ret := (some .int)) (by decide) rfl ?_
  intro p e s m args below meth c s₁ B hml hv
  obtain ⟨rfl, hsz, hP, hK, hD0, hE, hZ⟩ := hv
  have hx := B.exec
  have hb := B.bytes
  have hr := B.returns
  have hG : ∀ w ∈ zG, w.before _ s = true := fun w h => atoms_spec (ws := (zw yX11_look cX11_look 1 (some .int))) B.pre w (List.mem_cons_of_mem _ h)
  have hown : s.vm.findClass RX11 = some m.cls := findClass_of_methodNamed B.named
  have hlocks := B.notSynchronized

  subst hsz
  have hD := hD0.self (sz := s.heap.size)
  generalize hAe : va_A [(h0, .inr (11, mX11 h1 h4 h11 h18 h23 h32 h33 h40 h48 h49 sp0 lw0)), (h1, .inr (9, mX9 h2 h3 v1)), (h2, zi k2 600 f2), (h3, zi k3 12 f3), (h4, .inr (10, mX10 h5 h6 h7 h8 h9 h10 v4)), (h5, .inl (k5, 400, .inr (.inl f5))), (h6, zi k6 400 f6), (h7, zi k7 400 f7), (h23, .inr (6, mX6 h24 h25 h26 h27 h28 h29 h30 h31 v23)), (h30, zi k30 400 f30), (h24, zi k24 1250 f24), (h25, zi k25 833 f25), (h26, zi k26 833 f26), (h27, zi k27 400 f27), (h28, zi k28 400 f28), (h29, zi k29 400 f29), (h31, zi k31 400 f31), (h18, .inr (0, mX0 h19 h20 h21 h22 v18))] s.heap.size = A at hD hZ ⊢
  have hA : ∀ q : Nat, s.heap.size ≤ q → A q := fun q h => by rw [← hAe]; exact Or.inr h
  have hS : va_S A s.heap s.heap [] := va_S.rf
  have hl := lv_entry ([.ref h0]) (n := 1) (Nat.le_of_ble_eq_true rfl)
  rw [lg_entry_eq]
  generalize (lg_sl ([.ref h0]) ++ List.replicate (1 - (lg_sl ([.ref h0])).length) Slot.unset).toArray = ls at hl ⊢
  have hl : lv_has ls 1 [(0, .ref h0)] := hl
  have b_ : 0 ≤ (v1 2).toInt ∧ (v1 2).toInt ≤ 600 := hv1 2
  have b_ : 0 ≤ (v4 7).toInt ∧ (v4 7).toInt ≤ 400 := hv4 7
  have b_ : 0 ≤ (v23 8).toInt ∧ (v23 8).toInt ≤ 833 := hv23 8
  have b_ : 0 ≤ (v23 9).toInt ∧ (v23 9).toInt ≤ 1250 := hv23 9
  have b_ : -2147483648 ≤ (v23 10).toInt ∧ (v23 10).toInt ≤ 2147483647 := ⟨zlo _, zhi _⟩
  have b_ : -2147483648 ≤ (v23 11).toInt ∧ (v23 11).toInt ≤ 2147483647 := ⟨zlo _, zhi _⟩
  have b_ : 0 ≤ (v18 4).toInt ∧ (v18 4).toInt ≤ 120 := hv18 4
  refine lv_aload_n hx hb dX11_look_0 rfl (lv_at hl 0 rfl) ?_
  refine lv_aload_n hx hb dX11_look_1 rfl (lv_at hl 0 rfl) ?_
  refine va_get (D := (dC, dI)) (ci := 11) (v := .ref h1) (C := RX11) (T := TX11) (N := 12) hx hb hG zuX11 hown hK hP 0 rfl rfl 0 (by decide) (hG _ zv557) (fun _ h9 => h9) rfl dX11_look_2 ?_
  have hPc := hP.sub (ws' := [(h1, .inr (9, mX9 h2 h3 v1)), (h2, zi k2 600 f2), (h3, zi k3 12 f3)]) [1, 2, 3] rfl
  have hDc := hD.sub (ws' := [(h1, .inr (9, mX9 h2 h3 v1)), (h2, zi k2 600 f2), (h3, zi k3 12 f3)]) [1, 2, 3] (by decide) rfl
  have hKc := hK.sub (tys' := [(k2, .byte), (k3, .byte)]) [0, 1] rfl
  have hFc := va_free (wc := [(h1, .inr (9, mX9 h2 h3 v1)), (h2, zi k2 600 f2), (h3, zi k3 12 f3)]) hD hS hA [1, 2, 3] rfl
  refine va_calll (va_runV (As := []) (rest := [.ref h0]) ⟨hx, hb, hml, hown, hG⟩ (sX9_firstWord_0 l dC dI adK adV h1 h2 h3 k2 k3 s.heap.size v1 f2 f3 hv1) (cwV 0 hG (zgV zv956 zv957 zv958 zv130 zv959) rfl rfl rfl (by decide +kernel) ⟨Nat.le_of_ble_eq_true rfl, Nat.le_of_ble_eq_true rfl⟩) ⟨zPc_blind, va_recv hKc hPc (ci := 9) (q0 := 0) rfl rfl, zPc_pre hPc hKc hDc hE hS hFc hZ⟩ rfl rfl hl.1 rfl (lv_room (Nat.le_of_ble_eq_true rfl)) dX11_look_5 ⟨Nat.le_of_ble_eq_true rfl, Nat.le_of_ble_eq_true rfl⟩) hS (fun q _ h => hFc q h) hFc (fun r5_ u5_ t H1 locs ht hvm hw hB hz1 hk1 hS => ?_)
  replace hw : (0 ≤ (u5_ 0).toInt ∧ (u5_ 0).toInt ≤ 12) ∧ (zFW f2 (v1 2).toInt r5_.toInt) := hw
  obtain ⟨b_, hX5_0⟩ := hw
  obtain ⟨w5_, a5_, b5_, hP1, hK1, hD1⟩ := hB
  rw [ht] at hP1
  obtain ⟨hP, hD⟩ := va_join (wr := [(h0, .inr (11, mX11 h1 h4 h11 h18 h23 h32 h33 h40 h48 h49 sp0 lw0)), (h4, .inr (10, mX10 h5 h6 h7 h8 h9 h10 v4)), (h5, .inl (k5, 400, .inr (.inl f5))), (h6, zi k6 400 f6), (h7, zi k7 400 f7), (h23, .inr (6, mX6 h24 h25 h26 h27 h28 h29 h30 h31 v23)), (h30, zi k30 400 f30), (h24, zi k24 1250 f24), (h25, zi k25 833 f25), (h26, zi k26 833 f26), (h27, zi k27 400 f27), (h28, zi k28 400 f28), (h29, zi k29 400 f29), (h31, zi k31 400 f31), (h18, .inr (0, mX0 h19 h20 h21 h22 v18))]) (w1 := [(h1, .inr (9, mX9 h2 h3 (upd v1 3 (u5_ 0)))), (h2, zi k2 600 f2), (h3, zi k3 12 (a5_ 0))]) hP hD [1, 2, 3] [0, 4, 5, 6, 7, 8, 9, 10, 11, 12, 13, 14, 15, 16, 17] rfl rfl (by decide) (by decide) hk1 hFc hP1 hD1
  have hP : va_P (dC, dI) vwCl [(h0, .inr (11, mX11 h1 h4 h11 h18 h23 h32 h33 h40 h48 h49 sp0 lw0)), (h1, .inr (9, mX9 h2 h3 (upd v1 3 (u5_ 0)))), (h2, zi k2 600 f2), (h3, zi k3 12 (a5_ 0)), (h4, .inr (10, mX10 h5 h6 h7 h8 h9 h10 v4)), (h5, .inl (k5, 400, .inr (.inl f5))), (h6, zi k6 400 f6), (h7, zi k7 400 f7), (h23, .inr (6, mX6 h24 h25 h26 h27 h28 h29 h30 h31 v23)), (h30, zi k30 400 f30), (h24, zi k24 1250 f24), (h25, zi k25 833 f25), (h26, zi k26 833 f26), (h27, zi k27 400 f27), (h28, zi k28 400 f28), (h29, zi k29 400 f29), (h31, zi k31 400 f31), (h18, .inr (0, mX0 h19 h20 h21 h22 v18))] H1 := hP.sub [0, 15, 16, 17, 1, 2, 3, 4, 5, 6, 7, 8, 9, 10, 11, 12, 13, 14] rfl
  have hD : va_D A [(h0, .inr (11, mX11 h1 h4 h11 h18 h23 h32 h33 h40 h48 h49 sp0 lw0)), (h1, .inr (9, mX9 h2 h3 (upd v1 3 (u5_ 0)))), (h2, zi k2 600 f2), (h3, zi k3 12 (a5_ 0)), (h4, .inr (10, mX10 h5 h6 h7 h8 h9 h10 v4)), (h5, .inl (k5, 400, .inr (.inl f5))), (h6, zi k6 400 f6), (h7, zi k7 400 f7), (h23, .inr (6, mX6 h24 h25 h26 h27 h28 h29 h30 h31 v23)), (h30, zi k30 400 f30), (h24, zi k24 1250 f24), (h25, zi k25 833 f25), (h26, zi k26 833 f26), (h27, zi k27 400 f27), (h28, zi k28 400 f28), (h29, zi k29 400 f29), (h31, zi k31 400 f31), (h18, .inr (0, mX0 h19 h20 h21 h22 v18))] := hD.sub [0, 15, 16, 17, 1, 2, 3, 4, 5, 6, 7, 8, 9, 10, 11, 12, 13, 14] (by decide) rfl
  generalize H1 = H at hP hS ⊢
  clear hz1
  refine va_put (D := (dC, dI)) (ci := 11) (v := .long r5_) (ty := .long) (C := RX11) (T := TX11) (N := 12) hx hb hG zuX11 tyX11 tyX11_ok nmX11 hown hK hP hD hS 0 rfl rfl 11 (by decide) (hG _ zv568) (fun _ h9 => h9) rfl (by decide +kernel) rfl rfl (Nat.le_of_ble_eq_true rfl) dX11_look_8 (fun H locs hP hD hS => ?_)
  have hP : va_P (dC, dI) vwCl [(h0, .inr (11, mX11 h1 h4 h11 h18 h23 h32 h33 h40 h48 h49 sp0 r5_)), (h1, .inr (9, mX9 h2 h3 (upd v1 3 (u5_ 0)))), (h2, zi k2 600 f2), (h3, zi k3 12 (a5_ 0)), (h4, .inr (10, mX10 h5 h6 h7 h8 h9 h10 v4)), (h5, .inl (k5, 400, .inr (.inl f5))), (h6, zi k6 400 f6), (h7, zi k7 400 f7), (h23, .inr (6, mX6 h24 h25 h26 h27 h28 h29 h30 h31 v23)), (h30, zi k30 400 f30), (h24, zi k24 1250 f24), (h25, zi k25 833 f25), (h26, zi k26 833 f26), (h27, zi k27 400 f27), (h28, zi k28 400 f28), (h29, zi k29 400 f29), (h31, zi k31 400 f31), (h18, .inr (0, mX0 h19 h20 h21 h22 v18))] H := hP
  have hD : va_D A [(h0, .inr (11, mX11 h1 h4 h11 h18 h23 h32 h33 h40 h48 h49 sp0 r5_)), (h1, .inr (9, mX9 h2 h3 (upd v1 3 (u5_ 0)))), (h2, zi k2 600 f2), (h3, zi k3 12 (a5_ 0)), (h4, .inr (10, mX10 h5 h6 h7 h8 h9 h10 v4)), (h5, .inl (k5, 400, .inr (.inl f5))), (h6, zi k6 400 f6), (h7, zi k7 400 f7), (h23, .inr (6, mX6 h24 h25 h26 h27 h28 h29 h30 h31 v23)), (h30, zi k30 400 f30), (h24, zi k24 1250 f24), (h25, zi k25 833 f25), (h26, zi k26 833 f26), (h27, zi k27 400 f27), (h28, zi k28 400 f28), (h29, zi k29 400 f29), (h31, zi k31 400 f31), (h18, .inr (0, mX0 h19 h20 h21 h22 v18))] := hD
  refine lv_aload_n hx hb dX11_look_11 rfl (lv_at hl 0 rfl) ?_
  refine va_get (D := (dC, dI)) (ci := 11) (v := .ref h1) (C := RX11) (T := TX11) (N := 12) hx hb hG zuX11 hown hK hP 0 rfl rfl 0 (by decide) (hG _ zv557) (fun _ h9 => h9) rfl dX11_look_12 ?_
  have hPc := hP.sub (ws' := [(h1, .inr (9, mX9 h2 h3 (upd v1 3 (u5_ 0))))]) [1] rfl
  have hDc := hD.sub (ws' := [(h1, .inr (9, mX9 h2 h3 (upd v1 3 (u5_ 0))))]) [1] (by decide) rfl
  have hKc := hK.sub (tys' := []) [] rfl
  have hFc := va_free (wc := [(h1, .inr (9, mX9 h2 h3 (upd v1 3 (u5_ 0))))]) hD hS hA [1] rfl
  refine va_callv (va_runV (As := []) (rest := []) ⟨hx, hb, hml, hown, hG⟩ (sX9_clear_0 l dC dI adK adV h1 h2 h3 H.size (upd v1 3 (u5_ 0)) (zR_up2 hv1 3 (show (0 : Int) ≤ ((u5_ 0) : Int32).toInt ∧ ((u5_ 0) : Int32).toInt ≤ (12 : Int) from (by first | with_reducible assumption | exact ⟨by omega, by omega⟩)))) (cwV 0 hG (zgV zv809 zv810 zv811 zv130 zv812) rfl rfl rfl (by decide +kernel) ⟨Nat.le_of_ble_eq_true rfl, Nat.le_of_ble_eq_true rfl⟩) ⟨zPc_blind, va_recv hKc hPc (ci := 9) (q0 := 0) rfl rfl, zPc_pre hPc hKc hDc hE hS hFc hZ⟩ rfl rfl hl.1 rfl (lv_room (Nat.le_of_ble_eq_true rfl)) dX11_look_15 ⟨Nat.le_of_ble_eq_true rfl, Nat.le_of_ble_eq_true rfl⟩) hS (fun q _ h => hFc q h) hFc (fun u15_ t H1 locs ht hvm hw hB hz1 hk1 hS => ?_)
  replace hw : (0 ≤ (u15_ 0).toInt ∧ (u15_ 0).toInt ≤ 0) ∧ ((u15_ 0).toInt = 0) := hw
  obtain ⟨b_, hX15_0⟩ := hw
  obtain ⟨w15_, a15_, b15_, hP1, hK1, hD1⟩ := hB
  rw [ht] at hP1
  obtain ⟨hP, hD⟩ := va_join (wr := [(h0, .inr (11, mX11 h1 h4 h11 h18 h23 h32 h33 h40 h48 h49 sp0 r5_)), (h2, zi k2 600 f2), (h3, zi k3 12 (a5_ 0)), (h4, .inr (10, mX10 h5 h6 h7 h8 h9 h10 v4)), (h5, .inl (k5, 400, .inr (.inl f5))), (h6, zi k6 400 f6), (h7, zi k7 400 f7), (h23, .inr (6, mX6 h24 h25 h26 h27 h28 h29 h30 h31 v23)), (h30, zi k30 400 f30), (h24, zi k24 1250 f24), (h25, zi k25 833 f25), (h26, zi k26 833 f26), (h27, zi k27 400 f27), (h28, zi k28 400 f28), (h29, zi k29 400 f29), (h31, zi k31 400 f31), (h18, .inr (0, mX0 h19 h20 h21 h22 v18))]) (w1 := [(h1, .inr (9, mX9 h2 h3 (upd (upd v1 2 (u15_ 0)) 3 (u5_ 0))))]) hP hD [1] [0, 2, 3, 4, 5, 6, 7, 8, 9, 10, 11, 12, 13, 14, 15, 16, 17] rfl rfl (by decide) (by decide) hk1 hFc hP1 hD1
  have hP : va_P (dC, dI) vwCl [(h0, .inr (11, mX11 h1 h4 h11 h18 h23 h32 h33 h40 h48 h49 sp0 r5_)), (h1, .inr (9, mX9 h2 h3 (upd (upd v1 2 (u15_ 0)) 3 (u5_ 0)))), (h2, zi k2 600 f2), (h3, zi k3 12 (a5_ 0)), (h4, .inr (10, mX10 h5 h6 h7 h8 h9 h10 v4)), (h5, .inl (k5, 400, .inr (.inl f5))), (h6, zi k6 400 f6), (h7, zi k7 400 f7), (h23, .inr (6, mX6 h24 h25 h26 h27 h28 h29 h30 h31 v23)), (h30, zi k30 400 f30), (h24, zi k24 1250 f24), (h25, zi k25 833 f25), (h26, zi k26 833 f26), (h27, zi k27 400 f27), (h28, zi k28 400 f28), (h29, zi k29 400 f29), (h31, zi k31 400 f31), (h18, .inr (0, mX0 h19 h20 h21 h22 v18))] H1 := hP.sub [0, 17, 1, 2, 3, 4, 5, 6, 7, 8, 9, 10, 11, 12, 13, 14, 15, 16] rfl
  have hD : va_D A [(h0, .inr (11, mX11 h1 h4 h11 h18 h23 h32 h33 h40 h48 h49 sp0 r5_)), (h1, .inr (9, mX9 h2 h3 (upd (upd v1 2 (u15_ 0)) 3 (u5_ 0)))), (h2, zi k2 600 f2), (h3, zi k3 12 (a5_ 0)), (h4, .inr (10, mX10 h5 h6 h7 h8 h9 h10 v4)), (h5, .inl (k5, 400, .inr (.inl f5))), (h6, zi k6 400 f6), (h7, zi k7 400 f7), (h23, .inr (6, mX6 h24 h25 h26 h27 h28 h29 h30 h31 v23)), (h30, zi k30 400 f30), (h24, zi k24 1250 f24), (h25, zi k25 833 f25), (h26, zi k26 833 f26), (h27, zi k27 400 f27), (h28, zi k28 400 f28), (h29, zi k29 400 f29), (h31, zi k31 400 f31), (h18, .inr (0, mX0 h19 h20 h21 h22 v18))] := hD.sub [0, 17, 1, 2, 3, 4, 5, 6, 7, 8, 9, 10, 11, 12, 13, 14, 15, 16] (by decide) rfl
  generalize H1 = H at hP hS ⊢
  clear hz1
  refine lv_aload_n hx hb dX11_look_18 rfl (lv_at hl 0 rfl) ?_
  refine va_get (D := (dC, dI)) (ci := 11) (v := .ref h23) (C := RX11) (T := TX11) (N := 12) hx hb hG zuX11 hown hK hP 0 rfl rfl 4 (by decide) (hG _ zv561) (fun _ h9 => h9) rfl dX11_look_19 ?_
  refine lv_aload_n hx hb dX11_look_22 rfl (lv_at hl 0 rfl) ?_
  refine va_get (D := (dC, dI)) (ci := 11) (v := .ref h4) (C := RX11) (T := TX11) (N := 12) hx hb hG zuX11 hown hK hP 0 rfl rfl 1 (by decide) (hG _ zv558) (fun _ h9 => h9) rfl dX11_look_23 ?_
  refine lv_aload_n hx hb dX11_look_26 rfl (lv_at hl 0 rfl) ?_
  refine va_get (D := (dC, dI)) (ci := 11) (v := .long r5_) (C := RX11) (T := TX11) (N := 12) hx hb hG zuX11 hown hK hP 0 rfl rfl 11 (by decide) (hG _ zv568) (fun _ h9 => h9) rfl dX11_look_27 ?_
  have hPc := hP.sub (ws' := [(h4, .inr (10, mX10 h5 h6 h7 h8 h9 h10 v4)), (h5, .inl (k5, 400, .inr (.inl f5))), (h6, zi k6 400 f6), (h7, zi k7 400 f7)]) [4, 5, 6, 7] rfl
  have hDc := hD.sub (ws' := [(h4, .inr (10, mX10 h5 h6 h7 h8 h9 h10 v4)), (h5, .inl (k5, 400, .inr (.inl f5))), (h6, zi k6 400 f6), (h7, zi k7 400 f7)]) [4, 5, 6, 7] (by decide) rfl
  have hKc := hK.sub (tys' := [(k5, .long), (k6, .int), (k7, .int)]) [2, 3, 4] rfl
  have hFc := va_free (wc := [(h4, .inr (10, mX10 h5 h6 h7 h8 h9 h10 v4)), (h5, .inl (k5, 400, .inr (.inl f5))), (h6, zi k6 400 f6), (h7, zi k7 400 f7)]) hD hS hA [4, 5, 6, 7] rfl
  refine va_calli (va_runV (As := [.long r5_]) (rest := [.ref h23]) ⟨hx, hb, hml, hown, hG⟩ (sX10_idOf_0 l dC dI adK adV h4 h5 h6 h7 h8 h9 h10 k5 k6 k7 H.size v4 f5 f6 f7 r5_ hv4 hf6 hf7) (cwV 1 hG (zgV zv968 zv748 zv749 zv131 zv750) rfl rfl rfl (by decide +kernel) ⟨Nat.le_of_ble_eq_true rfl, Nat.le_of_ble_eq_true rfl⟩) ⟨zPc_blind, va_recv hKc hPc (ci := 10) (q0 := 0) rfl rfl, zPc_pre hPc hKc hDc hE hS hFc hZ⟩ rfl rfl hl.1 rfl (lv_room (Nat.le_of_ble_eq_true rfl)) dX11_look_30 ⟨Nat.le_of_ble_eq_true rfl, Nat.le_of_ble_eq_true rfl⟩) hS (fun q _ h => hFc q h) hFc (fun r30_ u30_ t H1 locs ht hvm hw hB hz1 hk1 hS => ?_)
  replace hw : ((-1) ≤ r30_.toInt ∧ r30_.toInt ≤ 399) ∧ (∀ V : List Int, zVo f5 f6 f7 (v4 7).toInt V → zIf V r5_.toInt r30_.toInt) := hw
  obtain ⟨b_, hX30_0⟩ := hw
  obtain ⟨w30_, a30_, b30_, hP1, hK1, hD1⟩ := hB
  rw [ht] at hP1
  obtain ⟨hP, hD⟩ := va_join (wr := [(h0, .inr (11, mX11 h1 h4 h11 h18 h23 h32 h33 h40 h48 h49 sp0 r5_)), (h1, .inr (9, mX9 h2 h3 (upd (upd v1 2 (u15_ 0)) 3 (u5_ 0)))), (h2, zi k2 600 f2), (h3, zi k3 12 (a5_ 0)), (h23, .inr (6, mX6 h24 h25 h26 h27 h28 h29 h30 h31 v23)), (h30, zi k30 400 f30), (h24, zi k24 1250 f24), (h25, zi k25 833 f25), (h26, zi k26 833 f26), (h27, zi k27 400 f27), (h28, zi k28 400 f28), (h29, zi k29 400 f29), (h31, zi k31 400 f31), (h18, .inr (0, mX0 h19 h20 h21 h22 v18))]) (w1 := [(h4, .inr (10, mX10 h5 h6 h7 h8 h9 h10 v4)), (h5, .inl (k5, 400, .inr (.inl f5))), (h6, zi k6 400 f6), (h7, zi k7 400 f7)]) hP hD [4, 5, 6, 7] [0, 1, 2, 3, 8, 9, 10, 11, 12, 13, 14, 15, 16, 17] rfl rfl (by decide) (by decide) hk1 hFc hP1 hD1
  have hP : va_P (dC, dI) vwCl [(h0, .inr (11, mX11 h1 h4 h11 h18 h23 h32 h33 h40 h48 h49 sp0 r5_)), (h1, .inr (9, mX9 h2 h3 (upd (upd v1 2 (u15_ 0)) 3 (u5_ 0)))), (h2, zi k2 600 f2), (h3, zi k3 12 (a5_ 0)), (h4, .inr (10, mX10 h5 h6 h7 h8 h9 h10 v4)), (h5, .inl (k5, 400, .inr (.inl f5))), (h6, zi k6 400 f6), (h7, zi k7 400 f7), (h23, .inr (6, mX6 h24 h25 h26 h27 h28 h29 h30 h31 v23)), (h30, zi k30 400 f30), (h24, zi k24 1250 f24), (h25, zi k25 833 f25), (h26, zi k26 833 f26), (h27, zi k27 400 f27), (h28, zi k28 400 f28), (h29, zi k29 400 f29), (h31, zi k31 400 f31), (h18, .inr (0, mX0 h19 h20 h21 h22 v18))] H1 := hP.sub [0, 1, 2, 3, 14, 15, 16, 17, 4, 5, 6, 7, 8, 9, 10, 11, 12, 13] rfl
  have hD : va_D A [(h0, .inr (11, mX11 h1 h4 h11 h18 h23 h32 h33 h40 h48 h49 sp0 r5_)), (h1, .inr (9, mX9 h2 h3 (upd (upd v1 2 (u15_ 0)) 3 (u5_ 0)))), (h2, zi k2 600 f2), (h3, zi k3 12 (a5_ 0)), (h4, .inr (10, mX10 h5 h6 h7 h8 h9 h10 v4)), (h5, .inl (k5, 400, .inr (.inl f5))), (h6, zi k6 400 f6), (h7, zi k7 400 f7), (h23, .inr (6, mX6 h24 h25 h26 h27 h28 h29 h30 h31 v23)), (h30, zi k30 400 f30), (h24, zi k24 1250 f24), (h25, zi k25 833 f25), (h26, zi k26 833 f26), (h27, zi k27 400 f27), (h28, zi k28 400 f28), (h29, zi k29 400 f29), (h31, zi k31 400 f31), (h18, .inr (0, mX0 h19 h20 h21 h22 v18))] := hD.sub [0, 1, 2, 3, 14, 15, 16, 17, 4, 5, 6, 7, 8, 9, 10, 11, 12, 13] (by decide) rfl
  generalize H1 = H at hP hS ⊢
  clear hz1
  have hPc := hP.sub (ws' := [(h23, .inr (6, mX6 h24 h25 h26 h27 h28 h29 h30 h31 v23)), (h30, zi k30 400 f30)]) [8, 9] rfl
  have hDc := hD.sub (ws' := [(h23, .inr (6, mX6 h24 h25 h26 h27 h28 h29 h30 h31 v23)), (h30, zi k30 400 f30)]) [8, 9] (by decide) rfl
  have hKc := hK.sub (tys' := [(k30, .int)]) [5] rfl
  have hFc := va_free (wc := [(h23, .inr (6, mX6 h24 h25 h26 h27 h28 h29 h30 h31 v23)), (h30, zi k30 400 f30)]) hD hS hA [8, 9] rfl
  refine va_calli (va_runV (As := [.int r30_]) (rest := []) ⟨hx, hb, hml, hown, hG⟩ (p12_sX6_documentsOf_0 l dC dI adK adV h23 h30 h24 h25 h26 h27 h28 h29 h31 k30 H.size v23 f30 r30_ hv23) (cwV 1 hG (zgV zv969 zv970 zv971 zv133 zv972) rfl rfl rfl (by decide +kernel) ⟨Nat.le_of_ble_eq_true rfl, Nat.le_of_ble_eq_true rfl⟩) ⟨zPc_blind, va_recv hKc hPc (ci := 6) (q0 := 0) rfl rfl, zPc_pre hPc hKc hDc hE hS hFc hZ⟩ rfl rfl hl.1 rfl (lv_room (Nat.le_of_ble_eq_true rfl)) dX11_look_33 ⟨Nat.le_of_ble_eq_true rfl, Nat.le_of_ble_eq_true rfl⟩) hS (fun q _ h => hFc q h) hFc (fun r33_ u33_ t H1 locs ht hvm hw hB hz1 hk1 hS => ?_)
  replace hw : (zW (0 ≤ r30_.toInt → r30_.toInt ≤ 399 → r33_.toInt = (f30 ((r30_ : Int32)).toNatClampNeg).toInt)) ∧ (r30_.toInt < 0 → r33_.toInt = 0) := hw
  obtain ⟨hX33_0, hX33_1⟩ := hw
  obtain ⟨w33_, a33_, b33_, hP1, hK1, hD1⟩ := hB
  rw [ht] at hP1
  obtain ⟨hP, hD⟩ := va_join (wr := [(h0, .inr (11, mX11 h1 h4 h11 h18 h23 h32 h33 h40 h48 h49 sp0 r5_)), (h1, .inr (9, mX9 h2 h3 (upd (upd v1 2 (u15_ 0)) 3 (u5_ 0)))), (h2, zi k2 600 f2), (h3, zi k3 12 (a5_ 0)), (h4, .inr (10, mX10 h5 h6 h7 h8 h9 h10 v4)), (h5, .inl (k5, 400, .inr (.inl f5))), (h6, zi k6 400 f6), (h7, zi k7 400 f7), (h24, zi k24 1250 f24), (h25, zi k25 833 f25), (h26, zi k26 833 f26), (h27, zi k27 400 f27), (h28, zi k28 400 f28), (h29, zi k29 400 f29), (h31, zi k31 400 f31), (h18, .inr (0, mX0 h19 h20 h21 h22 v18))]) (w1 := [(h23, .inr (6, mX6 h24 h25 h26 h27 h28 h29 h30 h31 v23)), (h30, zi k30 400 f30)]) hP hD [8, 9] [0, 1, 2, 3, 4, 5, 6, 7, 10, 11, 12, 13, 14, 15, 16, 17] rfl rfl (by decide) (by decide) hk1 hFc hP1 hD1
  have hP : va_P (dC, dI) vwCl [(h0, .inr (11, mX11 h1 h4 h11 h18 h23 h32 h33 h40 h48 h49 sp0 r5_)), (h1, .inr (9, mX9 h2 h3 (upd (upd v1 2 (u15_ 0)) 3 (u5_ 0)))), (h2, zi k2 600 f2), (h3, zi k3 12 (a5_ 0)), (h4, .inr (10, mX10 h5 h6 h7 h8 h9 h10 v4)), (h5, .inl (k5, 400, .inr (.inl f5))), (h6, zi k6 400 f6), (h7, zi k7 400 f7), (h23, .inr (6, mX6 h24 h25 h26 h27 h28 h29 h30 h31 v23)), (h30, zi k30 400 f30), (h24, zi k24 1250 f24), (h25, zi k25 833 f25), (h26, zi k26 833 f26), (h27, zi k27 400 f27), (h28, zi k28 400 f28), (h29, zi k29 400 f29), (h31, zi k31 400 f31), (h18, .inr (0, mX0 h19 h20 h21 h22 v18))] H1 := hP.sub [0, 1, 2, 3, 4, 5, 6, 7, 16, 17, 8, 9, 10, 11, 12, 13, 14, 15] rfl
  have hD : va_D A [(h0, .inr (11, mX11 h1 h4 h11 h18 h23 h32 h33 h40 h48 h49 sp0 r5_)), (h1, .inr (9, mX9 h2 h3 (upd (upd v1 2 (u15_ 0)) 3 (u5_ 0)))), (h2, zi k2 600 f2), (h3, zi k3 12 (a5_ 0)), (h4, .inr (10, mX10 h5 h6 h7 h8 h9 h10 v4)), (h5, .inl (k5, 400, .inr (.inl f5))), (h6, zi k6 400 f6), (h7, zi k7 400 f7), (h23, .inr (6, mX6 h24 h25 h26 h27 h28 h29 h30 h31 v23)), (h30, zi k30 400 f30), (h24, zi k24 1250 f24), (h25, zi k25 833 f25), (h26, zi k26 833 f26), (h27, zi k27 400 f27), (h28, zi k28 400 f28), (h29, zi k29 400 f29), (h31, zi k31 400 f31), (h18, .inr (0, mX0 h19 h20 h21 h22 v18))] := hD.sub [0, 1, 2, 3, 4, 5, 6, 7, 16, 17, 8, 9, 10, 11, 12, 13, 14, 15] (by decide) rfl
  generalize H1 = H at hP hS ⊢
  clear hz1
  refine W.widen (k := 0) (n := 0) (by decide) (by decide) ?_
  have b_ : -2147483648 ≤ r33_.toInt ∧ r33_.toInt ≤ 2147483647 := ⟨zlo _, zhi _⟩
  have hpost : (0 ≤ (u15_ 0).toInt ∧ (u15_ 0).toInt ≤ 0) ∧ (0 ≤ (u5_ 0).toInt ∧ (u5_ 0).toInt ≤ 12) ∧ (zLc f2 (v1 2).toInt f5 f6 f7 (v4 7).toInt f24 f25 f26 f27 f28 f29 (v23 8).toInt (v23 9).toInt (v23 10).toInt (v23 11).toInt f30 f31 (v18 4).toInt r33_.toInt) := ⟨(by first | with_reducible assumption | exact ⟨by omega, by omega⟩), (by first | with_reducible assumption | exact ⟨by omega, by omega⟩), by exact zLc_i hX5_0 hX30_0 hX33_0 (by omega)⟩
  have hP9 : va_P (dC, dI) vwCl [(h0, .inr (11, mX11 h1 h4 h11 h18 h23 h32 h33 h40 h48 h49 sp0 r5_)), (h1, .inr (9, mX9 h2 h3 (upd (upd v1 2 (u15_ 0)) 3 (u5_ 0)))), (h2, zi k2 600 f2), (h3, zi k3 12 (a5_ 0)), (h4, .inr (10, mX10 h5 h6 h7 h8 h9 h10 v4)), (h5, .inl (k5, 400, .inr (.inl f5))), (h6, zi k6 400 f6), (h7, zi k7 400 f7), (h23, .inr (6, mX6 h24 h25 h26 h27 h28 h29 h30 h31 v23)), (h30, zi k30 400 f30), (h24, zi k24 1250 f24), (h25, zi k25 833 f25), (h26, zi k26 833 f26), (h27, zi k27 400 f27), (h28, zi k28 400 f28), (h29, zi k29 400 f29), (h31, zi k31 400 f31), (h18, .inr (0, mX0 h19 h20 h21 h22 v18))] H := hP
  have hD9 : va_D A [(h0, .inr (11, mX11 h1 h4 h11 h18 h23 h32 h33 h40 h48 h49 sp0 r5_)), (h1, .inr (9, mX9 h2 h3 (upd (upd v1 2 (u15_ 0)) 3 (u5_ 0)))), (h2, zi k2 600 f2), (h3, zi k3 12 (a5_ 0)), (h4, .inr (10, mX10 h5 h6 h7 h8 h9 h10 v4)), (h5, .inl (k5, 400, .inr (.inl f5))), (h6, zi k6 400 f6), (h7, zi k7 400 f7), (h23, .inr (6, mX6 h24 h25 h26 h27 h28 h29 h30 h31 v23)), (h30, zi k30 400 f30), (h24, zi k24 1250 f24), (h25, zi k25 833 f25), (h26, zi k26 833 f26), (h27, zi k27 400 f27), (h28, zi k28 400 f28), (h29, zi k29 400 f29), (h31, zi k31 400 f31), (h18, .inr (0, mX0 h19 h20 h21 h22 v18))] := hD
  have hB0 : zFW f2 (v1 2).toInt r5_.toInt := by exact hX5_0
  exact W.iret (v := r33_) hx hb hr (fun t ht hW => ⟨⟨r33_, (fun i => ([(u15_ 0), (u5_ 0)] : List (Int32)).getD i 0), rfl, hpost, (fun i => ([r5_] : List (Int64)).getD i 0), (fun i => ([(a5_ 0)] : List (Nat → Int32)).getD i (fun _ => 0)), (fun _ => (fun _ => 0)), hB0, by rw [ht]; exact hP9, va_K.moved hW.alike hK, hD9⟩, hS.F ht⟩) hS.2.2 dX11_look_36
set_option maxHeartbeats 8000000 in
set_option maxRecDepth 100000 in
theorem p12_sX8_tallyDocuments_0 (l : Launch) (dC : Nat → ClassId) (dI : Nat → Nat → Nat) (adK adV : Nat → Nat) (h0 : Nat) (h1 : Nat) (h4 : Nat) (h3 : Nat) (h2 : Nat) (h5 : Nat) (h6 : Nat) (h7 : Nat) (h10 : Nat) (h11 : Nat) (h8 : Nat) (h9 : Nat) (h12 : Nat) (h13 : Nat) (h14 : Nat) (k4 : ClassId) (k3 : ClassId) (k2 : ClassId) (k5 : ClassId) (k6 : ClassId) (k7 : ClassId) (k11 : ClassId) (sz : Nat) (v0 : Nat → Int32) (v1 : Nat → Int32) (f4 : Nat → Int32) (f3 : Nat → Int32) (f2 : Nat → Int32) (f5 : Nat → Int32) (f6 : Nat → Int32) (f7 : Nat → Int32) (v10 : Nat → Int32) (f11 : Nat → Int32) (hv1 : zR rg_Postings v1) (hf3 : zA 0 1250 f3) (hf6 : zA 0 832 f6) (hv10 : zR rg_Documents v10) : Met l yX8_tallyDocuments (zw yX8_tallyDocuments cX8_tallyDocuments 4 (some .int)) { frames := 4, cells := 0, slots := 0, locals := 88 } (zPc dC dI adK adV [.ref h0, .ref h10] sz [(h0, .inr (8, mX8 h1 v0)), (h1, .inr (6, mX6 h2 h3 h4 h5 h6 h7 h8 h9 v1)), (h4, zi k4 833 f4), (h3, zi k3 833 f3), (h2, zi k2 1250 f2), (h5, zi k5 400 f5), (h6, zi k6 400 f6), (h7, zi k7 400 f7), (h10, .inr (0, mX0 h11 h12 h13 h14 v10)), (h11, zi k11 120 f11)] [(k4, .int), (k3, .int), (k2, .int), (k5, .int), (k6, .int), (k7, .int), (k11, .boolean)]) (va_Qi (fun (r : Int32) (u : Nat → Int32) => (0 ≤ r.toInt ∧ r.toInt ≤ 120) ∧ (zQf zf1 f2 f3 f4 f5 f6 f7 (v1 8).toInt (v1 9).toInt (v1 10).toInt (v1 11).toInt f11 (v10 4).toInt (v0 1).toInt (v0 2).toInt (v0 3).toInt (v0 4).toInt (v0 5).toInt (v0 7).toInt r.toInt)) (fun (u : Nat → Int32) (t : State) => ∃ (ww : Nat → Int64) (aa : Nat → Nat → Int32) (bb : Nat → Nat → Int64), va_P (dC, dI) vwCl [(h0, .inr (8, mX8 h1 (upd (upd (upd (upd (upd (upd (upd (upd v0 1 (u 0)) 2 (u 1)) 3 (u 2)) 4 (u 3)) 5 (u 4)) 6 (u 5)) 7 (u 6)) 8 (u 7)))), (h1, .inr (6, mX6 h2 h3 h4 h5 h6 h7 h8 h9 v1)), (h4, zi k4 833 f4), (h3, zi k3 833 f3), (h2, zi k2 1250 f2), (h5, zi k5 400 f5), (h6, zi k6 400 f6), (h7, zi k7 400 f7), (h10, .inr (0, mX0 h11 h12 h13 h14 v10)), (h11, zi k11 120 f11)] t.heap ∧ va_K (dC, dI) vwCl [(k4, .int), (k3, .int), (k2, .int), (k5, .int), (k6, .int), (k7, .int), (k11, .boolean)] t ∧ va_D (va_A [(h0, .inr (8, mX8 h1 v0)), (h1, .inr (6, mX6 h2 h3 h4 h5 h6 h7 h8 h9 v1)), (h4, zi k4 833 f4), (h3, zi k3 833 f3), (h2, zi k2 1250 f2), (h5, zi k5 400 f5), (h6, zi k6 400 f6), (h7, zi k7 400 f7), (h10, .inr (0, mX0 h11 h12 h13 h14 v10)), (h11, zi k11 120 f11)] sz) [(h0, .inr (8, mX8 h1 (upd (upd (upd (upd (upd (upd (upd (upd v0 1 (u 0)) 2 (u 1)) 3 (u 2)) 4 (u 3)) 5 (u 4)) 6 (u 5)) 7 (u 6)) 8 (u 7)))), (h1, .inr (6, mX6 h2 h3 h4 h5 h6 h7 h8 h9 v1)), (h4, zi k4 833 f4), (h3, zi k3 833 f3), (h2, zi k2 1250 f2), (h5, zi k5 400 f5), (h6, zi k6 400 f6), (h7, zi k7 400 f7), (h10, .inr (0, mX0 h11 h12 h13 h14 v10)), (h11, zi k11 120 f11)]) (va_A [(h0, .inr (8, mX8 h1 v0)), (h1, .inr (6, mX6 h2 h3 h4 h5 h6 h7 h8 h9 v1)), (h4, zi k4 833 f4), (h3, zi k3 833 f3), (h2, zi k2 1250 f2), (h5, zi k5 400 f5), (h6, zi k6 400 f6), (h7, zi k7 400 f7), (h10, .inr (0, mX0 h11 h12 h13 h14 v10)), (h11, zi k11 120 f11)] sz)) 0 0 (va_A [(h0, .inr (8, mX8 h1 v0)), (h1, .inr (6, mX6 h2 h3 h4 h5 h6 h7 h8 h9 v1)), (h4, zi k4 833 f4), (h3, zi k3 833 f3), (h2, zi k2 1250 f2), (h5, zi k5 400 f5), (h6, zi k6 400 f6), (h7, zi k7 400 f7), (h10, .inr (0, mX0 h11 h12 h13 h14 v10)), (h11, zi k11 120 f11)] sz) := by
  refine Met.ofW (cc := cX8_tallyDocuments) (maxL := 4) (ret := (some .int)) (by decide) rfl ?_
  intro p e s m args below meth c s₁ B hml hv
  obtain ⟨rfl, hsz, hP, hK, hD0, hE, hZ⟩ := hv
  have hx := B.exec
  have hb := B.bytes
  have hr := B.returns
  have hG : ∀ w ∈ zG, w.before _ s = true := fun w h => atoms_spec (ws := (zw yX8_tallyDocuments cX8_tallyDocuments 4 (some .int))) B.pre w (List.mem_cons_of_mem _ h)
  have hown : s.vm.findClass RX8 = some m.cls := findClass_of_methodNamed B.named
  have hlocks := B.notSynchronized

  subst hsz
  have hD := hD0.self (sz := s.heap.size)
  generalize hAe : va_A [(h0, .inr (8, mX8 h1 v0)), (h1, .inr (6, mX6 h2 h3 h4 h5 h6 h7 h8 h9 v1)), (h4, zi k4 833 f4), (h3, zi k3 833 f3), (h2, zi k2 1250 f2), (h5, zi k5 400 f5), (h6, zi k6 400 f6), (h7, zi k7 400 f7), (h10, .inr (0, mX0 h11 h12 h13 h14 v10)), (h11, zi k11 120 f11)] s.heap.size = A at hD hZ ⊢
  have hA : ∀ q : Nat, s.heap.size ≤ q → A q := fun q h => by rw [← hAe]; exact Or.inr h
  have hS : va_S A s.heap s.heap [] := va_S.rf
  have hl := lv_entry ([.ref h0, .ref h10]) (n := 4) (Nat.le_of_ble_eq_true rfl)
  rw [lg_entry_eq]
  generalize (lg_sl ([.ref h0, .ref h10]) ++ List.replicate (4 - (lg_sl ([.ref h0, .ref h10])).length) Slot.unset).toArray = ls at hl ⊢
  have hl : lv_has ls 4 [(0, .ref h0), (1, .ref h10)] := hl
  have b_ := zk_0
  have b_ : 0 ≤ (v1 8).toInt ∧ (v1 8).toInt ≤ 833 := hv1 8
  have b_ : 0 ≤ (v1 9).toInt ∧ (v1 9).toInt ≤ 1250 := hv1 9
  have b_ : -2147483648 ≤ (v1 10).toInt ∧ (v1 10).toInt ≤ 2147483647 := ⟨zlo _, zhi _⟩
  have b_ : -2147483648 ≤ (v1 11).toInt ∧ (v1 11).toInt ≤ 2147483647 := ⟨zlo _, zhi _⟩
  have b_ : 0 ≤ (v10 4).toInt ∧ (v10 4).toInt ≤ 120 := hv10 4
  have b_ : -2147483648 ≤ (v0 1).toInt ∧ (v0 1).toInt ≤ 2147483647 := ⟨zlo _, zhi _⟩
  have b_ : -2147483648 ≤ (v0 2).toInt ∧ (v0 2).toInt ≤ 2147483647 := ⟨zlo _, zhi _⟩
  have b_ : -2147483648 ≤ (v0 3).toInt ∧ (v0 3).toInt ≤ 2147483647 := ⟨zlo _, zhi _⟩
  have b_ : -2147483648 ≤ (v0 4).toInt ∧ (v0 4).toInt ≤ 2147483647 := ⟨zlo _, zhi _⟩
  have b_ : -2147483648 ≤ (v0 5).toInt ∧ (v0 5).toInt ≤ 2147483647 := ⟨zlo _, zhi _⟩
  have b_ : -2147483648 ≤ (v0 7).toInt ∧ (v0 7).toInt ≤ 2147483647 := ⟨zlo _, zhi _⟩
  refine lv_iconst (v := 0) hx hb dX8_tallyDocuments_0 (by decide) ?_
  refine lv_istore_n (lv' := [(2, .int 0), (0, .ref h0), (1, .ref h10)]) hx hb dX8_tallyDocuments_1 rfl hl (by decide) rfl (fun ls hl => ?_)
  refine lv_iconst (v := 0) hx hb dX8_tallyDocuments_2 (by decide) ?_
  refine lv_istore_n (lv' := [(3, .int 0), (2, .int 0), (0, .ref h0), (1, .ref h10)]) hx hb dX8_tallyDocuments_3 rfl hl (by decide) rfl (fun ls hl => ?_)
  refine zcutL (fun u4_ => (120 - (u4_ 1).toInt).toNat) (fun H locs ls u4_ w4_ a4_ b4_ => va_P (dC, dI) vwCl [(h0, .inr (8, mX8 h1 (upd (upd (upd (upd (upd (upd (upd (upd v0 1 (u4_ 2)) 2 (u4_ 3)) 3 (u4_ 4)) 4 (u4_ 5)) 5 (u4_ 6)) 6 (u4_ 7)) 7 (u4_ 8)) 8 (u4_ 9)))), (h1, .inr (6, mX6 h2 h3 h4 h5 h6 h7 h8 h9 v1)), (h4, zi k4 833 f4), (h3, zi k3 833 f3), (h2, zi k2 1250 f2), (h5, zi k5 400 f5), (h6, zi k6 400 f6), (h7, zi k7 400 f7), (h10, .inr (0, mX0 h11 h12 h13 h14 v10)), (h11, zi k11 120 f11)] H ∧ va_D A [(h0, .inr (8, mX8 h1 (upd (upd (upd (upd (upd (upd (upd (upd v0 1 (u4_ 2)) 2 (u4_ 3)) 3 (u4_ 4)) 4 (u4_ 5)) 5 (u4_ 6)) 6 (u4_ 7)) 7 (u4_ 8)) 8 (u4_ 9)))), (h1, .inr (6, mX6 h2 h3 h4 h5 h6 h7 h8 h9 v1)), (h4, zi k4 833 f4), (h3, zi k3 833 f3), (h2, zi k2 1250 f2), (h5, zi k5 400 f5), (h6, zi k6 400 f6), (h7, zi k7 400 f7), (h10, .inr (0, mX0 h11 h12 h13 h14 v10)), (h11, zi k11 120 f11)] ∧ va_S A s.heap H locs ∧ lv_has ls 4 [(0, .ref h0), (1, .ref h10), (2, .int (u4_ 0)), (3, .int (u4_ 1))] ∧ (0 ≤ (u4_ 0).toInt ∧ (u4_ 0).toInt ≤ 120) ∧ (0 ≤ (u4_ 1).toInt ∧ (u4_ 1).toInt ≤ 120) ∧ (zQo zf1 f2 f3 f4 f5 f6 f7 (v1 8).toInt (v1 9).toInt (v1 10).toInt (v1 11).toInt f11 (v10 4).toInt (v0 1).toInt (v0 2).toInt (v0 3).toInt (v0 4).toInt (v0 5).toInt (v0 7).toInt (u4_ 2).toInt (u4_ 3).toInt (u4_ 4).toInt (u4_ 5).toInt (u4_ 6).toInt (u4_ 8).toInt (u4_ 1).toInt (u4_ 0).toInt) ∧ ((u4_ 0).toInt ≤ (u4_ 1).toInt) ∧ (0 ≤ (u4_ 0).toInt)) (fun ls u4_ w4_ => F0 m 4 ls []) 0 0 ?_ (fun hJ4 => ?_)
  · skip
    intro H locs ls u4_ w4_ a4_ b4_ hc hJ4
    obtain ⟨hP, hD, hS, hl, b_, b_, hI4_0, b_, b_⟩ := hc
    refine lv_iload_n hx hb dX8_tallyDocuments_4 rfl (lv_at hl 3 rfl) ?_
    refine lv_bipush (v := 120) hx hb dX8_tallyDocuments_5 (by decide) ?_
    refine lv_icmp_ge (tgt := 37) hx hb dX8_tallyDocuments_7 (by decide) (fun c_ => ?_) (fun c_ => ?_)
    · skip
      have b_ := zT_ge rfl zk_120 c_
      refine lv_iload_n hx hb dX8_tallyDocuments_37 rfl (lv_at hl 2 rfl) ?_
      refine W.widen (k := 0) (n := 0) (by decide) (by decide) ?_
      have b_ : -2147483648 ≤ (u4_ 2).toInt ∧ (u4_ 2).toInt ≤ 2147483647 := ⟨zlo _, zhi _⟩
      have b_ : -2147483648 ≤ (u4_ 3).toInt ∧ (u4_ 3).toInt ≤ 2147483647 := ⟨zlo _, zhi _⟩
      have b_ : -2147483648 ≤ (u4_ 4).toInt ∧ (u4_ 4).toInt ≤ 2147483647 := ⟨zlo _, zhi _⟩
      have b_ : -2147483648 ≤ (u4_ 5).toInt ∧ (u4_ 5).toInt ≤ 2147483647 := ⟨zlo _, zhi _⟩
      have b_ : -2147483648 ≤ (u4_ 6).toInt ∧ (u4_ 6).toInt ≤ 2147483647 := ⟨zlo _, zhi _⟩
      have b_ : -2147483648 ≤ (u4_ 7).toInt ∧ (u4_ 7).toInt ≤ 2147483647 := ⟨zlo _, zhi _⟩
      have b_ : -2147483648 ≤ (u4_ 8).toInt ∧ (u4_ 8).toInt ≤ 2147483647 := ⟨zlo _, zhi _⟩
      have b_ : -2147483648 ≤ (u4_ 9).toInt ∧ (u4_ 9).toInt ≤ 2147483647 := ⟨zlo _, zhi _⟩
      have hpost : (0 ≤ (u4_ 0).toInt ∧ (u4_ 0).toInt ≤ 120) ∧ (zQf zf1 f2 f3 f4 f5 f6 f7 (v1 8).toInt (v1 9).toInt (v1 10).toInt (v1 11).toInt f11 (v10 4).toInt (v0 1).toInt (v0 2).toInt (v0 3).toInt (v0 4).toInt (v0 5).toInt (v0 7).toInt (u4_ 0).toInt) := ⟨(by first | with_reducible assumption | exact ⟨by omega, by omega⟩), by first | exact zQf_n zf1_b hI4_0 hX11_0 (by omega) rfl | exact zQf_i hI4_0 (by omega) rfl⟩
      have hP9 : va_P (dC, dI) vwCl [(h0, .inr (8, mX8 h1 (upd (upd (upd (upd (upd (upd (upd (upd v0 1 (u4_ 2)) 2 (u4_ 3)) 3 (u4_ 4)) 4 (u4_ 5)) 5 (u4_ 6)) 6 (u4_ 7)) 7 (u4_ 8)) 8 (u4_ 9)))), (h1, .inr (6, mX6 h2 h3 h4 h5 h6 h7 h8 h9 v1)), (h4, zi k4 833 f4), (h3, zi k3 833 f3), (h2, zi k2 1250 f2), (h5, zi k5 400 f5), (h6, zi k6 400 f6), (h7, zi k7 400 f7), (h10, .inr (0, mX0 h11 h12 h13 h14 v10)), (h11, zi k11 120 f11)] H := hP
      have hD9 : va_D A [(h0, .inr (8, mX8 h1 (upd (upd (upd (upd (upd (upd (upd (upd v0 1 (u4_ 2)) 2 (u4_ 3)) 3 (u4_ 4)) 4 (u4_ 5)) 5 (u4_ 6)) 6 (u4_ 7)) 7 (u4_ 8)) 8 (u4_ 9)))), (h1, .inr (6, mX6 h2 h3 h4 h5 h6 h7 h8 h9 v1)), (h4, zi k4 833 f4), (h3, zi k3 833 f3), (h2, zi k2 1250 f2), (h5, zi k5 400 f5), (h6, zi k6 400 f6), (h7, zi k7 400 f7), (h10, .inr (0, mX0 h11 h12 h13 h14 v10)), (h11, zi k11 120 f11)] := hD
      exact W.iret (v := (u4_ 0)) hx hb hr (fun t ht hW => ⟨⟨(u4_ 0), (fun i => ([(u4_ 2), (u4_ 3), (u4_ 4), (u4_ 5), (u4_ 6), (u4_ 7), (u4_ 8), (u4_ 9)] : List (Int32)).getD i 0), rfl, hpost, (fun _ => 0), (fun _ => (fun _ => 0)), (fun _ => (fun _ => 0)), by rw [ht]; exact hP9, va_K.moved hW.alike hK, hD9⟩, hS.F ht⟩) hS.2.2 dX8_tallyDocuments_38
    · skip
      have b_ := zF_ge rfl zk_120 c_
      refine lv_aload_n hx hb dX8_tallyDocuments_10 rfl (lv_at hl 0 rfl) ?_
      have b_ : -2147483648 ≤ (u4_ 2).toInt ∧ (u4_ 2).toInt ≤ 2147483647 := ⟨zlo _, zhi _⟩
      have b_ : -2147483648 ≤ (u4_ 3).toInt ∧ (u4_ 3).toInt ≤ 2147483647 := ⟨zlo _, zhi _⟩
      have b_ : -2147483648 ≤ (u4_ 4).toInt ∧ (u4_ 4).toInt ≤ 2147483647 := ⟨zlo _, zhi _⟩
      have b_ : -2147483648 ≤ (u4_ 5).toInt ∧ (u4_ 5).toInt ≤ 2147483647 := ⟨zlo _, zhi _⟩
      have b_ : -2147483648 ≤ (u4_ 6).toInt ∧ (u4_ 6).toInt ≤ 2147483647 := ⟨zlo _, zhi _⟩
      have b_ : -2147483648 ≤ (u4_ 7).toInt ∧ (u4_ 7).toInt ≤ 2147483647 := ⟨zlo _, zhi _⟩
      have b_ : -2147483648 ≤ (u4_ 8).toInt ∧ (u4_ 8).toInt ≤ 2147483647 := ⟨zlo _, zhi _⟩
      have b_ : -2147483648 ≤ (u4_ 9).toInt ∧ (u4_ 9).toInt ≤ 2147483647 := ⟨zlo _, zhi _⟩
      have hPc := hP.sub (ws' := [(h0, .inr (8, mX8 h1 (upd (upd (upd (upd (upd (upd (upd (upd v0 1 (u4_ 2)) 2 (u4_ 3)) 3 (u4_ 4)) 4 (u4_ 5)) 5 (u4_ 6)) 6 (u4_ 7)) 7 (u4_ 8)) 8 (u4_ 9)))), (h1, .inr (6, mX6 h2 h3 h4 h5 h6 h7 h8 h9 v1)), (h4, zi k4 833 f4), (h3, zi k3 833 f3), (h2, zi k2 1250 f2), (h5, zi k5 400 f5), (h6, zi k6 400 f6), (h7, zi k7 400 f7)]) [0, 1, 2, 3, 4, 5, 6, 7] rfl
      have hDc := hD.sub (ws' := [(h0, .inr (8, mX8 h1 (upd (upd (upd (upd (upd (upd (upd (upd v0 1 (u4_ 2)) 2 (u4_ 3)) 3 (u4_ 4)) 4 (u4_ 5)) 5 (u4_ 6)) 6 (u4_ 7)) 7 (u4_ 8)) 8 (u4_ 9)))), (h1, .inr (6, mX6 h2 h3 h4 h5 h6 h7 h8 h9 v1)), (h4, zi k4 833 f4), (h3, zi k3 833 f3), (h2, zi k2 1250 f2), (h5, zi k5 400 f5), (h6, zi k6 400 f6), (h7, zi k7 400 f7)]) [0, 1, 2, 3, 4, 5, 6, 7] (by decide) rfl
      have hKc := hK.sub (tys' := [(k4, .int), (k3, .int), (k2, .int), (k5, .int), (k6, .int), (k7, .int)]) [0, 1, 2, 3, 4, 5] rfl
      have hFc := va_free (wc := [(h0, .inr (8, mX8 h1 (upd (upd (upd (upd (upd (upd (upd (upd v0 1 (u4_ 2)) 2 (u4_ 3)) 3 (u4_ 4)) 4 (u4_ 5)) 5 (u4_ 6)) 6 (u4_ 7)) 7 (u4_ 8)) 8 (u4_ 9)))), (h1, .inr (6, mX6 h2 h3 h4 h5 h6 h7 h8 h9 v1)), (h4, zi k4 833 f4), (h3, zi k3 833 f3), (h2, zi k2 1250 f2), (h5, zi k5 400 f5), (h6, zi k6 400 f6), (h7, zi k7 400 f7)]) hD hS hA [0, 1, 2, 3, 4, 5, 6, 7] rfl
      refine va_calli (va_runV (As := []) (rest := []) ⟨hx, hb, hml, hown, hG⟩ (sX8_nextDocument_0 l dC dI adK adV h0 h1 h4 h3 h2 h5 h6 h7 h8 h9 k4 k3 k2 k5 k6 k7 H.size (upd (upd (upd (upd (upd (upd (upd (upd v0 1 (u4_ 2)) 2 (u4_ 3)) 3 (u4_ 4)) 4 (u4_ 5)) 5 (u4_ 6)) 6 (u4_ 7)) 7 (u4_ 8)) 8 (u4_ 9)) v1 f4 f3 f2 f5 f6 f7 hv1 hf3 hf6) (cwV 0 hG (zgV zv983 zv911 zv912 zv134 zv913) rfl rfl rfl (by decide +kernel) ⟨Nat.le_of_ble_eq_true rfl, Nat.le_of_ble_eq_true rfl⟩) ⟨zPc_blind, va_recv hKc hPc (ci := 8) (q0 := 0) rfl rfl, zPc_pre hPc hKc hDc hE hS hFc hZ⟩ rfl rfl hl.1 rfl (lv_room (Nat.le_of_ble_eq_true rfl)) dX8_tallyDocuments_11 ⟨Nat.le_of_ble_eq_true rfl, Nat.le_of_ble_eq_true rfl⟩) hS (fun q _ h => hFc q h) hFc (fun r11_ u11_ t H1 locs ht hvm hw hB hz1 hk1 hS => ?_)
      replace hw : (0 ≤ r11_.toInt ∧ r11_.toInt ≤ 1) ∧ (zNo f2 f3 f4 f5 f6 f7 (v1 8).toInt (v1 9).toInt (v1 10).toInt (v1 11).toInt (u4_ 2).toInt (u4_ 3).toInt (u4_ 4).toInt (u4_ 5).toInt (u11_ 0).toInt (u11_ 1).toInt (u11_ 2).toInt (u11_ 3).toInt (u4_ 8).toInt (u4_ 6).toInt (u11_ 4).toInt (u11_ 5).toInt (u11_ 6).toInt (u11_ 7).toInt r11_.toInt) := hw
      obtain ⟨b_, hX11_0⟩ := hw
      obtain ⟨w11_, a11_, b11_, hP1, hK1, hD1⟩ := hB
      rw [ht] at hP1
      obtain ⟨hP, hD⟩ := va_join (wr := [(h10, .inr (0, mX0 h11 h12 h13 h14 v10)), (h11, zi k11 120 f11)]) (w1 := [(h0, .inr (8, mX8 h1 (upd (upd (upd (upd (upd (upd (upd (upd v0 1 (u11_ 0)) 2 (u11_ 1)) 3 (u11_ 2)) 4 (u11_ 3)) 5 (u11_ 4)) 6 (u11_ 5)) 7 (u11_ 6)) 8 (u11_ 7)))), (h1, .inr (6, mX6 h2 h3 h4 h5 h6 h7 h8 h9 v1)), (h4, zi k4 833 f4), (h3, zi k3 833 f3), (h2, zi k2 1250 f2), (h5, zi k5 400 f5), (h6, zi k6 400 f6), (h7, zi k7 400 f7)]) hP hD [0, 1, 2, 3, 4, 5, 6, 7] [8, 9] rfl rfl (by decide) (by decide) hk1 hFc hP1 hD1
      have hP : va_P (dC, dI) vwCl [(h0, .inr (8, mX8 h1 (upd (upd (upd (upd (upd (upd (upd (upd v0 1 (u11_ 0)) 2 (u11_ 1)) 3 (u11_ 2)) 4 (u11_ 3)) 5 (u11_ 4)) 6 (u11_ 5)) 7 (u11_ 6)) 8 (u11_ 7)))), (h1, .inr (6, mX6 h2 h3 h4 h5 h6 h7 h8 h9 v1)), (h4, zi k4 833 f4), (h3, zi k3 833 f3), (h2, zi k2 1250 f2), (h5, zi k5 400 f5), (h6, zi k6 400 f6), (h7, zi k7 400 f7), (h10, .inr (0, mX0 h11 h12 h13 h14 v10)), (h11, zi k11 120 f11)] H1 := hP.sub [2, 3, 4, 5, 6, 7, 8, 9, 0, 1] rfl
      have hD : va_D A [(h0, .inr (8, mX8 h1 (upd (upd (upd (upd (upd (upd (upd (upd v0 1 (u11_ 0)) 2 (u11_ 1)) 3 (u11_ 2)) 4 (u11_ 3)) 5 (u11_ 4)) 6 (u11_ 5)) 7 (u11_ 6)) 8 (u11_ 7)))), (h1, .inr (6, mX6 h2 h3 h4 h5 h6 h7 h8 h9 v1)), (h4, zi k4 833 f4), (h3, zi k3 833 f3), (h2, zi k2 1250 f2), (h5, zi k5 400 f5), (h6, zi k6 400 f6), (h7, zi k7 400 f7), (h10, .inr (0, mX0 h11 h12 h13 h14 v10)), (h11, zi k11 120 f11)] := hD.sub [2, 3, 4, 5, 6, 7, 8, 9, 0, 1] (by decide) rfl
      generalize H1 = H at hP hS ⊢
      clear hz1
      refine lv_if_eq (tgt := 37) hx hb dX8_tallyDocuments_14 (by decide) (fun c_ => ?_) (fun c_ => ?_)
      · skip
        have b_ := zT_eq rfl zk_0 c_
        refine lv_iload_n hx hb dX8_tallyDocuments_37 rfl (lv_at hl 2 rfl) ?_
        refine W.widen (k := 0) (n := 0) (by decide) (by decide) ?_
        have b_ : -2147483648 ≤ (u11_ 0).toInt ∧ (u11_ 0).toInt ≤ 2147483647 := ⟨zlo _, zhi _⟩
        have b_ : -2147483648 ≤ (u11_ 1).toInt ∧ (u11_ 1).toInt ≤ 2147483647 := ⟨zlo _, zhi _⟩
        have b_ : -2147483648 ≤ (u11_ 2).toInt ∧ (u11_ 2).toInt ≤ 2147483647 := ⟨zlo _, zhi _⟩
        have b_ : -2147483648 ≤ (u11_ 3).toInt ∧ (u11_ 3).toInt ≤ 2147483647 := ⟨zlo _, zhi _⟩
        have b_ : -2147483648 ≤ (u11_ 4).toInt ∧ (u11_ 4).toInt ≤ 2147483647 := ⟨zlo _, zhi _⟩
        have b_ : -2147483648 ≤ (u11_ 5).toInt ∧ (u11_ 5).toInt ≤ 2147483647 := ⟨zlo _, zhi _⟩
        have b_ : -2147483648 ≤ (u11_ 6).toInt ∧ (u11_ 6).toInt ≤ 2147483647 := ⟨zlo _, zhi _⟩
        have b_ : -2147483648 ≤ (u11_ 7).toInt ∧ (u11_ 7).toInt ≤ 2147483647 := ⟨zlo _, zhi _⟩
        have hpost : (0 ≤ (u4_ 0).toInt ∧ (u4_ 0).toInt ≤ 120) ∧ (zQf zf1 f2 f3 f4 f5 f6 f7 (v1 8).toInt (v1 9).toInt (v1 10).toInt (v1 11).toInt f11 (v10 4).toInt (v0 1).toInt (v0 2).toInt (v0 3).toInt (v0 4).toInt (v0 5).toInt (v0 7).toInt (u4_ 0).toInt) := ⟨(by first | with_reducible assumption | exact ⟨by omega, by omega⟩), by first | exact zQf_n zf1_b hI4_0 hX11_0 (by omega) rfl | exact zQf_i hI4_0 (by omega) rfl⟩
        have hP9 : va_P (dC, dI) vwCl [(h0, .inr (8, mX8 h1 (upd (upd (upd (upd (upd (upd (upd (upd v0 1 (u11_ 0)) 2 (u11_ 1)) 3 (u11_ 2)) 4 (u11_ 3)) 5 (u11_ 4)) 6 (u11_ 5)) 7 (u11_ 6)) 8 (u11_ 7)))), (h1, .inr (6, mX6 h2 h3 h4 h5 h6 h7 h8 h9 v1)), (h4, zi k4 833 f4), (h3, zi k3 833 f3), (h2, zi k2 1250 f2), (h5, zi k5 400 f5), (h6, zi k6 400 f6), (h7, zi k7 400 f7), (h10, .inr (0, mX0 h11 h12 h13 h14 v10)), (h11, zi k11 120 f11)] H := hP
        have hD9 : va_D A [(h0, .inr (8, mX8 h1 (upd (upd (upd (upd (upd (upd (upd (upd v0 1 (u11_ 0)) 2 (u11_ 1)) 3 (u11_ 2)) 4 (u11_ 3)) 5 (u11_ 4)) 6 (u11_ 5)) 7 (u11_ 6)) 8 (u11_ 7)))), (h1, .inr (6, mX6 h2 h3 h4 h5 h6 h7 h8 h9 v1)), (h4, zi k4 833 f4), (h3, zi k3 833 f3), (h2, zi k2 1250 f2), (h5, zi k5 400 f5), (h6, zi k6 400 f6), (h7, zi k7 400 f7), (h10, .inr (0, mX0 h11 h12 h13 h14 v10)), (h11, zi k11 120 f11)] := hD
        exact W.iret (v := (u4_ 0)) hx hb hr (fun t ht hW => ⟨⟨(u4_ 0), (fun i => ([(u11_ 0), (u11_ 1), (u11_ 2), (u11_ 3), (u11_ 4), (u11_ 5), (u11_ 6), (u11_ 7)] : List (Int32)).getD i 0), rfl, hpost, (fun _ => 0), (fun _ => (fun _ => 0)), (fun _ => (fun _ => 0)), by rw [ht]; exact hP9, va_K.moved hW.alike hK, hD9⟩, hS.F ht⟩) hS.2.2 dX8_tallyDocuments_38
      · skip
        have b_ := zF_eq rfl zk_0 c_
        refine lv_aload_n hx hb dX8_tallyDocuments_17 rfl (lv_at hl 1 rfl) ?_
        refine lv_aload_n hx hb dX8_tallyDocuments_18 rfl (lv_at hl 0 rfl) ?_
        refine va_get (D := (dC, dI)) (ci := 8) (v := .int (u11_ 4)) (C := RX8) (T := TX8) (N := 9) hx hb hG zuX8 hown hK hP 0 rfl rfl 5 (by decide) (hG _ zv296) (fun _ h9 => h9) rfl dX8_tallyDocuments_19 ?_
        have hPc := hP.sub (ws' := [(h10, .inr (0, mX0 h11 h12 h13 h14 v10)), (h11, zi k11 120 f11)]) [8, 9] rfl
        have hDc := hD.sub (ws' := [(h10, .inr (0, mX0 h11 h12 h13 h14 v10)), (h11, zi k11 120 f11)]) [8, 9] (by decide) rfl
        have hKc := hK.sub (tys' := [(k11, .boolean)]) [6] rfl
        have hFc := va_free (wc := [(h10, .inr (0, mX0 h11 h12 h13 h14 v10)), (h11, zi k11 120 f11)]) hD hS hA [8, 9] rfl
        refine va_calli (va_runV (As := [.int (u11_ 4)]) (rest := []) ⟨hx, hb, hml, hown, hG⟩ (sX0_isOn_0 l dC dI adK adV h10 h11 h12 h13 h14 k11 H.size v10 f11 (u11_ 4) hv10) (cwV 1 hG (zgV zv984 zv872 zv873 zv132 zv874) rfl rfl rfl (by decide +kernel) ⟨Nat.le_of_ble_eq_true rfl, Nat.le_of_ble_eq_true rfl⟩) ⟨zPc_blind, va_recv hKc hPc (ci := 0) (q0 := 0) rfl rfl, zPc_pre hPc hKc hDc hE hS hFc hZ⟩ rfl rfl hl.1 rfl (lv_room (Nat.le_of_ble_eq_true rfl)) dX8_tallyDocuments_22 ⟨Nat.le_of_ble_eq_true rfl, Nat.le_of_ble_eq_true rfl⟩) hS (fun q _ h => hFc q h) hFc (fun r22_ u22_ t H1 locs ht hvm hw hB hz1 hk1 hS => ?_)
        replace hw : (0 ≤ r22_.toInt ∧ r22_.toInt ≤ 1) ∧ (r22_.toInt = 1 → (0 ≤ (u11_ 4).toInt ∧ (u11_ 4).toInt ≤ 119)) ∧ (r22_.toInt = 1 → (u11_ 4).toInt < (v10 4).toInt) ∧ (zIo f11 (v10 4).toInt ((u11_ 4) : Int32) r22_.toInt) := hw
        obtain ⟨b_, hX22_0, hX22_1, hX22_2⟩ := hw
        obtain ⟨w22_, a22_, b22_, hP1, hK1, hD1⟩ := hB
        rw [ht] at hP1
        obtain ⟨hP, hD⟩ := va_join (wr := [(h0, .inr (8, mX8 h1 (upd (upd (upd (upd (upd (upd (upd (upd v0 1 (u11_ 0)) 2 (u11_ 1)) 3 (u11_ 2)) 4 (u11_ 3)) 5 (u11_ 4)) 6 (u11_ 5)) 7 (u11_ 6)) 8 (u11_ 7)))), (h1, .inr (6, mX6 h2 h3 h4 h5 h6 h7 h8 h9 v1)), (h4, zi k4 833 f4), (h3, zi k3 833 f3), (h2, zi k2 1250 f2), (h5, zi k5 400 f5), (h6, zi k6 400 f6), (h7, zi k7 400 f7)]) (w1 := [(h10, .inr (0, mX0 h11 h12 h13 h14 v10)), (h11, zi k11 120 f11)]) hP hD [8, 9] [0, 1, 2, 3, 4, 5, 6, 7] rfl rfl (by decide) (by decide) hk1 hFc hP1 hD1
        have hP : va_P (dC, dI) vwCl [(h0, .inr (8, mX8 h1 (upd (upd (upd (upd (upd (upd (upd (upd v0 1 (u11_ 0)) 2 (u11_ 1)) 3 (u11_ 2)) 4 (u11_ 3)) 5 (u11_ 4)) 6 (u11_ 5)) 7 (u11_ 6)) 8 (u11_ 7)))), (h1, .inr (6, mX6 h2 h3 h4 h5 h6 h7 h8 h9 v1)), (h4, zi k4 833 f4), (h3, zi k3 833 f3), (h2, zi k2 1250 f2), (h5, zi k5 400 f5), (h6, zi k6 400 f6), (h7, zi k7 400 f7), (h10, .inr (0, mX0 h11 h12 h13 h14 v10)), (h11, zi k11 120 f11)] H1 := hP.sub [0, 1, 2, 3, 4, 5, 6, 7, 8, 9] rfl
        have hD : va_D A [(h0, .inr (8, mX8 h1 (upd (upd (upd (upd (upd (upd (upd (upd v0 1 (u11_ 0)) 2 (u11_ 1)) 3 (u11_ 2)) 4 (u11_ 3)) 5 (u11_ 4)) 6 (u11_ 5)) 7 (u11_ 6)) 8 (u11_ 7)))), (h1, .inr (6, mX6 h2 h3 h4 h5 h6 h7 h8 h9 v1)), (h4, zi k4 833 f4), (h3, zi k3 833 f3), (h2, zi k2 1250 f2), (h5, zi k5 400 f5), (h6, zi k6 400 f6), (h7, zi k7 400 f7), (h10, .inr (0, mX0 h11 h12 h13 h14 v10)), (h11, zi k11 120 f11)] := hD.sub [0, 1, 2, 3, 4, 5, 6, 7, 8, 9] (by decide) rfl
        generalize H1 = H at hP hS ⊢
        clear hz1
        refine lv_if_eq (tgt := 31) hx hb dX8_tallyDocuments_25 (by decide) (fun c_ => ?_) (fun c_ => ?_)
        · skip
          have b_ := zT_eq rfl zk_0 c_
          obtain ⟨z31, e_z31⟩ : ∃ z : Int32, z = (u4_ 1) + Int32.ofInt 1 := ⟨_, rfl⟩
          have b_ := zadd (x := (u4_ 1)) (y := Int32.ofInt 1) rfl (show (Int32.ofInt 1).toInt = 1 from by decide) e_z31 (by omega) (by omega)
          refine lv_iinc (v := z31) (lv' := [(3, .int z31), (0, .ref h0), (1, .ref h10), (2, .int (u4_ 0))]) hx hb dX8_tallyDocuments_31 hl (k := 3) rfl e_z31.symm (by decide) rfl (fun ls hl => ?_)
          have hqo9 : zQo zf1 f2 f3 f4 f5 f6 f7 (v1 8).toInt (v1 9).toInt (v1 10).toInt (v1 11).toInt f11 (v10 4).toInt (v0 1).toInt (v0 2).toInt (v0 3).toInt (v0 4).toInt (v0 5).toInt (v0 7).toInt (u11_ 0).toInt (u11_ 1).toInt (u11_ 2).toInt (u11_ 3).toInt (u11_ 4).toInt (u11_ 6).toInt z31.toInt (u4_ 0).toInt := zQo_s zf1_b hI4_0 hX11_0 (by omega) (Or.inr ⟨zIo_0 hX22_2 (by omega), rfl⟩) (by omega)
          refine lv_goto (tgt := 4) hx hb dX8_tallyDocuments_34 (by decide) ?_
          have hc : va_P (dC, dI) vwCl [(h0, .inr (8, mX8 h1 (upd (upd (upd (upd (upd (upd (upd (upd v0 1 (u11_ 0)) 2 (u11_ 1)) 3 (u11_ 2)) 4 (u11_ 3)) 5 (u11_ 4)) 6 (u11_ 5)) 7 (u11_ 6)) 8 (u11_ 7)))), (h1, .inr (6, mX6 h2 h3 h4 h5 h6 h7 h8 h9 v1)), (h4, zi k4 833 f4), (h3, zi k3 833 f3), (h2, zi k2 1250 f2), (h5, zi k5 400 f5), (h6, zi k6 400 f6), (h7, zi k7 400 f7), (h10, .inr (0, mX0 h11 h12 h13 h14 v10)), (h11, zi k11 120 f11)] H ∧ va_D A [(h0, .inr (8, mX8 h1 (upd (upd (upd (upd (upd (upd (upd (upd v0 1 (u11_ 0)) 2 (u11_ 1)) 3 (u11_ 2)) 4 (u11_ 3)) 5 (u11_ 4)) 6 (u11_ 5)) 7 (u11_ 6)) 8 (u11_ 7)))), (h1, .inr (6, mX6 h2 h3 h4 h5 h6 h7 h8 h9 v1)), (h4, zi k4 833 f4), (h3, zi k3 833 f3), (h2, zi k2 1250 f2), (h5, zi k5 400 f5), (h6, zi k6 400 f6), (h7, zi k7 400 f7), (h10, .inr (0, mX0 h11 h12 h13 h14 v10)), (h11, zi k11 120 f11)] ∧ va_S A s.heap H locs ∧ lv_has ls 4 [(0, .ref h0), (1, .ref h10), (2, .int (u4_ 0)), (3, .int z31)] ∧ (0 ≤ (u4_ 0).toInt ∧ (u4_ 0).toInt ≤ 120) ∧ (0 ≤ z31.toInt ∧ z31.toInt ≤ 120) ∧ (zQo zf1 f2 f3 f4 f5 f6 f7 (v1 8).toInt (v1 9).toInt (v1 10).toInt (v1 11).toInt f11 (v10 4).toInt (v0 1).toInt (v0 2).toInt (v0 3).toInt (v0 4).toInt (v0 5).toInt (v0 7).toInt (u11_ 0).toInt (u11_ 1).toInt (u11_ 2).toInt (u11_ 3).toInt (u11_ 4).toInt (u11_ 6).toInt z31.toInt (u4_ 0).toInt) ∧ ((u4_ 0).toInt ≤ z31.toInt) ∧ (0 ≤ (u4_ 0).toInt) := ⟨hP, hD, hS, lv_sub hl [1, 2, 3, 0] rfl, (by first | with_reducible assumption | exact ⟨by omega, by omega⟩), (by first | with_reducible assumption | exact ⟨by omega, by omega⟩), by first | exact hqo9 | exact zQo_0 (by decide) (by decide), by omega, by omega⟩
          exact hJ4 H locs ls (fun i => ([(u4_ 0), z31, (u11_ 0), (u11_ 1), (u11_ 2), (u11_ 3), (u11_ 4), (u11_ 5), (u11_ 6), (u11_ 7)] : List (Int32)).getD i 0) (fun _ => 0) (fun _ => (fun _ => 0)) (fun _ => (fun _ => 0)) hc (show (120 - z31.toInt).toNat < (120 - (u4_ 1).toInt).toNat from by omega)
        · skip
          have b_ := zF_eq rfl zk_0 c_
          obtain ⟨z28, e_z28⟩ : ∃ z : Int32, z = (u4_ 0) + Int32.ofInt 1 := ⟨_, rfl⟩
          have b_ := zadd (x := (u4_ 0)) (y := Int32.ofInt 1) rfl (show (Int32.ofInt 1).toInt = 1 from by decide) e_z28 (by omega) (by omega)
          refine lv_iinc (v := z28) (lv' := [(2, .int z28), (0, .ref h0), (1, .ref h10), (3, .int (u4_ 1))]) hx hb dX8_tallyDocuments_28 hl (k := 2) rfl e_z28.symm (by decide) rfl (fun ls hl => ?_)
          obtain ⟨z31, e_z31⟩ : ∃ z : Int32, z = (u4_ 1) + Int32.ofInt 1 := ⟨_, rfl⟩
          have b_ := zadd (x := (u4_ 1)) (y := Int32.ofInt 1) rfl (show (Int32.ofInt 1).toInt = 1 from by decide) e_z31 (by omega) (by omega)
          refine lv_iinc (v := z31) (lv' := [(3, .int z31), (2, .int z28), (0, .ref h0), (1, .ref h10)]) hx hb dX8_tallyDocuments_31 hl (k := 3) rfl e_z31.symm (by decide) rfl (fun ls hl => ?_)
          have hqo9 : zQo zf1 f2 f3 f4 f5 f6 f7 (v1 8).toInt (v1 9).toInt (v1 10).toInt (v1 11).toInt f11 (v10 4).toInt (v0 1).toInt (v0 2).toInt (v0 3).toInt (v0 4).toInt (v0 5).toInt (v0 7).toInt (u11_ 0).toInt (u11_ 1).toInt (u11_ 2).toInt (u11_ 3).toInt (u11_ 4).toInt (u11_ 6).toInt z31.toInt z28.toInt := zQo_s zf1_b hI4_0 hX11_0 (by omega) (Or.inl ⟨zIo_1 hX22_2 (by omega), fun q1 q2 q3 q4 => by rw [zf1_p (by omega)]; omega⟩) (by omega)
          refine lv_goto (tgt := 4) hx hb dX8_tallyDocuments_34 (by decide) ?_
          have hc : va_P (dC, dI) vwCl [(h0, .inr (8, mX8 h1 (upd (upd (upd (upd (upd (upd (upd (upd v0 1 (u11_ 0)) 2 (u11_ 1)) 3 (u11_ 2)) 4 (u11_ 3)) 5 (u11_ 4)) 6 (u11_ 5)) 7 (u11_ 6)) 8 (u11_ 7)))), (h1, .inr (6, mX6 h2 h3 h4 h5 h6 h7 h8 h9 v1)), (h4, zi k4 833 f4), (h3, zi k3 833 f3), (h2, zi k2 1250 f2), (h5, zi k5 400 f5), (h6, zi k6 400 f6), (h7, zi k7 400 f7), (h10, .inr (0, mX0 h11 h12 h13 h14 v10)), (h11, zi k11 120 f11)] H ∧ va_D A [(h0, .inr (8, mX8 h1 (upd (upd (upd (upd (upd (upd (upd (upd v0 1 (u11_ 0)) 2 (u11_ 1)) 3 (u11_ 2)) 4 (u11_ 3)) 5 (u11_ 4)) 6 (u11_ 5)) 7 (u11_ 6)) 8 (u11_ 7)))), (h1, .inr (6, mX6 h2 h3 h4 h5 h6 h7 h8 h9 v1)), (h4, zi k4 833 f4), (h3, zi k3 833 f3), (h2, zi k2 1250 f2), (h5, zi k5 400 f5), (h6, zi k6 400 f6), (h7, zi k7 400 f7), (h10, .inr (0, mX0 h11 h12 h13 h14 v10)), (h11, zi k11 120 f11)] ∧ va_S A s.heap H locs ∧ lv_has ls 4 [(0, .ref h0), (1, .ref h10), (2, .int z28), (3, .int z31)] ∧ (0 ≤ z28.toInt ∧ z28.toInt ≤ 120) ∧ (0 ≤ z31.toInt ∧ z31.toInt ≤ 120) ∧ (zQo zf1 f2 f3 f4 f5 f6 f7 (v1 8).toInt (v1 9).toInt (v1 10).toInt (v1 11).toInt f11 (v10 4).toInt (v0 1).toInt (v0 2).toInt (v0 3).toInt (v0 4).toInt (v0 5).toInt (v0 7).toInt (u11_ 0).toInt (u11_ 1).toInt (u11_ 2).toInt (u11_ 3).toInt (u11_ 4).toInt (u11_ 6).toInt z31.toInt z28.toInt) ∧ (z28.toInt ≤ z31.toInt) ∧ (0 ≤ z28.toInt) := ⟨hP, hD, hS, lv_sub hl [2, 3, 1, 0] rfl, (by first | with_reducible assumption | exact ⟨by omega, by omega⟩), (by first | with_reducible assumption | exact ⟨by omega, by omega⟩), by first | exact hqo9 | exact zQo_0 (by decide) (by decide), by omega, by omega⟩
          exact hJ4 H locs ls (fun i => ([z28, z31, (u11_ 0), (u11_ 1), (u11_ 2), (u11_ 3), (u11_ 4), (u11_ 5), (u11_ 6), (u11_ 7)] : List (Int32)).getD i 0) (fun _ => 0) (fun _ => (fun _ => 0)) (fun _ => (fun _ => 0)) hc (show (120 - z31.toInt).toNat < (120 - (u4_ 1).toInt).toNat from by omega)
  · skip
    have hc : va_P (dC, dI) vwCl [(h0, .inr (8, mX8 h1 (upd (upd (upd (upd (upd (upd (upd (upd v0 1 (v0 1)) 2 (v0 2)) 3 (v0 3)) 4 (v0 4)) 5 (v0 5)) 6 (v0 6)) 7 (v0 7)) 8 (v0 8)))), (h1, .inr (6, mX6 h2 h3 h4 h5 h6 h7 h8 h9 v1)), (h4, zi k4 833 f4), (h3, zi k3 833 f3), (h2, zi k2 1250 f2), (h5, zi k5 400 f5), (h6, zi k6 400 f6), (h7, zi k7 400 f7), (h10, .inr (0, mX0 h11 h12 h13 h14 v10)), (h11, zi k11 120 f11)] s.heap ∧ va_D A [(h0, .inr (8, mX8 h1 (upd (upd (upd (upd (upd (upd (upd (upd v0 1 (v0 1)) 2 (v0 2)) 3 (v0 3)) 4 (v0 4)) 5 (v0 5)) 6 (v0 6)) 7 (v0 7)) 8 (v0 8)))), (h1, .inr (6, mX6 h2 h3 h4 h5 h6 h7 h8 h9 v1)), (h4, zi k4 833 f4), (h3, zi k3 833 f3), (h2, zi k2 1250 f2), (h5, zi k5 400 f5), (h6, zi k6 400 f6), (h7, zi k7 400 f7), (h10, .inr (0, mX0 h11 h12 h13 h14 v10)), (h11, zi k11 120 f11)] ∧ va_S A s.heap s.heap [] ∧ lv_has ls 4 [(0, .ref h0), (1, .ref h10), (2, .int 0), (3, .int 0)] ∧ (0 ≤ (0 : Int32).toInt ∧ (0 : Int32).toInt ≤ 120) ∧ (0 ≤ (0 : Int32).toInt ∧ (0 : Int32).toInt ≤ 120) ∧ (zQo zf1 f2 f3 f4 f5 f6 f7 (v1 8).toInt (v1 9).toInt (v1 10).toInt (v1 11).toInt f11 (v10 4).toInt (v0 1).toInt (v0 2).toInt (v0 3).toInt (v0 4).toInt (v0 5).toInt (v0 7).toInt (v0 1).toInt (v0 2).toInt (v0 3).toInt (v0 4).toInt (v0 5).toInt (v0 7).toInt (0 : Int32).toInt (0 : Int32).toInt) ∧ ((0 : Int32).toInt ≤ (0 : Int32).toInt) ∧ (0 ≤ (0 : Int32).toInt) := ⟨hP, hD, hS, lv_sub hl [2, 3, 1, 0] rfl, (by first | with_reducible assumption | exact ⟨by omega, by omega⟩), (by first | with_reducible assumption | exact ⟨by omega, by omega⟩), by first | exact hqo9 | exact zQo_0 (by decide) (by decide), by omega, by omega⟩
    exact hJ4 s.heap [] ls (fun i => ([0, 0, (v0 1), (v0 2), (v0 3), (v0 4), (v0 5), (v0 6), (v0 7), (v0 8)] : List (Int32)).getD i 0) (fun _ => 0) (fun _ => (fun _ => 0)) (fun _ => (fun _ => 0)) hc
set_option maxHeartbeats 8000000 in
set_option maxRecDepth 100000 in
theorem p12_sX8_tallyPlaces_0 (l : Launch) (dC : Nat → ClassId) (dI : Nat → Nat → Nat) (adK adV : Nat → Nat) (h0 : Nat) (h1 : Nat) (h4 : Nat) (h3 : Nat) (h2 : Nat) (h5 : Nat) (h6 : Nat) (h7 : Nat) (h10 : Nat) (h11 : Nat) (h8 : Nat) (h9 : Nat) (h12 : Nat) (h13 : Nat) (h14 : Nat) (k4 : ClassId) (k3 : ClassId) (k2 : ClassId) (k5 : ClassId) (k6 : ClassId) (k7 : ClassId) (k11 : ClassId) (sz : Nat) (v0 : Nat → Int32) (v1 : Nat → Int32) (f4 : Nat → Int32) (f3 : Nat → Int32) (f2 : Nat → Int32) (f5 : Nat → Int32) (f6 : Nat → Int32) (f7 : Nat → Int32) (v10 : Nat → Int32) (f11 : Nat → Int32) (hv1 : zR rg_Postings v1) (hf3 : zA 0 1250 f3) (hf6 : zA 0 832 f6) (hv10 : zR rg_Documents v10) : Met l yX8_tallyPlaces (zw yX8_tallyPlaces cX8_tallyPlaces 4 (some .int)) { frames := 4, cells := 0, slots := 0, locals := 88 } (zPc dC dI adK adV [.ref h0, .ref h10] sz [(h0, .inr (8, mX8 h1 v0)), (h1, .inr (6, mX6 h2 h3 h4 h5 h6 h7 h8 h9 v1)), (h4, zi k4 833 f4), (h3, zi k3 833 f3), (h2, zi k2 1250 f2), (h5, zi k5 400 f5), (h6, zi k6 400 f6), (h7, zi k7 400 f7), (h10, .inr (0, mX0 h11 h12 h13 h14 v10)), (h11, zi k11 120 f11)] [(k4, .int), (k3, .int), (k2, .int), (k5, .int), (k6, .int), (k7, .int), (k11, .boolean)]) (va_Qi (fun (r : Int32) (u : Nat → Int32) => (zQf zf2 f2 f3 f4 f5 f6 f7 (v1 8).toInt (v1 9).toInt (v1 10).toInt (v1 11).toInt f11 (v10 4).toInt (v0 1).toInt (v0 2).toInt (v0 3).toInt (v0 4).toInt (v0 5).toInt (v0 7).toInt r.toInt)) (fun (u : Nat → Int32) (t : State) => ∃ (ww : Nat → Int64) (aa : Nat → Nat → Int32) (bb : Nat → Nat → Int64), va_P (dC, dI) vwCl [(h0, .inr (8, mX8 h1 (upd (upd (upd (upd (upd (upd (upd (upd v0 1 (u 0)) 2 (u 1)) 3 (u 2)) 4 (u 3)) 5 (u 4)) 6 (u 5)) 7 (u 6)) 8 (u 7)))), (h1, .inr (6, mX6 h2 h3 h4 h5 h6 h7 h8 h9 v1)), (h4, zi k4 833 f4), (h3, zi k3 833 f3), (h2, zi k2 1250 f2), (h5, zi k5 400 f5), (h6, zi k6 400 f6), (h7, zi k7 400 f7), (h10, .inr (0, mX0 h11 h12 h13 h14 v10)), (h11, zi k11 120 f11)] t.heap ∧ va_K (dC, dI) vwCl [(k4, .int), (k3, .int), (k2, .int), (k5, .int), (k6, .int), (k7, .int), (k11, .boolean)] t ∧ va_D (va_A [(h0, .inr (8, mX8 h1 v0)), (h1, .inr (6, mX6 h2 h3 h4 h5 h6 h7 h8 h9 v1)), (h4, zi k4 833 f4), (h3, zi k3 833 f3), (h2, zi k2 1250 f2), (h5, zi k5 400 f5), (h6, zi k6 400 f6), (h7, zi k7 400 f7), (h10, .inr (0, mX0 h11 h12 h13 h14 v10)), (h11, zi k11 120 f11)] sz) [(h0, .inr (8, mX8 h1 (upd (upd (upd (upd (upd (upd (upd (upd v0 1 (u 0)) 2 (u 1)) 3 (u 2)) 4 (u 3)) 5 (u 4)) 6 (u 5)) 7 (u 6)) 8 (u 7)))), (h1, .inr (6, mX6 h2 h3 h4 h5 h6 h7 h8 h9 v1)), (h4, zi k4 833 f4), (h3, zi k3 833 f3), (h2, zi k2 1250 f2), (h5, zi k5 400 f5), (h6, zi k6 400 f6), (h7, zi k7 400 f7), (h10, .inr (0, mX0 h11 h12 h13 h14 v10)), (h11, zi k11 120 f11)]) (va_A [(h0, .inr (8, mX8 h1 v0)), (h1, .inr (6, mX6 h2 h3 h4 h5 h6 h7 h8 h9 v1)), (h4, zi k4 833 f4), (h3, zi k3 833 f3), (h2, zi k2 1250 f2), (h5, zi k5 400 f5), (h6, zi k6 400 f6), (h7, zi k7 400 f7), (h10, .inr (0, mX0 h11 h12 h13 h14 v10)), (h11, zi k11 120 f11)] sz)) 0 0 (va_A [(h0, .inr (8, mX8 h1 v0)), (h1, .inr (6, mX6 h2 h3 h4 h5 h6 h7 h8 h9 v1)), (h4, zi k4 833 f4), (h3, zi k3 833 f3), (h2, zi k2 1250 f2), (h5, zi k5 400 f5), (h6, zi k6 400 f6), (h7, zi k7 400 f7), (h10, .inr (0, mX0 h11 h12 h13 h14 v10)), (h11, zi k11 120 f11)] sz) := by
  sorry
set_option maxHeartbeats 8000000 in
set_option maxRecDepth 100000 in
theorem p12_sX11_posting_0 (l : Launch) (dC : Nat → ClassId) (dI : Nat → Nat → Nat) (adK adV : Nat → Nat) (h0 : Nat) (h4 : Nat) (h5 : Nat) (h6 : Nat) (h23 : Nat) (h29 : Nat) (h32 : Nat) (h27 : Nat) (h24 : Nat) (h25 : Nat) (h26 : Nat) (h28 : Nat) (h18 : Nat) (h19 : Nat) (h7 : Nat) (h30 : Nat) (h31 : Nat) (h1 : Nat) (h11 : Nat) (h33 : Nat) (h40 : Nat) (h48 : Nat) (h49 : Nat) (h8 : Nat) (h9 : Nat) (h10 : Nat) (h20 : Nat) (h21 : Nat) (h22 : Nat) (k5 : ClassId) (k6 : ClassId) (k29 : ClassId) (k27 : ClassId) (k24 : ClassId) (k25 : ClassId) (k26 : ClassId) (k28 : ClassId) (k19 : ClassId) (k7 : ClassId) (k30 : ClassId) (k31 : ClassId) (sz : Nat) (sp0 : Value) (lw0 : Int64) (v4 : Nat → Int32) (f5 : Nat → Int64) (f6 : Nat → Int32) (v23 : Nat → Int32) (f29 : Nat → Int32) (v32 : Nat → Int32) (f27 : Nat → Int32) (f24 : Nat → Int32) (f25 : Nat → Int32) (f26 : Nat → Int32) (f28 : Nat → Int32) (v18 : Nat → Int32) (f19 : Nat → Int32) (f7 : Nat → Int32) (f30 : Nat → Int32) (f31 : Nat → Int32) (x1 : Int32) (hv4 : zR rg_Words400 v4) (hf6 : zA 0 399 f6) (hv23 : zR rg_Postings v23) (hf25 : zA 0 1250 f25) (hf28 : zA 0 832 f28) (hv18 : zR rg_Documents v18) (hf7 : zA (-1) 399 f7) : Met l yX11_posting (zw yX11_posting cX11_posting 4 (some .int)) { frames := 5, cells := 0, slots := 0, locals := 111 } (zPc dC dI adK adV [.ref h0, .int x1] sz [(h0, .inr (11, mX11 h1 h4 h11 h18 h23 h32 h33 h40 h48 h49 sp0 lw0)), (h4, .inr (10, mX10 h5 h6 h7 h8 h9 h10 v4)), (h5, .inl (k5, 400, .inr (.inl f5))), (h6, zi k6 400 f6), (h23, .inr (6, mX6 h24 h25 h26 h27 h28 h29 h30 h31 v23)), (h29, zi k29 400 f29), (h32, .inr (8, mX8 h23 v32)), (h27, zi k27 400 f27), (h24, zi k24 1250 f24), (h25, zi k25 833 f25), (h26, zi k26 833 f26), (h28, zi k28 400 f28), (h18, .inr (0, mX0 h19 h20 h21 h22 v18)), (h19, zi k19 120 f19), (h7, zi k7 400 f7), (h30, zi k30 400 f30), (h31, zi k31 400 f31)] [(k5, .long), (k6, .int), (k29, .int), (k27, .int), (k24, .int), (k25, .int), (k26, .int), (k28, .int), (k19, .boolean), (k7, .int), (k30, .int), (k31, .int)]) (va_Qi (fun (r : Int32) (u : Nat → Int32) => (zPp f5 f6 f7 (v4 7).toInt f24 f25 f26 f27 f28 f29 (v23 8).toInt (v23 9).toInt (v23 10).toInt (v23 11).toInt f30 f31 (v18 4).toInt f19 x1.toInt lw0.toInt r.toInt)) (fun (u : Nat → Int32) (t : State) => ∃ (ww : Nat → Int64) (aa : Nat → Nat → Int32) (bb : Nat → Nat → Int64), va_P (dC, dI) vwCl [(h0, .inr (11, mX11 h1 h4 h11 h18 h23 h32 h33 h40 h48 h49 sp0 lw0)), (h4, .inr (10, mX10 h5 h6 h7 h8 h9 h10 v4)), (h5, .inl (k5, 400, .inr (.inl f5))), (h6, zi k6 400 f6), (h23, .inr (6, mX6 h24 h25 h26 h27 h28 h29 h30 h31 v23)), (h29, zi k29 400 f29), (h32, .inr (8, mX8 h23 (upd (upd (upd (upd (upd (upd (upd (upd v32 1 (u 0)) 2 (u 1)) 3 (u 2)) 4 (u 3)) 5 (u 4)) 6 (u 5)) 7 (u 6)) 8 (u 7)))), (h27, zi k27 400 f27), (h24, zi k24 1250 f24), (h25, zi k25 833 f25), (h26, zi k26 833 f26), (h28, zi k28 400 f28), (h18, .inr (0, mX0 h19 h20 h21 h22 v18)), (h19, zi k19 120 f19), (h7, zi k7 400 f7), (h30, zi k30 400 f30), (h31, zi k31 400 f31)] t.heap ∧ va_K (dC, dI) vwCl [(k5, .long), (k6, .int), (k29, .int), (k27, .int), (k24, .int), (k25, .int), (k26, .int), (k28, .int), (k19, .boolean), (k7, .int), (k30, .int), (k31, .int)] t ∧ va_D (va_A [(h0, .inr (11, mX11 h1 h4 h11 h18 h23 h32 h33 h40 h48 h49 sp0 lw0)), (h4, .inr (10, mX10 h5 h6 h7 h8 h9 h10 v4)), (h5, .inl (k5, 400, .inr (.inl f5))), (h6, zi k6 400 f6), (h23, .inr (6, mX6 h24 h25 h26 h27 h28 h29 h30 h31 v23)), (h29, zi k29 400 f29), (h32, .inr (8, mX8 h23 v32)), (h27, zi k27 400 f27), (h24, zi k24 1250 f24), (h25, zi k25 833 f25), (h26, zi k26 833 f26), (h28, zi k28 400 f28), (h18, .inr (0, mX0 h19 h20 h21 h22 v18)), (h19, zi k19 120 f19), (h7, zi k7 400 f7), (h30, zi k30 400 f30), (h31, zi k31 400 f31)] sz) [(h0, .inr (11, mX11 h1 h4 h11 h18 h23 h32 h33 h40 h48 h49 sp0 lw0)), (h4, .inr (10, mX10 h5 h6 h7 h8 h9 h10 v4)), (h5, .inl (k5, 400, .inr (.inl f5))), (h6, zi k6 400 f6), (h23, .inr (6, mX6 h24 h25 h26 h27 h28 h29 h30 h31 v23)), (h29, zi k29 400 f29), (h32, .inr (8, mX8 h23 (upd (upd (upd (upd (upd (upd (upd (upd v32 1 (u 0)) 2 (u 1)) 3 (u 2)) 4 (u 3)) 5 (u 4)) 6 (u 5)) 7 (u 6)) 8 (u 7)))), (h27, zi k27 400 f27), (h24, zi k24 1250 f24), (h25, zi k25 833 f25), (h26, zi k26 833 f26), (h28, zi k28 400 f28), (h18, .inr (0, mX0 h19 h20 h21 h22 v18)), (h19, zi k19 120 f19), (h7, zi k7 400 f7), (h30, zi k30 400 f30), (h31, zi k31 400 f31)]) (va_A [(h0, .inr (11, mX11 h1 h4 h11 h18 h23 h32 h33 h40 h48 h49 sp0 lw0)), (h4, .inr (10, mX10 h5 h6 h7 h8 h9 h10 v4)), (h5, .inl (k5, 400, .inr (.inl f5))), (h6, zi k6 400 f6), (h23, .inr (6, mX6 h24 h25 h26 h27 h28 h29 h30 h31 v23)), (h29, zi k29 400 f29), (h32, .inr (8, mX8 h23 v32)), (h27, zi k27 400 f27), (h24, zi k24 1250 f24), (h25, zi k25 833 f25), (h26, zi k26 833 f26), (h28, zi k28 400 f28), (h18, .inr (0, mX0 h19 h20 h21 h22 v18)), (h19, zi k19 120 f19), (h7, zi k7 400 f7), (h30, zi k30 400 f30), (h31, zi k31 400 f31)] sz)) 0 0 (va_A [(h0, .inr (11, mX11 h1 h4 h11 h18 h23 h32 h33 h40 h48 h49 sp0 lw0)), (h4, .inr (10, mX10 h5 h6 h7 h8 h9 h10 v4)), (h5, .inl (k5, 400, .inr (.inl f5))), (h6, zi k6 400 f6), (h23, .inr (6, mX6 h24 h25 h26 h27 h28 h29 h30 h31 v23)), (h29, zi k29 400 f29), (h32, .inr (8, mX8 h23 v32)), (h27, zi k27 400 f27), (h24, zi k24 1250 f24), (h25, zi k25 833 f25), (h26, zi k26 833 f26), (h28, zi k28 400 f28), (h18, .inr (0, mX0 h19 h20 h21 h22 v18)), (h19, zi k19 120 f19), (h7, zi k7 400 f7), (h30, zi k30 400 f30), (h31, zi k31 400 f31)] sz) := by
  sorry
set_option maxHeartbeats 8000000 in
set_option maxRecDepth 100000 in
theorem p12_sX6_bitAt_0 (l : Launch) (dC : Nat → ClassId) (dI : Nat → Nat → Nat) (adK adV : Nat → Nat) (h0 : Nat) (h6 : Nat) (h4 : Nat) (h2 : Nat) (h1 : Nat) (h3 : Nat) (h5 : Nat) (h7 : Nat) (h8 : Nat) (k6 : ClassId) (k4 : ClassId) (k2 : ClassId) (k1 : ClassId) (k3 : ClassId) (k5 : ClassId) (sz : Nat) (v0 : Nat → Int32) (f6 : Nat → Int32) (f4 : Nat → Int32) (f2 : Nat → Int32) (f1 : Nat → Int32) (f3 : Nat → Int32) (f5 : Nat → Int32) (x1 : Int32) (x2 : Int32) (hv0 : zR rg_Postings v0) (hf2 : zA 0 1250 f2) (hf5 : zA 0 832 f5) : Met l yX6_bitAt (zw yX6_bitAt cX6_bitAt 6 (some .int)) { frames := 2, cells := 0, slots := 0, locals := 41 } (zPc dC dI adK adV [.ref h0, .int x1, .int x2] sz [(h0, .inr (6, mX6 h1 h2 h3 h4 h5 h6 h7 h8 v0)), (h6, zi k6 400 f6), (h4, zi k4 400 f4), (h2, zi k2 833 f2), (h1, zi k1 1250 f1), (h3, zi k3 833 f3), (h5, zi k5 400 f5)] [(k6, .int), (k4, .int), (k2, .int), (k1, .int), (k3, .int), (k5, .int)]) (va_Qi (fun (r : Int32) (u : Nat → Int32) => (0 ≤ r.toInt ∧ r.toInt ≤ 1) ∧ (zBa f1 f2 f3 f4 f5 f6 (v0 8).toInt (v0 9).toInt (v0 10).toInt (v0 11).toInt (x1 : Int32) x2.toInt r.toInt)) (fun (u : Nat → Int32) (t : State) => ∃ (ww : Nat → Int64) (aa : Nat → Nat → Int32) (bb : Nat → Nat → Int64), va_P (dC, dI) vwCl [(h0, .inr (6, mX6 h1 h2 h3 h4 h5 h6 h7 h8 v0)), (h6, zi k6 400 f6), (h4, zi k4 400 f4), (h2, zi k2 833 f2), (h1, zi k1 1250 f1), (h3, zi k3 833 f3), (h5, zi k5 400 f5)] t.heap ∧ va_K (dC, dI) vwCl [(k6, .int), (k4, .int), (k2, .int), (k1, .int), (k3, .int), (k5, .int)] t ∧ va_D (va_A [(h0, .inr (6, mX6 h1 h2 h3 h4 h5 h6 h7 h8 v0)), (h6, zi k6 400 f6), (h4, zi k4 400 f4), (h2, zi k2 833 f2), (h1, zi k1 1250 f1), (h3, zi k3 833 f3), (h5, zi k5 400 f5)] sz) [(h0, .inr (6, mX6 h1 h2 h3 h4 h5 h6 h7 h8 v0)), (h6, zi k6 400 f6), (h4, zi k4 400 f4), (h2, zi k2 833 f2), (h1, zi k1 1250 f1), (h3, zi k3 833 f3), (h5, zi k5 400 f5)]) (va_A [(h0, .inr (6, mX6 h1 h2 h3 h4 h5 h6 h7 h8 v0)), (h6, zi k6 400 f6), (h4, zi k4 400 f4), (h2, zi k2 833 f2), (h1, zi k1 1250 f1), (h3, zi k3 833 f3), (h5, zi k5 400 f5)] sz)) 0 0 (va_A [(h0, .inr (6, mX6 h1 h2 h3 h4 h5 h6 h7 h8 v0)), (h6, zi k6 400 f6), (h4, zi k4 400 f4), (h2, zi k2 833 f2), (h1, zi k1 1250 f1), (h3, zi k3 833 f3), (h5, zi k5 400 f5)] sz) := by
  refine Met.ofW (cc := cX6_bitAt) (maxL := 6) (ret := (some .int)) (by decide) rfl ?_
  intro p e s m args below meth c s₁ B hml hv
  obtain ⟨rfl, hsz, hP, hK, hD0, hE, hZ⟩ := hv
  have hx := B.exec
  have hb := B.bytes
  have hr := B.returns
  have hG : ∀ w ∈ zG, w.before _ s = true := fun w h => atoms_spec (ws := (zw yX6_bitAt cX6_bitAt 6 (some .int))) B.pre w (List.mem_cons_of_mem _ h)
  have hown : s.vm.findClass RX6 = some m.cls := findClass_of_methodNamed B.named
  have hlocks := B.notSynchronized

  subst hsz
  have hD := hD0.self (sz := s.heap.size)
  generalize hAe : va_A [(h0, .inr (6, mX6 h1 h2 h3 h4 h5 h6 h7 h8 v0)), (h6, zi k6 400 f6), (h4, zi k4 400 f4), (h2, zi k2 833 f2), (h1, zi k1 1250 f1), (h3, zi k3 833 f3), (h5, zi k5 400 f5)] s.heap.size = A at hD hZ ⊢
  have hA : ∀ q : Nat, s.heap.size ≤ q → A q := fun q h => by rw [← hAe]; exact Or.inr h
  have hS : va_S A s.heap s.heap [] := va_S.rf
  have hl := lv_entry ([.ref h0, .int x1, .int x2]) (n := 6) (Nat.le_of_ble_eq_true rfl)
  rw [lg_entry_eq]
  generalize (lg_sl ([.ref h0, .int x1, .int x2]) ++ List.replicate (6 - (lg_sl ([.ref h0, .int x1, .int x2])).length) Slot.unset).toArray = ls at hl ⊢
  have hl : lv_has ls 6 [(0, .ref h0), (1, .int x1), (2, .int x2)] := hl
  have b_ := zk_0
  have b_ : 0 ≤ (v0 8).toInt ∧ (v0 8).toInt ≤ 833 := hv0 8
  have b_ : 0 ≤ (v0 9).toInt ∧ (v0 9).toInt ≤ 1250 := hv0 9
  have b_ : -2147483648 ≤ (v0 10).toInt ∧ (v0 10).toInt ≤ 2147483647 := ⟨zlo _, zhi _⟩
  have b_ : -2147483648 ≤ (v0 11).toInt ∧ (v0 11).toInt ≤ 2147483647 := ⟨zlo _, zhi _⟩
  refine lv_iload_n hx hb dX6_bitAt_0 rfl (lv_at hl 2 rfl) ?_
  have hPc := hP.sub (ws' := []) [] rfl
  have hDc := hD.sub (ws' := []) [] (by decide) rfl
  have hKc := hK.sub (tys' := []) [] rfl
  have hFc := va_free (wc := []) hD hS hA [] rfl
  refine va_calli (va_runS (As := [.int x2]) (rest := []) ⟨hx, hb, hml, hown, hG⟩ (sX6_chunkOf_0 l dC dI adK adV s.heap.size x2) (va_cwS 1 hG (zgS zv802 zv803 zv133 zv804) rfl rfl rfl (by decide +kernel) ⟨Nat.le_of_ble_eq_true rfl, Nat.le_of_ble_eq_true rfl⟩) ⟨zPc_blind, zPc_pre hPc hKc hDc hE hS hFc hZ⟩ rfl rfl hl.1 rfl (lv_room (Nat.le_of_ble_eq_true rfl)) dX6_bitAt_1 ⟨Nat.le_of_ble_eq_true rfl, Nat.le_of_ble_eq_true rfl⟩) hS (fun q _ h => hFc q h) hFc (fun r1_ u1_ t H1 locs ht hvm hw hB hz1 hk1 hS => ?_)
  replace hw : (0 ≤ r1_.toInt ∧ r1_.toInt ≤ 8388610) ∧ (0 ≤ x2.toInt → zCk x2.toInt r1_.toInt) := hw
  obtain ⟨b_, hX1_0⟩ := hw
  obtain ⟨w1_, a1_, b1_, hP1, hK1, hD1⟩ := hB
  rw [ht] at hP1
  obtain ⟨hP, hD⟩ := va_join (wr := [(h0, .inr (6, mX6 h1 h2 h3 h4 h5 h6 h7 h8 v0)), (h6, zi k6 400 f6), (h4, zi k4 400 f4), (h2, zi k2 833 f2), (h1, zi k1 1250 f1), (h3, zi k3 833 f3), (h5, zi k5 400 f5)]) (w1 := []) hP hD [] [0, 1, 2, 3, 4, 5, 6] rfl rfl (by decide) (by decide) hk1 hFc hP1 hD1
  have hP : va_P (dC, dI) vwCl [(h0, .inr (6, mX6 h1 h2 h3 h4 h5 h6 h7 h8 v0)), (h6, zi k6 400 f6), (h4, zi k4 400 f4), (h2, zi k2 833 f2), (h1, zi k1 1250 f1), (h3, zi k3 833 f3), (h5, zi k5 400 f5)] H1 := hP.sub [0, 1, 2, 3, 4, 5, 6] rfl
  have hD : va_D A [(h0, .inr (6, mX6 h1 h2 h3 h4 h5 h6 h7 h8 v0)), (h6, zi k6 400 f6), (h4, zi k4 400 f4), (h2, zi k2 833 f2), (h1, zi k1 1250 f1), (h3, zi k3 833 f3), (h5, zi k5 400 f5)] := hD.sub [0, 1, 2, 3, 4, 5, 6] (by decide) rfl
  generalize H1 = H at hP hS ⊢
  clear hz1
  refine lv_istore_n (lv' := [(3, .int r1_), (0, .ref h0), (1, .int x1), (2, .int x2)]) hx hb dX6_bitAt_4 rfl hl (by decide) rfl (fun ls hl => ?_)
  refine lv_aload_n hx hb dX6_bitAt_5 rfl (lv_at hl 1 rfl) ?_
  refine lv_iload_n hx hb dX6_bitAt_6 rfl (lv_at hl 2 rfl) ?_
  have hPc := hP.sub (ws' := [(h0, .inr (6, mX6 h1 h2 h3 h4 h5 h6 h7 h8 v0)), (h6, zi k6 400 f6), (h4, zi k4 400 f4)]) [0, 1, 2] rfl
  have hDc := hD.sub (ws' := [(h0, .inr (6, mX6 h1 h2 h3 h4 h5 h6 h7 h8 v0)), (h6, zi k6 400 f6), (h4, zi k4 400 f4)]) [0, 1, 2] (by decide) rfl
  have hKc := hK.sub (tys' := [(k6, .int), (k4, .int)]) [0, 1] rfl
  have hFc := va_free (wc := [(h0, .inr (6, mX6 h1 h2 h3 h4 h5 h6 h7 h8 v0)), (h6, zi k6 400 f6), (h4, zi k4 400 f4)]) hD hS hA [0, 1, 2] rfl
  refine va_calli (va_runV (As := [.int x1]) (rest := []) ⟨hx, hb, hml, hown, hG⟩ (sX6_firstChunkOf_0 l dC dI adK adV h0 h6 h4 h1 h2 h3 h5 h7 h8 k6 k4 H.size v0 f6 f4 x1 hv0) (cwV 1 hG (zgV zv1496 zv903 zv904 zv133 zv905) rfl rfl rfl (by decide +kernel) ⟨Nat.le_of_ble_eq_true rfl, Nat.le_of_ble_eq_true rfl⟩) ⟨zPc_blind, va_recv hKc hPc (ci := 6) (q0 := 0) rfl rfl, zPc_pre hPc hKc hDc hE hS hFc hZ⟩ rfl rfl hl.1 rfl (lv_room (Nat.le_of_ble_eq_true rfl)) dX6_bitAt_7 ⟨Nat.le_of_ble_eq_true rfl, Nat.le_of_ble_eq_true rfl⟩) hS (fun q _ h => hFc q h) hFc (fun r7_ u7_ t H1 locs ht hvm hw hB hz1 hk1 hS => ?_)
  replace hw : (zW (0 ≤ x1.toInt → x1.toInt ≤ 399 → 0 < (f6 ((x1 : Int32)).toNatClampNeg).toInt → r7_.toInt = (f4 ((x1 : Int32)).toNatClampNeg).toInt)) := hw
  have hX7_0 := hw
  obtain ⟨w7_, a7_, b7_, hP1, hK1, hD1⟩ := hB
  rw [ht] at hP1
  obtain ⟨hP, hD⟩ := va_join (wr := [(h2, zi k2 833 f2), (h1, zi k1 1250 f1), (h3, zi k3 833 f3), (h5, zi k5 400 f5)]) (w1 := [(h0, .inr (6, mX6 h1 h2 h3 h4 h5 h6 h7 h8 v0)), (h6, zi k6 400 f6), (h4, zi k4 400 f4)]) hP hD [0, 1, 2] [3, 4, 5, 6] rfl rfl (by decide) (by decide) hk1 hFc hP1 hD1
  have hP : va_P (dC, dI) vwCl [(h0, .inr (6, mX6 h1 h2 h3 h4 h5 h6 h7 h8 v0)), (h6, zi k6 400 f6), (h4, zi k4 400 f4), (h2, zi k2 833 f2), (h1, zi k1 1250 f1), (h3, zi k3 833 f3), (h5, zi k5 400 f5)] H1 := hP.sub [4, 5, 6, 0, 1, 2, 3] rfl
  have hD : va_D A [(h0, .inr (6, mX6 h1 h2 h3 h4 h5 h6 h7 h8 v0)), (h6, zi k6 400 f6), (h4, zi k4 400 f4), (h2, zi k2 833 f2), (h1, zi k1 1250 f1), (h3, zi k3 833 f3), (h5, zi k5 400 f5)] := hD.sub [4, 5, 6, 0, 1, 2, 3] (by decide) rfl
  generalize H1 = H at hP hS ⊢
  clear hz1
  refine lv_istore (lv' := [(4, .int r7_), (3, .int r1_), (0, .ref h0), (1, .int x1), (2, .int x2)]) hx hb dX6_bitAt_10 hl (by decide) rfl (fun ls hl => ?_)
  refine lv_iconst (v := 0) hx hb dX6_bitAt_12 (by decide) ?_
  refine lv_istore (lv' := [(5, .int 0), (4, .int r7_), (3, .int r1_), (0, .ref h0), (1, .int x1), (2, .int x2)]) hx hb dX6_bitAt_13 hl (by decide) rfl (fun ls hl => ?_)
  refine zcutL (fun u15_ => (999999999 - (u15_ 1).toInt).toNat) (fun H locs ls u15_ w15_ a15_ b15_ => va_P (dC, dI) vwCl [(h0, .inr (6, mX6 h1 h2 h3 h4 h5 h6 h7 h8 v0)), (h6, zi k6 400 f6), (h4, zi k4 400 f4), (h2, zi k2 833 f2), (h1, zi k1 1250 f1), (h3, zi k3 833 f3), (h5, zi k5 400 f5)] H ∧ va_D A [(h0, .inr (6, mX6 h1 h2 h3 h4 h5 h6 h7 h8 v0)), (h6, zi k6 400 f6), (h4, zi k4 400 f4), (h2, zi k2 833 f2), (h1, zi k1 1250 f1), (h3, zi k3 833 f3), (h5, zi k5 400 f5)] ∧ va_S A s.heap H locs ∧ lv_has ls 6 [(0, .ref h0), (1, .int x1), (2, .int x2), (3, .int r1_), (4, .int (u15_ 0)), (5, .int (u15_ 1))] ∧ (0 ≤ (u15_ 1).toInt ∧ (u15_ 1).toInt ≤ 999999999) ∧ (zBw f1 f2 f3 f4 f5 f6 (v0 8).toInt (v0 9).toInt (v0 10).toInt (v0 11).toInt (x1 : Int32) x2.toInt (u15_ 0).toInt (u15_ 1).toInt) ∧ (0 ≤ (u15_ 1).toInt) ∧ ((u15_ 1).toInt ≤ r1_.toInt)) (fun ls u15_ w15_ => F0 m 15 ls []) 0 0 ?_ (fun hJ15 => ?_)
  · skip
    intro H locs ls u15_ w15_ a15_ b15_ hc hJ15
    obtain ⟨hP, hD, hS, hl, b_, hI15_0, b_, b_⟩ := hc
    refine lv_iload hx hb dX6_bitAt_15 (lv_at hl 5 rfl) ?_
    refine lv_iload_n hx hb dX6_bitAt_17 rfl (lv_at hl 3 rfl) ?_
    refine lv_icmp_ge (tgt := 35) hx hb dX6_bitAt_18 (by decide) (fun c_ => ?_) (fun c_ => ?_)
    · skip
      have b_ := zT_ge rfl rfl c_
      refine lv_aload_n hx hb dX6_bitAt_35 rfl (lv_at hl 0 rfl) ?_
      refine lv_iload hx hb dX6_bitAt_36 (lv_at hl 4 rfl) ?_
      refine lv_iload_n hx hb dX6_bitAt_38 rfl (lv_at hl 2 rfl) ?_
      refine lv_iload_n hx hb dX6_bitAt_39 rfl (lv_at hl 3 rfl) ?_
      have hPc := hP.sub (ws' := []) [] rfl
      have hDc := hD.sub (ws' := []) [] (by decide) rfl
      have hKc := hK.sub (tys' := []) [] rfl
      have hFc := va_free (wc := []) hD hS hA [] rfl
      refine va_calli (va_runS (As := [.int r1_]) (rest := [.int x2, .int (u15_ 0), .ref h0]) ⟨hx, hb, hml, hown, hG⟩ (sX6_roomOf_0 l dC dI adK adV H.size r1_) (va_cwS 1 hG (zgS zv805 zv806 zv133 zv807) rfl rfl rfl (by decide +kernel) ⟨Nat.le_of_ble_eq_true rfl, Nat.le_of_ble_eq_true rfl⟩) ⟨zPc_blind, zPc_pre hPc hKc hDc hE hS hFc hZ⟩ rfl rfl hl.1 rfl (lv_room (Nat.le_of_ble_eq_true rfl)) dX6_bitAt_40 ⟨Nat.le_of_ble_eq_true rfl, Nat.le_of_ble_eq_true rfl⟩) hS (fun q _ h => hFc q h) hFc (fun r40_ u40_ t H1 locs ht hvm hw hB hz1 hk1 hS => ?_)
      replace hw : (0 ≤ r1_.toInt → r1_.toInt ≤ 1000 → zRo r1_.toInt r40_.toInt) := hw
      have hX40_0 := hw
      obtain ⟨w40_, a40_, b40_, hP1, hK1, hD1⟩ := hB
      rw [ht] at hP1
      obtain ⟨hP, hD⟩ := va_join (wr := [(h0, .inr (6, mX6 h1 h2 h3 h4 h5 h6 h7 h8 v0)), (h6, zi k6 400 f6), (h4, zi k4 400 f4), (h2, zi k2 833 f2), (h1, zi k1 1250 f1), (h3, zi k3 833 f3), (h5, zi k5 400 f5)]) (w1 := []) hP hD [] [0, 1, 2, 3, 4, 5, 6] rfl rfl (by decide) (by decide) hk1 hFc hP1 hD1
      have hP : va_P (dC, dI) vwCl [(h0, .inr (6, mX6 h1 h2 h3 h4 h5 h6 h7 h8 v0)), (h6, zi k6 400 f6), (h4, zi k4 400 f4), (h2, zi k2 833 f2), (h1, zi k1 1250 f1), (h3, zi k3 833 f3), (h5, zi k5 400 f5)] H1 := hP.sub [0, 1, 2, 3, 4, 5, 6] rfl
      have hD : va_D A [(h0, .inr (6, mX6 h1 h2 h3 h4 h5 h6 h7 h8 v0)), (h6, zi k6 400 f6), (h4, zi k4 400 f4), (h2, zi k2 833 f2), (h1, zi k1 1250 f1), (h3, zi k3 833 f3), (h5, zi k5 400 f5)] := hD.sub [0, 1, 2, 3, 4, 5, 6] (by decide) rfl
      generalize H1 = H at hP hS ⊢
      clear hz1
      have b_ : -2147483648 ≤ x2.toInt ∧ x2.toInt ≤ 2147483647 := ⟨zlo _, zhi _⟩
      have b_ : -2147483648 ≤ r40_.toInt ∧ r40_.toInt ≤ 2147483647 := ⟨zlo _, zhi _⟩
      refine lv_isub hx hb dX6_bitAt_43 ?_
      refine lv_topi (fun z43 e_z43 => ?_)
      have hPc := hP.sub (ws' := [(h0, .inr (6, mX6 h1 h2 h3 h4 h5 h6 h7 h8 v0)), (h2, zi k2 833 f2), (h1, zi k1 1250 f1)]) [0, 3, 4] rfl
      have hDc := hD.sub (ws' := [(h0, .inr (6, mX6 h1 h2 h3 h4 h5 h6 h7 h8 v0)), (h2, zi k2 833 f2), (h1, zi k1 1250 f1)]) [0, 3, 4] (by decide) rfl
      have hKc := hK.sub (tys' := [(k2, .int), (k1, .int)]) [2, 3] rfl
      have hFc := va_free (wc := [(h0, .inr (6, mX6 h1 h2 h3 h4 h5 h6 h7 h8 v0)), (h2, zi k2 833 f2), (h1, zi k1 1250 f1)]) hD hS hA [0, 3, 4] rfl
      refine va_calli (va_runV (As := [.int (u15_ 0), .int z43]) (rest := []) ⟨hx, hb, hml, hown, hG⟩ (sX6_bitInChunk_0 l dC dI adK adV h0 h2 h1 h3 h4 h5 h6 h7 h8 k2 k1 H.size v0 f2 f1 (u15_ 0) z43 hv0 hf2) (cwV 2 hG (zgV zv1498 zv928 zv929 zv133 zv930) rfl rfl rfl (by decide +kernel) ⟨Nat.le_of_ble_eq_true rfl, Nat.le_of_ble_eq_true rfl⟩) ⟨zPc_blind, va_recv hKc hPc (ci := 6) (q0 := 0) rfl rfl, zPc_pre hPc hKc hDc hE hS hFc hZ⟩ rfl rfl hl.1 rfl (lv_room (Nat.le_of_ble_eq_true rfl)) dX6_bitAt_44 ⟨Nat.le_of_ble_eq_true rfl, Nat.le_of_ble_eq_true rfl⟩) hS (fun q _ h => hFc q h) hFc (fun r44_ u44_ t H1 locs ht hvm hw hB hz1 hk1 hS => ?_)
      replace hw : (0 ≤ r44_.toInt ∧ r44_.toInt ≤ 1) ∧ (zBi f1 f2 (v0 8).toInt ((u15_ 0) : Int32) z43.toInt r44_.toInt) := hw
      obtain ⟨b_, hX44_0⟩ := hw
      obtain ⟨w44_, a44_, b44_, hP1, hK1, hD1⟩ := hB
      rw [ht] at hP1
      obtain ⟨hP, hD⟩ := va_join (wr := [(h6, zi k6 400 f6), (h4, zi k4 400 f4), (h3, zi k3 833 f3), (h5, zi k5 400 f5)]) (w1 := [(h0, .inr (6, mX6 h1 h2 h3 h4 h5 h6 h7 h8 v0)), (h2, zi k2 833 f2), (h1, zi k1 1250 f1)]) hP hD [0, 3, 4] [1, 2, 5, 6] rfl rfl (by decide) (by decide) hk1 hFc hP1 hD1
      have hP : va_P (dC, dI) vwCl [(h0, .inr (6, mX6 h1 h2 h3 h4 h5 h6 h7 h8 v0)), (h6, zi k6 400 f6), (h4, zi k4 400 f4), (h2, zi k2 833 f2), (h1, zi k1 1250 f1), (h3, zi k3 833 f3), (h5, zi k5 400 f5)] H1 := hP.sub [4, 0, 1, 5, 6, 2, 3] rfl
      have hD : va_D A [(h0, .inr (6, mX6 h1 h2 h3 h4 h5 h6 h7 h8 v0)), (h6, zi k6 400 f6), (h4, zi k4 400 f4), (h2, zi k2 833 f2), (h1, zi k1 1250 f1), (h3, zi k3 833 f3), (h5, zi k5 400 f5)] := hD.sub [4, 0, 1, 5, 6, 2, 3] (by decide) rfl
      generalize H1 = H at hP hS ⊢
      clear hz1
      refine W.widen (k := 0) (n := 0) (by decide) (by decide) ?_
      have hpost : (0 ≤ r44_.toInt ∧ r44_.toInt ≤ 1) ∧ (zBa f1 f2 f3 f4 f5 f6 (v0 8).toInt (v0 9).toInt (v0 10).toInt (v0 11).toInt (x1 : Int32) x2.toInt r44_.toInt) := ⟨(by first | with_reducible assumption | exact ⟨by omega, by omega⟩), by exact zBa_i hI15_0 hX1_0 (by omega) (fun _ => by omega) hX40_0 e_z43 hX44_0 (by omega)⟩
      have hP9 : va_P (dC, dI) vwCl [(h0, .inr (6, mX6 h1 h2 h3 h4 h5 h6 h7 h8 v0)), (h6, zi k6 400 f6), (h4, zi k4 400 f4), (h2, zi k2 833 f2), (h1, zi k1 1250 f1), (h3, zi k3 833 f3), (h5, zi k5 400 f5)] H := hP
      have hD9 : va_D A [(h0, .inr (6, mX6 h1 h2 h3 h4 h5 h6 h7 h8 v0)), (h6, zi k6 400 f6), (h4, zi k4 400 f4), (h2, zi k2 833 f2), (h1, zi k1 1250 f1), (h3, zi k3 833 f3), (h5, zi k5 400 f5)] := hD
      exact W.iret (v := r44_) hx hb hr (fun t ht hW => ⟨⟨r44_, (fun _ => 0), rfl, hpost, (fun _ => 0), (fun _ => (fun _ => 0)), (fun _ => (fun _ => 0)), by rw [ht]; exact hP9, va_K.moved hW.alike hK, hD9⟩, hS.F ht⟩) hS.2.2 dX6_bitAt_47
    · skip
      have b_ := zF_ge rfl rfl c_
      refine lv_aload_n hx hb dX6_bitAt_21 rfl (lv_at hl 0 rfl) ?_
      refine lv_iload hx hb dX6_bitAt_22 (lv_at hl 4 rfl) ?_
      have hPc := hP.sub (ws' := [(h0, .inr (6, mX6 h1 h2 h3 h4 h5 h6 h7 h8 v0)), (h3, zi k3 833 f3)]) [0, 5] rfl
      have hDc := hD.sub (ws' := [(h0, .inr (6, mX6 h1 h2 h3 h4 h5 h6 h7 h8 v0)), (h3, zi k3 833 f3)]) [0, 5] (by decide) rfl
      have hKc := hK.sub (tys' := [(k3, .int)]) [4] rfl
      have hFc := va_free (wc := [(h0, .inr (6, mX6 h1 h2 h3 h4 h5 h6 h7 h8 v0)), (h3, zi k3 833 f3)]) hD hS hA [0, 5] rfl
      refine va_calli (va_runV (As := [.int (u15_ 0)]) (rest := []) ⟨hx, hb, hml, hown, hG⟩ (sX6_chunkBehind_0 l dC dI adK adV h0 h3 h1 h2 h4 h5 h6 h7 h8 k3 H.size v0 f3 (u15_ 0) hv0) (cwV 1 hG (zgV zv1497 zv924 zv925 zv133 zv926) rfl rfl rfl (by decide +kernel) ⟨Nat.le_of_ble_eq_true rfl, Nat.le_of_ble_eq_true rfl⟩) ⟨zPc_blind, va_recv hKc hPc (ci := 6) (q0 := 0) rfl rfl, zPc_pre hPc hKc hDc hE hS hFc hZ⟩ rfl rfl hl.1 rfl (lv_room (Nat.le_of_ble_eq_true rfl)) dX6_bitAt_24 ⟨Nat.le_of_ble_eq_true rfl, Nat.le_of_ble_eq_true rfl⟩) hS (fun q _ h => hFc q h) hFc (fun r24_ u24_ t H1 locs ht hvm hw hB hz1 hk1 hS => ?_)
      replace hw : (0 ≤ (u15_ 0).toInt ∧ (u15_ 0).toInt < (v0 8).toInt → r24_.toInt = (f3 (((u15_ 0) : Int32)).toNatClampNeg).toInt) := hw
      have hX24_0 := hw
      obtain ⟨w24_, a24_, b24_, hP1, hK1, hD1⟩ := hB
      rw [ht] at hP1
      obtain ⟨hP, hD⟩ := va_join (wr := [(h6, zi k6 400 f6), (h4, zi k4 400 f4), (h2, zi k2 833 f2), (h1, zi k1 1250 f1), (h5, zi k5 400 f5)]) (w1 := [(h0, .inr (6, mX6 h1 h2 h3 h4 h5 h6 h7 h8 v0)), (h3, zi k3 833 f3)]) hP hD [0, 5] [1, 2, 3, 4, 6] rfl rfl (by decide) (by decide) hk1 hFc hP1 hD1
      have hP : va_P (dC, dI) vwCl [(h0, .inr (6, mX6 h1 h2 h3 h4 h5 h6 h7 h8 v0)), (h6, zi k6 400 f6), (h4, zi k4 400 f4), (h2, zi k2 833 f2), (h1, zi k1 1250 f1), (h3, zi k3 833 f3), (h5, zi k5 400 f5)] H1 := hP.sub [5, 0, 1, 2, 3, 6, 4] rfl
      have hD : va_D A [(h0, .inr (6, mX6 h1 h2 h3 h4 h5 h6 h7 h8 v0)), (h6, zi k6 400 f6), (h4, zi k4 400 f4), (h2, zi k2 833 f2), (h1, zi k1 1250 f1), (h3, zi k3 833 f3), (h5, zi k5 400 f5)] := hD.sub [5, 0, 1, 2, 3, 6, 4] (by decide) rfl
      generalize H1 = H at hP hS ⊢
      clear hz1
      refine lv_istore (lv' := [(4, .int r24_), (0, .ref h0), (1, .int x1), (2, .int x2), (3, .int r1_), (5, .int (u15_ 1))]) hx hb dX6_bitAt_27 hl (by decide) rfl (fun ls hl => ?_)
      obtain ⟨z29, e_z29⟩ : ∃ z : Int32, z = (u15_ 1) + Int32.ofInt 1 := ⟨_, rfl⟩
      have b_ := zadd (x := (u15_ 1)) (y := Int32.ofInt 1) rfl (show (Int32.ofInt 1).toInt = 1 from by decide) e_z29 (by omega) (by omega)
      refine lv_iinc (v := z29) (lv' := [(5, .int z29), (4, .int r24_), (0, .ref h0), (1, .int x1), (2, .int x2), (3, .int r1_)]) hx hb dX6_bitAt_29 hl (k := 5) rfl e_z29.symm (by decide) rfl (fun ls hl => ?_)
      refine lv_goto (tgt := 15) hx hb dX6_bitAt_32 (by decide) ?_
      have b_ : -2147483648 ≤ x1.toInt ∧ x1.toInt ≤ 2147483647 := ⟨zlo _, zhi _⟩
      have b_ : -2147483648 ≤ x2.toInt ∧ x2.toInt ≤ 2147483647 := ⟨zlo _, zhi _⟩
      have b_ : -2147483648 ≤ r24_.toInt ∧ r24_.toInt ≤ 2147483647 := ⟨zlo _, zhi _⟩
      have hc : va_P (dC, dI) vwCl [(h0, .inr (6, mX6 h1 h2 h3 h4 h5 h6 h7 h8 v0)), (h6, zi k6 400 f6), (h4, zi k4 400 f4), (h2, zi k2 833 f2), (h1, zi k1 1250 f1), (h3, zi k3 833 f3), (h5, zi k5 400 f5)] H ∧ va_D A [(h0, .inr (6, mX6 h1 h2 h3 h4 h5 h6 h7 h8 v0)), (h6, zi k6 400 f6), (h4, zi k4 400 f4), (h2, zi k2 833 f2), (h1, zi k1 1250 f1), (h3, zi k3 833 f3), (h5, zi k5 400 f5)] ∧ va_S A s.heap H locs ∧ lv_has ls 6 [(0, .ref h0), (1, .int x1), (2, .int x2), (3, .int r1_), (4, .int r24_), (5, .int z29)] ∧ (0 ≤ z29.toInt ∧ z29.toInt ≤ 999999999) ∧ (zBw f1 f2 f3 f4 f5 f6 (v0 8).toInt (v0 9).toInt (v0 10).toInt (v0 11).toInt (x1 : Int32) x2.toInt r24_.toInt z29.toInt) ∧ (0 ≤ z29.toInt) ∧ (z29.toInt ≤ r1_.toInt) := ⟨hP, hD, hS, lv_sub hl [2, 3, 4, 5, 1, 0] rfl, (by first | with_reducible assumption | exact ⟨by omega, by omega⟩), by first | exact zBw_s hI15_0 (by omega) hX24_0 (by omega) | exact zBw_0 hX7_0 (by decide), by omega, by omega⟩
      exact hJ15 H locs ls (fun i => ([r24_, z29] : List (Int32)).getD i 0) (fun _ => 0) (fun _ => (fun _ => 0)) (fun _ => (fun _ => 0)) hc (show (999999999 - z29.toInt).toNat < (999999999 - (u15_ 1).toInt).toNat from by omega)
  · skip
    have b_ : -2147483648 ≤ x1.toInt ∧ x1.toInt ≤ 2147483647 := ⟨zlo _, zhi _⟩
    have b_ : -2147483648 ≤ x2.toInt ∧ x2.toInt ≤ 2147483647 := ⟨zlo _, zhi _⟩
    have b_ : -2147483648 ≤ r7_.toInt ∧ r7_.toInt ≤ 2147483647 := ⟨zlo _, zhi _⟩
    have hc : va_P (dC, dI) vwCl [(h0, .inr (6, mX6 h1 h2 h3 h4 h5 h6 h7 h8 v0)), (h6, zi k6 400 f6), (h4, zi k4 400 f4), (h2, zi k2 833 f2), (h1, zi k1 1250 f1), (h3, zi k3 833 f3), (h5, zi k5 400 f5)] H ∧ va_D A [(h0, .inr (6, mX6 h1 h2 h3 h4 h5 h6 h7 h8 v0)), (h6, zi k6 400 f6), (h4, zi k4 400 f4), (h2, zi k2 833 f2), (h1, zi k1 1250 f1), (h3, zi k3 833 f3), (h5, zi k5 400 f5)] ∧ va_S A s.heap H locs ∧ lv_has ls 6 [(0, .ref h0), (1, .int x1), (2, .int x2), (3, .int r1_), (4, .int r7_), (5, .int 0)] ∧ (0 ≤ (0 : Int32).toInt ∧ (0 : Int32).toInt ≤ 999999999) ∧ (zBw f1 f2 f3 f4 f5 f6 (v0 8).toInt (v0 9).toInt (v0 10).toInt (v0 11).toInt (x1 : Int32) x2.toInt r7_.toInt (0 : Int32).toInt) ∧ (0 ≤ (0 : Int32).toInt) ∧ ((0 : Int32).toInt ≤ r1_.toInt) := ⟨hP, hD, hS, lv_sub hl [3, 4, 5, 2, 1, 0] rfl, (by first | with_reducible assumption | exact ⟨by omega, by omega⟩), by first | exact zBw_s hI15_0 (by omega) hX24_0 (by omega) | exact zBw_0 hX7_0 (by decide), by omega, by omega⟩
    exact hJ15 H locs ls (fun i => ([r7_, 0] : List (Int32)).getD i 0) (fun _ => 0) (fun _ => (fun _ => 0)) (fun _ => (fun _ => 0)) hc
set_option maxHeartbeats 8000000 in
set_option maxRecDepth 100000 in
theorem p12_sX11_bit_0 (l : Launch) (hl0 : l.stackTraces = false) (dC : Nat → ClassId) (dI : Nat → Nat → Nat) (adK adV : Nat → Nat) (h0 : Nat) (h4 : Nat) (h5 : Nat) (h6 : Nat) (h7 : Nat) (h23 : Nat) (h29 : Nat) (h27 : Nat) (h25 : Nat) (h24 : Nat) (h26 : Nat) (h28 : Nat) (h30 : Nat) (h31 : Nat) (h18 : Nat) (h1 : Nat) (h11 : Nat) (h32 : Nat) (h33 : Nat) (h40 : Nat) (h48 : Nat) (h49 : Nat) (h8 : Nat) (h9 : Nat) (h10 : Nat) (h19 : Nat) (h20 : Nat) (h21 : Nat) (h22 : Nat) (k5 : ClassId) (k6 : ClassId) (k7 : ClassId) (k29 : ClassId) (k27 : ClassId) (k25 : ClassId) (k24 : ClassId) (k26 : ClassId) (k28 : ClassId) (k30 : ClassId) (k31 : ClassId) (sz : Nat) (sp0 : Value) (lw0 : Int64) (v4 : Nat → Int32) (f5 : Nat → Int64) (f6 : Nat → Int32) (f7 : Nat → Int32) (v23 : Nat → Int32) (f29 : Nat → Int32) (f27 : Nat → Int32) (f25 : Nat → Int32) (f24 : Nat → Int32) (f26 : Nat → Int32) (f28 : Nat → Int32) (f30 : Nat → Int32) (f31 : Nat → Int32) (v18 : Nat → Int32) (x1 : Int32) (hv4 : zR rg_Words400 v4) (hf6 : zA 0 399 f6) (hf7 : zA (-1) 399 f7) (hv23 : zR rg_Postings v23) (hf25 : zA 0 1250 f25) (hf28 : zA 0 832 f28) (hv18 : zR rg_Documents v18) : vx_Met l yX11_bit (zw yX11_bit cX11_bit 3 (some .int)) { frames := 8, cells := 1, slots := 6, locals := 120 } (zPc dC dI adK adV [.ref h0, .int x1] sz [(h0, .inr (11, mX11 h1 h4 h11 h18 h23 h32 h33 h40 h48 h49 sp0 lw0)), (h4, .inr (10, mX10 h5 h6 h7 h8 h9 h10 v4)), (h5, .inl (k5, 400, .inr (.inl f5))), (h6, zi k6 400 f6), (h7, zi k7 400 f7), (h23, .inr (6, mX6 h24 h25 h26 h27 h28 h29 h30 h31 v23)), (h29, zi k29 400 f29), (h27, zi k27 400 f27), (h25, zi k25 833 f25), (h24, zi k24 1250 f24), (h26, zi k26 833 f26), (h28, zi k28 400 f28), (h30, zi k30 400 f30), (h31, zi k31 400 f31), (h18, .inr (0, mX0 h19 h20 h21 h22 v18))] [(k5, .long), (k6, .int), (k7, .int), (k29, .int), (k27, .int), (k25, .int), (k24, .int), (k26, .int), (k28, .int), (k30, .int), (k31, .int)]) (va_Qi (fun (r : Int32) (u : Nat → Int32) => (0 ≤ r.toInt ∧ r.toInt ≤ 1) ∧ (zBc f5 f6 f7 (v4 7).toInt f24 f25 f26 f27 f28 f29 (v23 8).toInt (v23 9).toInt (v23 10).toInt (v23 11).toInt f30 f31 (v18 4).toInt lw0.toInt x1.toInt 0 r.toInt)) (fun (u : Nat → Int32) (t : State) => ∃ (ww : Nat → Int64) (aa : Nat → Nat → Int32) (bb : Nat → Nat → Int64), va_P (dC, dI) vwCl [(h0, .inr (11, mX11 h1 h4 h11 h18 h23 h32 h33 h40 h48 h49 sp0 lw0)), (h4, .inr (10, mX10 h5 h6 h7 h8 h9 h10 v4)), (h5, .inl (k5, 400, .inr (.inl f5))), (h6, zi k6 400 f6), (h7, zi k7 400 f7), (h23, .inr (6, mX6 h24 h25 h26 h27 h28 h29 h30 h31 v23)), (h29, zi k29 400 f29), (h27, zi k27 400 f27), (h25, zi k25 833 f25), (h24, zi k24 1250 f24), (h26, zi k26 833 f26), (h28, zi k28 400 f28), (h30, zi k30 400 f30), (h31, zi k31 400 f31), (h18, .inr (0, mX0 h19 h20 h21 h22 v18))] t.heap ∧ va_K (dC, dI) vwCl [(k5, .long), (k6, .int), (k7, .int), (k29, .int), (k27, .int), (k25, .int), (k24, .int), (k26, .int), (k28, .int), (k30, .int), (k31, .int)] t ∧ va_D (va_A [(h0, .inr (11, mX11 h1 h4 h11 h18 h23 h32 h33 h40 h48 h49 sp0 lw0)), (h4, .inr (10, mX10 h5 h6 h7 h8 h9 h10 v4)), (h5, .inl (k5, 400, .inr (.inl f5))), (h6, zi k6 400 f6), (h7, zi k7 400 f7), (h23, .inr (6, mX6 h24 h25 h26 h27 h28 h29 h30 h31 v23)), (h29, zi k29 400 f29), (h27, zi k27 400 f27), (h25, zi k25 833 f25), (h24, zi k24 1250 f24), (h26, zi k26 833 f26), (h28, zi k28 400 f28), (h30, zi k30 400 f30), (h31, zi k31 400 f31), (h18, .inr (0, mX0 h19 h20 h21 h22 v18))] sz) [(h0, .inr (11, mX11 h1 h4 h11 h18 h23 h32 h33 h40 h48 h49 sp0 lw0)), (h4, .inr (10, mX10 h5 h6 h7 h8 h9 h10 v4)), (h5, .inl (k5, 400, .inr (.inl f5))), (h6, zi k6 400 f6), (h7, zi k7 400 f7), (h23, .inr (6, mX6 h24 h25 h26 h27 h28 h29 h30 h31 v23)), (h29, zi k29 400 f29), (h27, zi k27 400 f27), (h25, zi k25 833 f25), (h24, zi k24 1250 f24), (h26, zi k26 833 f26), (h28, zi k28 400 f28), (h30, zi k30 400 f30), (h31, zi k31 400 f31), (h18, .inr (0, mX0 h19 h20 h21 h22 v18))]) (va_A [(h0, .inr (11, mX11 h1 h4 h11 h18 h23 h32 h33 h40 h48 h49 sp0 lw0)), (h4, .inr (10, mX10 h5 h6 h7 h8 h9 h10 v4)), (h5, .inl (k5, 400, .inr (.inl f5))), (h6, zi k6 400 f6), (h7, zi k7 400 f7), (h23, .inr (6, mX6 h24 h25 h26 h27 h28 h29 h30 h31 v23)), (h29, zi k29 400 f29), (h27, zi k27 400 f27), (h25, zi k25 833 f25), (h24, zi k24 1250 f24), (h26, zi k26 833 f26), (h28, zi k28 400 f28), (h30, zi k30 400 f30), (h31, zi k31 400 f31), (h18, .inr (0, mX0 h19 h20 h21 h22 v18))] sz)) (vx_X (fun (u : Nat → Int32) => (zBc f5 f6 f7 (v4 7).toInt f24 f25 f26 f27 f28 f29 (v23 8).toInt (v23 9).toInt (v23 10).toInt (v23 11).toInt f30 f31 (v18 4).toInt lw0.toInt x1.toInt 1 0)) (fun (E : String) (u : Nat → Int32) (t : State) => E = "java/lang/IndexOutOfBoundsException" ∧ ∃ (ww : Nat → Int64) (aa : Nat → Nat → Int32) (bb : Nat → Nat → Int64), va_P (dC, dI) vwCl [(h0, .inr (11, mX11 h1 h4 h11 h18 h23 h32 h33 h40 h48 h49 sp0 lw0)), (h4, .inr (10, mX10 h5 h6 h7 h8 h9 h10 v4)), (h5, .inl (k5, 400, .inr (.inl f5))), (h6, zi k6 400 f6), (h7, zi k7 400 f7), (h23, .inr (6, mX6 h24 h25 h26 h27 h28 h29 h30 h31 v23)), (h29, zi k29 400 f29), (h27, zi k27 400 f27), (h25, zi k25 833 f25), (h24, zi k24 1250 f24), (h26, zi k26 833 f26), (h28, zi k28 400 f28), (h30, zi k30 400 f30), (h31, zi k31 400 f31), (h18, .inr (0, mX0 h19 h20 h21 h22 v18))] t.heap ∧ va_K (dC, dI) vwCl [(k5, .long), (k6, .int), (k7, .int), (k29, .int), (k27, .int), (k25, .int), (k24, .int), (k26, .int), (k28, .int), (k30, .int), (k31, .int)] t ∧ va_D (va_A [(h0, .inr (11, mX11 h1 h4 h11 h18 h23 h32 h33 h40 h48 h49 sp0 lw0)), (h4, .inr (10, mX10 h5 h6 h7 h8 h9 h10 v4)), (h5, .inl (k5, 400, .inr (.inl f5))), (h6, zi k6 400 f6), (h7, zi k7 400 f7), (h23, .inr (6, mX6 h24 h25 h26 h27 h28 h29 h30 h31 v23)), (h29, zi k29 400 f29), (h27, zi k27 400 f27), (h25, zi k25 833 f25), (h24, zi k24 1250 f24), (h26, zi k26 833 f26), (h28, zi k28 400 f28), (h30, zi k30 400 f30), (h31, zi k31 400 f31), (h18, .inr (0, mX0 h19 h20 h21 h22 v18))] sz) [(h0, .inr (11, mX11 h1 h4 h11 h18 h23 h32 h33 h40 h48 h49 sp0 lw0)), (h4, .inr (10, mX10 h5 h6 h7 h8 h9 h10 v4)), (h5, .inl (k5, 400, .inr (.inl f5))), (h6, zi k6 400 f6), (h7, zi k7 400 f7), (h23, .inr (6, mX6 h24 h25 h26 h27 h28 h29 h30 h31 v23)), (h29, zi k29 400 f29), (h27, zi k27 400 f27), (h25, zi k25 833 f25), (h24, zi k24 1250 f24), (h26, zi k26 833 f26), (h28, zi k28 400 f28), (h30, zi k30 400 f30), (h31, zi k31 400 f31), (h18, .inr (0, mX0 h19 h20 h21 h22 v18))]) (va_A [(h0, .inr (11, mX11 h1 h4 h11 h18 h23 h32 h33 h40 h48 h49 sp0 lw0)), (h4, .inr (10, mX10 h5 h6 h7 h8 h9 h10 v4)), (h5, .inl (k5, 400, .inr (.inl f5))), (h6, zi k6 400 f6), (h7, zi k7 400 f7), (h23, .inr (6, mX6 h24 h25 h26 h27 h28 h29 h30 h31 v23)), (h29, zi k29 400 f29), (h27, zi k27 400 f27), (h25, zi k25 833 f25), (h24, zi k24 1250 f24), (h26, zi k26 833 f26), (h28, zi k28 400 f28), (h30, zi k30 400 f30), (h31, zi k31 400 f31), (h18, .inr (0, mX0 h19 h20 h21 h22 v18))] sz)) 1 6 (va_A [(h0, .inr (11, mX11 h1 h4 h11 h18 h23 h32 h33 h40 h48 h49 sp0 lw0)), (h4, .inr (10, mX10 h5 h6 h7 h8 h9 h10 v4)), (h5, .inl (k5, 400, .inr (.inl f5))), (h6, zi k6 400 f6), (h7, zi k7 400 f7), (h23, .inr (6, mX6 h24 h25 h26 h27 h28 h29 h30 h31 v23)), (h29, zi k29 400 f29), (h27, zi k27 400 f27), (h25, zi k25 833 f25), (h24, zi k24 1250 f24), (h26, zi k26 833 f26), (h28, zi k28 400 f28), (h30, zi k30 400 f30), (h31, zi k31 400 f31), (h18, .inr (0, mX0 h19 h20 h21 h22 v18))] sz) := by
  refine vx_ofW (cc := cX11_bit) (maxL := 3) (ret := (some .int)) (by decide) rfl ?_
  intro p e s m args below meth c s₁ B hml hout hv
  obtain ⟨rfl, hsz, hP, hK, hD0, hE, hZ⟩ := hv
  have hx := B.exec
  have hb := B.bytes
  have hr := B.returns
  have hG : ∀ w ∈ zG, w.before _ s = true := fun w h => atoms_spec (ws := (zw yX11_bit cX11_bit 3 (some .int))) B.pre w (List.mem_cons_of_mem _ h)
  have hown : s.vm.findClass RX11 = some m.cls := findClass_of_methodNamed B.named
  have hlocks := B.notSynchronized

  subst hsz
  have hD := hD0.self (sz := s.heap.size)
  generalize hAe : va_A [(h0, .inr (11, mX11 h1 h4 h11 h18 h23 h32 h33 h40 h48 h49 sp0 lw0)), (h4, .inr (10, mX10 h5 h6 h7 h8 h9 h10 v4)), (h5, .inl (k5, 400, .inr (.inl f5))), (h6, zi k6 400 f6), (h7, zi k7 400 f7), (h23, .inr (6, mX6 h24 h25 h26 h27 h28 h29 h30 h31 v23)), (h29, zi k29 400 f29), (h27, zi k27 400 f27), (h25, zi k25 833 f25), (h24, zi k24 1250 f24), (h26, zi k26 833 f26), (h28, zi k28 400 f28), (h30, zi k30 400 f30), (h31, zi k31 400 f31), (h18, .inr (0, mX0 h19 h20 h21 h22 v18))] s.heap.size = A at hD hZ ⊢
  have hA : ∀ q : Nat, s.heap.size ≤ q → A q := fun q h => by rw [← hAe]; exact Or.inr h
  have hS : va_S A s.heap s.heap [] := va_S.rf
  have hl := lv_entry ([.ref h0, .int x1]) (n := 3) (Nat.le_of_ble_eq_true rfl)
  rw [lg_entry_eq]
  generalize (lg_sl ([.ref h0, .int x1]) ++ List.replicate (3 - (lg_sl ([.ref h0, .int x1])).length) Slot.unset).toArray = ls at hl ⊢
  have hl : lv_has ls 3 [(0, .ref h0), (1, .int x1)] := hl
  have b_ : 0 ≤ (v4 7).toInt ∧ (v4 7).toInt ≤ 400 := hv4 7
  have b_ : 0 ≤ (v23 8).toInt ∧ (v23 8).toInt ≤ 833 := hv23 8
  have b_ : 0 ≤ (v23 9).toInt ∧ (v23 9).toInt ≤ 1250 := hv23 9
  have b_ : -2147483648 ≤ (v23 10).toInt ∧ (v23 10).toInt ≤ 2147483647 := ⟨zlo _, zhi _⟩
  have b_ : -2147483648 ≤ (v23 11).toInt ∧ (v23 11).toInt ≤ 2147483647 := ⟨zlo _, zhi _⟩
  have b_ : 0 ≤ (v18 4).toInt ∧ (v18 4).toInt ≤ 120 := hv18 4
  refine lv_aload_n hx hb dX11_bit_0 rfl (lv_at hl 0 rfl) ?_
  refine va_get (D := (dC, dI)) (ci := 11) (v := .ref h4) (C := RX11) (T := TX11) (N := 12) hx hb hG zuX11 hown hK hP 0 rfl rfl 1 (by decide) (hG _ zv558) (fun _ h9 => h9) rfl dX11_bit_1 ?_
  refine lv_aload_n hx hb dX11_bit_4 rfl (lv_at hl 0 rfl) ?_
  refine va_get (D := (dC, dI)) (ci := 11) (v := .long lw0) (C := RX11) (T := TX11) (N := 12) hx hb hG zuX11 hown hK hP 0 rfl rfl 11 (by decide) (hG _ zv568) (fun _ h9 => h9) rfl dX11_bit_5 ?_
  have hPc := hP.sub (ws' := [(h4, .inr (10, mX10 h5 h6 h7 h8 h9 h10 v4)), (h5, .inl (k5, 400, .inr (.inl f5))), (h6, zi k6 400 f6), (h7, zi k7 400 f7)]) [1, 2, 3, 4] rfl
  have hDc := hD.sub (ws' := [(h4, .inr (10, mX10 h5 h6 h7 h8 h9 h10 v4)), (h5, .inl (k5, 400, .inr (.inl f5))), (h6, zi k6 400 f6), (h7, zi k7 400 f7)]) [1, 2, 3, 4] (by decide) rfl
  have hKc := hK.sub (tys' := [(k5, .long), (k6, .int), (k7, .int)]) [0, 1, 2] rfl
  have hFc := va_free (wc := [(h4, .inr (10, mX10 h5 h6 h7 h8 h9 h10 v4)), (h5, .inl (k5, 400, .inr (.inl f5))), (h6, zi k6 400 f6), (h7, zi k7 400 f7)]) hD hS hA [1, 2, 3, 4] rfl
  refine va_calli (va_runV (As := [.long lw0]) (rest := []) ⟨hx, hb, hml, hown, hG⟩ (sX10_idOf_0 l dC dI adK adV h4 h5 h6 h7 h8 h9 h10 k5 k6 k7 s.heap.size v4 f5 f6 f7 lw0 hv4 hf6 hf7) (cwV 1 hG (zgV zv968 zv748 zv749 zv131 zv750) rfl rfl rfl (by decide +kernel) ⟨Nat.le_of_ble_eq_true rfl, Nat.le_of_ble_eq_true rfl⟩) ⟨zPc_blind, va_recv hKc hPc (ci := 10) (q0 := 0) rfl rfl, zPc_pre hPc hKc hDc hE hS hFc hZ⟩ rfl rfl hl.1 rfl (lv_room (Nat.le_of_ble_eq_true rfl)) dX11_bit_8 ⟨Nat.le_of_ble_eq_true rfl, Nat.le_of_ble_eq_true rfl⟩) hS (fun q _ h => hFc q h) hFc (fun r8_ u8_ t H1 locs ht hvm hw hB hz1 hk1 hS => ?_)
  replace hw : ((-1) ≤ r8_.toInt ∧ r8_.toInt ≤ 399) ∧ (∀ V : List Int, zVo f5 f6 f7 (v4 7).toInt V → zIf V lw0.toInt r8_.toInt) := hw
  obtain ⟨b_, hX8_0⟩ := hw
  obtain ⟨w8_, a8_, b8_, hP1, hK1, hD1⟩ := hB
  rw [ht] at hP1
  obtain ⟨hP, hD⟩ := va_join (wr := [(h0, .inr (11, mX11 h1 h4 h11 h18 h23 h32 h33 h40 h48 h49 sp0 lw0)), (h23, .inr (6, mX6 h24 h25 h26 h27 h28 h29 h30 h31 v23)), (h29, zi k29 400 f29), (h27, zi k27 400 f27), (h25, zi k25 833 f25), (h24, zi k24 1250 f24), (h26, zi k26 833 f26), (h28, zi k28 400 f28), (h30, zi k30 400 f30), (h31, zi k31 400 f31), (h18, .inr (0, mX0 h19 h20 h21 h22 v18))]) (w1 := [(h4, .inr (10, mX10 h5 h6 h7 h8 h9 h10 v4)), (h5, .inl (k5, 400, .inr (.inl f5))), (h6, zi k6 400 f6), (h7, zi k7 400 f7)]) hP hD [1, 2, 3, 4] [0, 5, 6, 7, 8, 9, 10, 11, 12, 13, 14] rfl rfl (by decide) (by decide) hk1 hFc hP1 hD1
  have hP : va_P (dC, dI) vwCl [(h0, .inr (11, mX11 h1 h4 h11 h18 h23 h32 h33 h40 h48 h49 sp0 lw0)), (h4, .inr (10, mX10 h5 h6 h7 h8 h9 h10 v4)), (h5, .inl (k5, 400, .inr (.inl f5))), (h6, zi k6 400 f6), (h7, zi k7 400 f7), (h23, .inr (6, mX6 h24 h25 h26 h27 h28 h29 h30 h31 v23)), (h29, zi k29 400 f29), (h27, zi k27 400 f27), (h25, zi k25 833 f25), (h24, zi k24 1250 f24), (h26, zi k26 833 f26), (h28, zi k28 400 f28), (h30, zi k30 400 f30), (h31, zi k31 400 f31), (h18, .inr (0, mX0 h19 h20 h21 h22 v18))] H1 := hP.sub [0, 11, 12, 13, 14, 1, 2, 3, 4, 5, 6, 7, 8, 9, 10] rfl
  have hD : va_D A [(h0, .inr (11, mX11 h1 h4 h11 h18 h23 h32 h33 h40 h48 h49 sp0 lw0)), (h4, .inr (10, mX10 h5 h6 h7 h8 h9 h10 v4)), (h5, .inl (k5, 400, .inr (.inl f5))), (h6, zi k6 400 f6), (h7, zi k7 400 f7), (h23, .inr (6, mX6 h24 h25 h26 h27 h28 h29 h30 h31 v23)), (h29, zi k29 400 f29), (h27, zi k27 400 f27), (h25, zi k25 833 f25), (h24, zi k24 1250 f24), (h26, zi k26 833 f26), (h28, zi k28 400 f28), (h30, zi k30 400 f30), (h31, zi k31 400 f31), (h18, .inr (0, mX0 h19 h20 h21 h22 v18))] := hD.sub [0, 11, 12, 13, 14, 1, 2, 3, 4, 5, 6, 7, 8, 9, 10] (by decide) rfl
  generalize H1 = H at hP hS ⊢
  clear hz1
  refine lv_istore_n (lv' := [(2, .int r8_), (0, .ref h0), (1, .int x1)]) hx hb dX11_bit_11 rfl hl (by decide) rfl (fun ls hl => ?_)
  refine lv_iload_n hx hb dX11_bit_12 rfl (lv_at hl 2 rfl) ?_
  have b_ : -2147483648 ≤ x1.toInt ∧ x1.toInt ≤ 2147483647 := ⟨zlo _, zhi _⟩
  refine lv_if_lt (tgt := 28) hx hb dX11_bit_13 (by decide) (fun c_ => ?_) (fun c_ => ?_)
  · skip
    have b_ := zT_lt rfl zk_0 c_
    have hpost : (zBc f5 f6 f7 (v4 7).toInt f24 f25 f26 f27 f28 f29 (v23 8).toInt (v23 9).toInt (v23 10).toInt (v23 11).toInt f30 f31 (v18 4).toInt lw0.toInt x1.toInt 1 0) := by first | exact zBc_x hX8_0 hX22_0 (by omega) | exact zBc_n (by omega)
    have hP9 : va_P (dC, dI) vwCl [(h0, .inr (11, mX11 h1 h4 h11 h18 h23 h32 h33 h40 h48 h49 sp0 lw0)), (h4, .inr (10, mX10 h5 h6 h7 h8 h9 h10 v4)), (h5, .inl (k5, 400, .inr (.inl f5))), (h6, zi k6 400 f6), (h7, zi k7 400 f7), (h23, .inr (6, mX6 h24 h25 h26 h27 h28 h29 h30 h31 v23)), (h29, zi k29 400 f29), (h27, zi k27 400 f27), (h25, zi k25 833 f25), (h24, zi k24 1250 f24), (h26, zi k26 833 f26), (h28, zi k28 400 f28), (h30, zi k30 400 f30), (h31, zi k31 400 f31), (h18, .inr (0, mX0 h19 h20 h21 h22 v18))] H := hP
    have hD9 : va_D A [(h0, .inr (11, mX11 h1 h4 h11 h18 h23 h32 h33 h40 h48 h49 sp0 lw0)), (h4, .inr (10, mX10 h5 h6 h7 h8 h9 h10 v4)), (h5, .inl (k5, 400, .inr (.inl f5))), (h6, zi k6 400 f6), (h7, zi k7 400 f7), (h23, .inr (6, mX6 h24 h25 h26 h27 h28 h29 h30 h31 v23)), (h29, zi k29 400 f29), (h27, zi k27 400 f27), (h25, zi k25 833 f25), (h24, zi k24 1250 f24), (h26, zi k26 833 f26), (h28, zi k28 400 f28), (h30, zi k30 400 f30), (h31, zi k31 400 f31), (h18, .inr (0, mX0 h19 h20 h21 h22 v18))] := hD
    obtain ⟨sa, hstr⟩ := zE_S220 hE
    exact vx_throwS (names := ["java/lang/RuntimeException", "java/lang/Exception"]) (A := A) hx hb hl0 hown (by decide +kernel) (by decide +kernel) (hG _ zv1411) (hG _ zv154) hstr (zhat hG hE) zAT_ot hZ.1 hZ.2.1 hS (hl.1.trans hml.symm) dX11_bit_28 dX11_bit_31 dX11_bit_32 dX11_bit_34 dX11_bit_37 (fun x h => (hout x h).elim) (by decide) (by decide +kernel) (Nat.le_of_ble_eq_true rfl) (Nat.le_of_ble_eq_true rfl) hlocks (fun t hvm hz hk => ⟨(fun _ => 0), hpost, ⟨rfl, (fun _ => 0), (fun _ => (fun _ => 0)), (fun _ => (fun _ => 0)), zkeepP hP9 hk, va_K.moved hvm hK, hD9⟩, zkeepF hS hz hk⟩) hS.2.2 (Nat.le_of_ble_eq_true rfl) (Nat.le_of_ble_eq_true rfl)
  · skip
    have b_ := zF_lt rfl zk_0 c_
    refine lv_iload_n hx hb dX11_bit_16 rfl (lv_at hl 2 rfl) ?_
    refine lv_aload_n hx hb dX11_bit_17 rfl (lv_at hl 1 rfl) ?_
    refine va_get (D := (dC, dI)) (ci := 11) (v := .ref h23) (C := RX11) (T := TX11) (N := 12) hx hb hG zuX11 hown hK hP 0 rfl rfl 4 (by decide) (hG _ zv561) (fun _ h9 => h9) rfl dX11_bit_18 ?_
    refine lv_iload_n hx hb dX11_bit_21 rfl (lv_at hl 0 rfl) ?_
    have hPc := hP.sub (ws' := [(h23, .inr (6, mX6 h24 h25 h26 h27 h28 h29 h30 h31 v23)), (h29, zi k29 400 f29)]) [5, 6] rfl
    have hDc := hD.sub (ws' := [(h23, .inr (6, mX6 h24 h25 h26 h27 h28 h29 h30 h31 v23)), (h29, zi k29 400 f29)]) [5, 6] (by decide) rfl
    have hKc := hK.sub (tys' := [(k29, .int)]) [3] rfl
    have hFc := va_free (wc := [(h23, .inr (6, mX6 h24 h25 h26 h27 h28 h29 h30 h31 v23)), (h29, zi k29 400 f29)]) hD hS hA [5, 6] rfl
    refine va_calli (va_runV (As := [.int r8_]) (rest := [.int x1]) ⟨hx, hb, hml, hown, hG⟩ (sX6_bitsOf_0 l dC dI adK adV h23 h29 h24 h25 h26 h27 h28 h30 h31 k29 H.size v23 f29 r8_ hv23) (cwV 1 hG (zgV zv977 zv772 zv773 zv133 zv774) rfl rfl rfl (by decide +kernel) ⟨Nat.le_of_ble_eq_true rfl, Nat.le_of_ble_eq_true rfl⟩) ⟨zPc_blind, va_recv hKc hPc (ci := 6) (q0 := 0) rfl rfl, zPc_pre hPc hKc hDc hE hS hFc hZ⟩ rfl rfl hl.1 rfl (lv_room (Nat.le_of_ble_eq_true rfl)) dX11_bit_22 ⟨Nat.le_of_ble_eq_true rfl, Nat.le_of_ble_eq_true rfl⟩) hS (fun q _ h => hFc q h) hFc (fun r22_ u22_ t H1 locs ht hvm hw hB hz1 hk1 hS => ?_)
    replace hw : (zW (0 ≤ r8_.toInt → r8_.toInt ≤ 399 → r22_.toInt = (f29 ((r8_ : Int32)).toNatClampNeg).toInt)) ∧ ((r8_.toInt < 0 ∨ 399 < r8_.toInt) → r22_.toInt = 0) := hw
    obtain ⟨hX22_0, hX22_1⟩ := hw
    obtain ⟨w22_, a22_, b22_, hP1, hK1, hD1⟩ := hB
    rw [ht] at hP1
    obtain ⟨hP, hD⟩ := va_join (wr := [(h0, .inr (11, mX11 h1 h4 h11 h18 h23 h32 h33 h40 h48 h49 sp0 lw0)), (h4, .inr (10, mX10 h5 h6 h7 h8 h9 h10 v4)), (h5, .inl (k5, 400, .inr (.inl f5))), (h6, zi k6 400 f6), (h7, zi k7 400 f7), (h27, zi k27 400 f27), (h25, zi k25 833 f25), (h24, zi k24 1250 f24), (h26, zi k26 833 f26), (h28, zi k28 400 f28), (h30, zi k30 400 f30), (h31, zi k31 400 f31), (h18, .inr (0, mX0 h19 h20 h21 h22 v18))]) (w1 := [(h23, .inr (6, mX6 h24 h25 h26 h27 h28 h29 h30 h31 v23)), (h29, zi k29 400 f29)]) hP hD [5, 6] [0, 1, 2, 3, 4, 7, 8, 9, 10, 11, 12, 13, 14] rfl rfl (by decide) (by decide) hk1 hFc hP1 hD1
    have hP : va_P (dC, dI) vwCl [(h0, .inr (11, mX11 h1 h4 h11 h18 h23 h32 h33 h40 h48 h49 sp0 lw0)), (h4, .inr (10, mX10 h5 h6 h7 h8 h9 h10 v4)), (h5, .inl (k5, 400, .inr (.inl f5))), (h6, zi k6 400 f6), (h7, zi k7 400 f7), (h23, .inr (6, mX6 h24 h25 h26 h27 h28 h29 h30 h31 v23)), (h29, zi k29 400 f29), (h27, zi k27 400 f27), (h25, zi k25 833 f25), (h24, zi k24 1250 f24), (h26, zi k26 833 f26), (h28, zi k28 400 f28), (h30, zi k30 400 f30), (h31, zi k31 400 f31), (h18, .inr (0, mX0 h19 h20 h21 h22 v18))] H1 := hP.sub [0, 1, 2, 3, 4, 13, 14, 5, 6, 7, 8, 9, 10, 11, 12] rfl
    have hD : va_D A [(h0, .inr (11, mX11 h1 h4 h11 h18 h23 h32 h33 h40 h48 h49 sp0 lw0)), (h4, .inr (10, mX10 h5 h6 h7 h8 h9 h10 v4)), (h5, .inl (k5, 400, .inr (.inl f5))), (h6, zi k6 400 f6), (h7, zi k7 400 f7), (h23, .inr (6, mX6 h24 h25 h26 h27 h28 h29 h30 h31 v23)), (h29, zi k29 400 f29), (h27, zi k27 400 f27), (h25, zi k25 833 f25), (h24, zi k24 1250 f24), (h26, zi k26 833 f26), (h28, zi k28 400 f28), (h30, zi k30 400 f30), (h31, zi k31 400 f31), (h18, .inr (0, mX0 h19 h20 h21 h22 v18))] := hD.sub [0, 1, 2, 3, 4, 13, 14, 5, 6, 7, 8, 9, 10, 11, 12] (by decide) rfl
    generalize H1 = H at hP hS ⊢
    clear hz1
    have b_ : -2147483648 ≤ r22_.toInt ∧ r22_.toInt ≤ 2147483647 := ⟨zlo _, zhi _⟩
    refine lv_icmp_lt (tgt := 38) hx hb dX11_bit_25 (by decide) (fun c_ => ?_) (fun c_ => ?_)
    · skip
      have b_ := zT_lt rfl rfl c_
      refine lv_aload_n hx hb dX11_bit_38 rfl (lv_at hl 1 rfl) ?_
      refine va_get (D := (dC, dI)) (ci := 11) (v := .ref h23) (C := RX11) (T := TX11) (N := 12) hx hb hG zuX11 hown hK hP 0 rfl rfl 4 (by decide) (hG _ zv561) (fun _ h9 => h9) rfl dX11_bit_39 ?_
      refine lv_iload_n hx hb dX11_bit_42 rfl (lv_at hl 0 rfl) ?_
      refine lv_iload_n hx hb dX11_bit_43 rfl (lv_at hl 2 rfl) ?_
      have hPc := hP.sub (ws' := [(h23, .inr (6, mX6 h24 h25 h26 h27 h28 h29 h30 h31 v23)), (h29, zi k29 400 f29), (h27, zi k27 400 f27), (h25, zi k25 833 f25), (h24, zi k24 1250 f24), (h26, zi k26 833 f26), (h28, zi k28 400 f28)]) [5, 6, 7, 8, 9, 10, 11] rfl
      have hDc := hD.sub (ws' := [(h23, .inr (6, mX6 h24 h25 h26 h27 h28 h29 h30 h31 v23)), (h29, zi k29 400 f29), (h27, zi k27 400 f27), (h25, zi k25 833 f25), (h24, zi k24 1250 f24), (h26, zi k26 833 f26), (h28, zi k28 400 f28)]) [5, 6, 7, 8, 9, 10, 11] (by decide) rfl
      have hKc := hK.sub (tys' := [(k29, .int), (k27, .int), (k25, .int), (k24, .int), (k26, .int), (k28, .int)]) [3, 4, 5, 6, 7, 8] rfl
      have hFc := va_free (wc := [(h23, .inr (6, mX6 h24 h25 h26 h27 h28 h29 h30 h31 v23)), (h29, zi k29 400 f29), (h27, zi k27 400 f27), (h25, zi k25 833 f25), (h24, zi k24 1250 f24), (h26, zi k26 833 f26), (h28, zi k28 400 f28)]) hD hS hA [5, 6, 7, 8, 9, 10, 11] rfl
      refine va_calli (va_runV (As := [.int r8_, .int x1]) (rest := []) ⟨hx, hb, hml, hown, hG⟩ (p12_sX6_bitAt_0 l dC dI adK adV h23 h29 h27 h25 h24 h26 h28 h30 h31 k29 k27 k25 k24 k26 k28 H.size v23 f29 f27 f25 f24 f26 f28 r8_ x1 hv23 hf25 hf28) (cwV 2 hG (zgV zv1492 zv1493 zv1494 zv133 zv1495) rfl rfl rfl (by decide +kernel) ⟨Nat.le_of_ble_eq_true rfl, Nat.le_of_ble_eq_true rfl⟩) ⟨zPc_blind, va_recv hKc hPc (ci := 6) (q0 := 0) rfl rfl, zPc_pre hPc hKc hDc hE hS hFc hZ⟩ rfl rfl hl.1 rfl (lv_room (Nat.le_of_ble_eq_true rfl)) dX11_bit_44 ⟨Nat.le_of_ble_eq_true rfl, Nat.le_of_ble_eq_true rfl⟩) hS (fun q _ h => hFc q h) hFc (fun r44_ u44_ t H1 locs ht hvm hw hB hz1 hk1 hS => ?_)
      replace hw : (0 ≤ r44_.toInt ∧ r44_.toInt ≤ 1) ∧ (zBa f24 f25 f26 f27 f28 f29 (v23 8).toInt (v23 9).toInt (v23 10).toInt (v23 11).toInt (r8_ : Int32) x1.toInt r44_.toInt) := hw
      obtain ⟨b_, hX44_0⟩ := hw
      obtain ⟨w44_, a44_, b44_, hP1, hK1, hD1⟩ := hB
      rw [ht] at hP1
      obtain ⟨hP, hD⟩ := va_join (wr := [(h0, .inr (11, mX11 h1 h4 h11 h18 h23 h32 h33 h40 h48 h49 sp0 lw0)), (h4, .inr (10, mX10 h5 h6 h7 h8 h9 h10 v4)), (h5, .inl (k5, 400, .inr (.inl f5))), (h6, zi k6 400 f6), (h7, zi k7 400 f7), (h30, zi k30 400 f30), (h31, zi k31 400 f31), (h18, .inr (0, mX0 h19 h20 h21 h22 v18))]) (w1 := [(h23, .inr (6, mX6 h24 h25 h26 h27 h28 h29 h30 h31 v23)), (h29, zi k29 400 f29), (h27, zi k27 400 f27), (h25, zi k25 833 f25), (h24, zi k24 1250 f24), (h26, zi k26 833 f26), (h28, zi k28 400 f28)]) hP hD [5, 6, 7, 8, 9, 10, 11] [0, 1, 2, 3, 4, 12, 13, 14] rfl rfl (by decide) (by decide) hk1 hFc hP1 hD1
      have hP : va_P (dC, dI) vwCl [(h0, .inr (11, mX11 h1 h4 h11 h18 h23 h32 h33 h40 h48 h49 sp0 lw0)), (h4, .inr (10, mX10 h5 h6 h7 h8 h9 h10 v4)), (h5, .inl (k5, 400, .inr (.inl f5))), (h6, zi k6 400 f6), (h7, zi k7 400 f7), (h23, .inr (6, mX6 h24 h25 h26 h27 h28 h29 h30 h31 v23)), (h29, zi k29 400 f29), (h27, zi k27 400 f27), (h25, zi k25 833 f25), (h24, zi k24 1250 f24), (h26, zi k26 833 f26), (h28, zi k28 400 f28), (h30, zi k30 400 f30), (h31, zi k31 400 f31), (h18, .inr (0, mX0 h19 h20 h21 h22 v18))] H1 := hP.sub [0, 1, 2, 3, 4, 8, 9, 10, 11, 12, 13, 14, 5, 6, 7] rfl
      have hD : va_D A [(h0, .inr (11, mX11 h1 h4 h11 h18 h23 h32 h33 h40 h48 h49 sp0 lw0)), (h4, .inr (10, mX10 h5 h6 h7 h8 h9 h10 v4)), (h5, .inl (k5, 400, .inr (.inl f5))), (h6, zi k6 400 f6), (h7, zi k7 400 f7), (h23, .inr (6, mX6 h24 h25 h26 h27 h28 h29 h30 h31 v23)), (h29, zi k29 400 f29), (h27, zi k27 400 f27), (h25, zi k25 833 f25), (h24, zi k24 1250 f24), (h26, zi k26 833 f26), (h28, zi k28 400 f28), (h30, zi k30 400 f30), (h31, zi k31 400 f31), (h18, .inr (0, mX0 h19 h20 h21 h22 v18))] := hD.sub [0, 1, 2, 3, 4, 8, 9, 10, 11, 12, 13, 14, 5, 6, 7] (by decide) rfl
      generalize H1 = H at hP hS ⊢
      clear hz1
      refine W.widen (k := 1) (n := 6) (by decide) (by decide) ?_
      have hpost : (0 ≤ r44_.toInt ∧ r44_.toInt ≤ 1) ∧ (zBc f5 f6 f7 (v4 7).toInt f24 f25 f26 f27 f28 f29 (v23 8).toInt (v23 9).toInt (v23 10).toInt (v23 11).toInt f30 f31 (v18 4).toInt lw0.toInt x1.toInt 0 r44_.toInt) := ⟨(by first | with_reducible assumption | exact ⟨by omega, by omega⟩), by exact zBc_i hX8_0 hX22_0 hX22_1 (by omega) (by omega) hX44_0⟩
      have hP9 : va_P (dC, dI) vwCl [(h0, .inr (11, mX11 h1 h4 h11 h18 h23 h32 h33 h40 h48 h49 sp0 lw0)), (h4, .inr (10, mX10 h5 h6 h7 h8 h9 h10 v4)), (h5, .inl (k5, 400, .inr (.inl f5))), (h6, zi k6 400 f6), (h7, zi k7 400 f7), (h23, .inr (6, mX6 h24 h25 h26 h27 h28 h29 h30 h31 v23)), (h29, zi k29 400 f29), (h27, zi k27 400 f27), (h25, zi k25 833 f25), (h24, zi k24 1250 f24), (h26, zi k26 833 f26), (h28, zi k28 400 f28), (h30, zi k30 400 f30), (h31, zi k31 400 f31), (h18, .inr (0, mX0 h19 h20 h21 h22 v18))] H := hP
      have hD9 : va_D A [(h0, .inr (11, mX11 h1 h4 h11 h18 h23 h32 h33 h40 h48 h49 sp0 lw0)), (h4, .inr (10, mX10 h5 h6 h7 h8 h9 h10 v4)), (h5, .inl (k5, 400, .inr (.inl f5))), (h6, zi k6 400 f6), (h7, zi k7 400 f7), (h23, .inr (6, mX6 h24 h25 h26 h27 h28 h29 h30 h31 v23)), (h29, zi k29 400 f29), (h27, zi k27 400 f27), (h25, zi k25 833 f25), (h24, zi k24 1250 f24), (h26, zi k26 833 f26), (h28, zi k28 400 f28), (h30, zi k30 400 f30), (h31, zi k31 400 f31), (h18, .inr (0, mX0 h19 h20 h21 h22 v18))] := hD
      exact vx_ret (W.iret (v := r44_) hx hb hr (fun t ht hW => ⟨⟨r44_, (fun _ => 0), rfl, hpost, (fun _ => 0), (fun _ => (fun _ => 0)), (fun _ => (fun _ => 0)), by rw [ht]; exact hP9, va_K.moved hW.alike hK, hD9⟩, hS.F ht⟩) hS.2.2 dX11_bit_47)
    · skip
      have b_ := zF_lt rfl rfl c_
      have hpost : (zBc f5 f6 f7 (v4 7).toInt f24 f25 f26 f27 f28 f29 (v23 8).toInt (v23 9).toInt (v23 10).toInt (v23 11).toInt f30 f31 (v18 4).toInt lw0.toInt x1.toInt 1 0) := by first | exact zBc_x hX8_0 hX22_0 (by omega) | exact zBc_n (by omega)
      have hP9 : va_P (dC, dI) vwCl [(h0, .inr (11, mX11 h1 h4 h11 h18 h23 h32 h33 h40 h48 h49 sp0 lw0)), (h4, .inr (10, mX10 h5 h6 h7 h8 h9 h10 v4)), (h5, .inl (k5, 400, .inr (.inl f5))), (h6, zi k6 400 f6), (h7, zi k7 400 f7), (h23, .inr (6, mX6 h24 h25 h26 h27 h28 h29 h30 h31 v23)), (h29, zi k29 400 f29), (h27, zi k27 400 f27), (h25, zi k25 833 f25), (h24, zi k24 1250 f24), (h26, zi k26 833 f26), (h28, zi k28 400 f28), (h30, zi k30 400 f30), (h31, zi k31 400 f31), (h18, .inr (0, mX0 h19 h20 h21 h22 v18))] H := hP
      have hD9 : va_D A [(h0, .inr (11, mX11 h1 h4 h11 h18 h23 h32 h33 h40 h48 h49 sp0 lw0)), (h4, .inr (10, mX10 h5 h6 h7 h8 h9 h10 v4)), (h5, .inl (k5, 400, .inr (.inl f5))), (h6, zi k6 400 f6), (h7, zi k7 400 f7), (h23, .inr (6, mX6 h24 h25 h26 h27 h28 h29 h30 h31 v23)), (h29, zi k29 400 f29), (h27, zi k27 400 f27), (h25, zi k25 833 f25), (h24, zi k24 1250 f24), (h26, zi k26 833 f26), (h28, zi k28 400 f28), (h30, zi k30 400 f30), (h31, zi k31 400 f31), (h18, .inr (0, mX0 h19 h20 h21 h22 v18))] := hD
      obtain ⟨sa, hstr⟩ := zE_S220 hE
      exact vx_throwS (names := ["java/lang/RuntimeException", "java/lang/Exception"]) (A := A) hx hb hl0 hown (by decide +kernel) (by decide +kernel) (hG _ zv1411) (hG _ zv154) hstr (zhat hG hE) zAT_ot hZ.1 hZ.2.1 hS (hl.1.trans hml.symm) dX11_bit_28 dX11_bit_31 dX11_bit_32 dX11_bit_34 dX11_bit_37 (fun x h => (hout x h).elim) (by decide) (by decide +kernel) (Nat.le_of_ble_eq_true rfl) (Nat.le_of_ble_eq_true rfl) hlocks (fun t hvm hz hk => ⟨(fun _ => 0), hpost, ⟨rfl, (fun _ => 0), (fun _ => (fun _ => 0)), (fun _ => (fun _ => 0)), zkeepP hP9 hk, va_K.moved hvm hK, hD9⟩, zkeepF hS hz hk⟩) hS.2.2 (Nat.le_of_ble_eq_true rfl) (Nat.le_of_ble_eq_true rfl)
set_option maxHeartbeats 8000000 in
set_option maxRecDepth 100000 in
theorem p12_sX10_wordAt_0 (l : Launch) (dC : Nat → ClassId) (dI : Nat → Nat → Nat) (adK adV : Nat → Nat) (h0 : Nat) (h1 : Nat) (h2 : Nat) (h3 : Nat) (h4 : Nat) (h5 : Nat) (h6 : Nat) (k1 : ClassId) (sz : Nat) (v0 : Nat → Int32) (f1 : Nat → Int64) (x1 : Int32) (hv0 : zR rg_Words400 v0) : Met l yX10_wordAt (zw yX10_wordAt cX10_wordAt 2 (some .long)) { frames := 0, cells := 0, slots := 0, locals := 0 } (zPc dC dI adK adV [.ref h0, .int x1] sz [(h0, .inr (10, mX10 h1 h2 h3 h4 h5 h6 v0)), (h1, .inl (k1, 400, .inr (.inl f1)))] [(k1, .long)]) (va_Ql (fun (r : Int64) (u : Nat → Int32) => (zW (0 ≤ x1.toInt → x1.toInt < (v0 7).toInt → r.toInt = (f1 ((x1 : Int32)).toNatClampNeg).toInt))) (fun (u : Nat → Int32) (t : State) => ∃ (ww : Nat → Int64) (aa : Nat → Nat → Int32) (bb : Nat → Nat → Int64), va_P (dC, dI) vwCl [(h0, .inr (10, mX10 h1 h2 h3 h4 h5 h6 v0)), (h1, .inl (k1, 400, .inr (.inl f1)))] t.heap ∧ va_K (dC, dI) vwCl [(k1, .long)] t ∧ va_D (va_A [(h0, .inr (10, mX10 h1 h2 h3 h4 h5 h6 v0)), (h1, .inl (k1, 400, .inr (.inl f1)))] sz) [(h0, .inr (10, mX10 h1 h2 h3 h4 h5 h6 v0)), (h1, .inl (k1, 400, .inr (.inl f1)))]) (va_A [(h0, .inr (10, mX10 h1 h2 h3 h4 h5 h6 v0)), (h1, .inl (k1, 400, .inr (.inl f1)))] sz)) 0 0 (va_A [(h0, .inr (10, mX10 h1 h2 h3 h4 h5 h6 v0)), (h1, .inl (k1, 400, .inr (.inl f1)))] sz) := by
  sorry
set_option maxHeartbeats 8000000 in
set_option maxRecDepth 100000 in
theorem p12_sX10_spell_0 (l : Launch) (dC : Nat → ClassId) (dI : Nat → Nat → Nat) (adK adV : Nat → Nat) (h0 : Nat) (k0 : ClassId) (sz : Nat) (f0 : Nat → Int32) (y0 : Int64) : Met l yX10_spell (zw yX10_spell cX10_spell 7 (some .int)) { frames := 0, cells := 0, slots := 0, locals := 0 } (zPc dC dI adK adV [.long y0, .ref h0] sz [(h0, zi k0 12 f0)] [(k0, .byte)]) (va_Qi (fun (r : Int32) (u : Nat → Int32) => (0 ≤ r.toInt ∧ r.toInt ≤ 12) ∧ (r.toInt = (u 0).toInt)) (fun (u : Nat → Int32) (t : State) => ∃ (ww : Nat → Int64) (aa : Nat → Nat → Int32) (bb : Nat → Nat → Int64), (zxS y0.toInt (aa 0) (u 0).toInt) ∧ va_P (dC, dI) vwCl [(h0, zi k0 12 (aa 0))] t.heap ∧ va_K (dC, dI) vwCl [(k0, .byte)] t ∧ va_D (va_A [(h0, zi k0 12 f0)] sz) [(h0, zi k0 12 (aa 0))]) (va_A [(h0, zi k0 12 f0)] sz)) 0 0 (va_A [(h0, zi k0 12 f0)] sz) := by
  sorry
set_option maxHeartbeats 8000000 in
set_option maxRecDepth 100000 in
theorem p12_sX10_nextCosts_0 (l : Launch) (dC : Nat → ClassId) (dI : Nat → Nat → Nat) (adK adV : Nat → Nat) (h0 : Nat) (h6 : Nat) (h4 : Nat) (h5 : Nat) (h1 : Nat) (h2 : Nat) (h3 : Nat) (k6 : ClassId) (k4 : ClassId) (k5 : ClassId) (sz : Nat) (v0 : Nat → Int32) (f6 : Nat → Int32) (f4 : Nat → Int32) (f5 : Nat → Int32) (x1 : Int32) (x2 : Int32) (hv0 : zR rg_Words400 v0) (hx1 : 1 ≤ x1.toInt ∧ x1.toInt ≤ 12) (hx2 : 0 ≤ x2.toInt ∧ x2.toInt ≤ 12) : Met l yX10_nextCosts (zw yX10_nextCosts cX10_nextCosts 7 (some .int)) { frames := 1, cells := 0, slots := 0, locals := 40 } (zPc dC dI adK adV [.ref h0, .int x1, .int x2] sz [(h0, .inr (10, mX10 h1 h2 h3 h4 h5 h6 v0)), (h6, zi k6 13 f6), (h4, zi k4 12 f4), (h5, zi k5 12 f5)] [(k6, .int), (k4, .byte), (k5, .byte)]) (va_Qi (fun (r : Int32) (u : Nat → Int32) => ((-2147483648) ≤ r.toInt ∧ r.toInt ≤ 12) ∧ (r.toInt = (u 0).toInt)) (fun (u : Nat → Int32) (t : State) => ∃ (ww : Nat → Int64) (aa : Nat → Nat → Int32) (bb : Nat → Nat → Int64), (zxN (fun k => (f4 k).toInt) (fun k => (f5 k).toInt) x1.toInt x2.toInt f6 (aa 0) (u 0).toInt) ∧ va_P (dC, dI) vwCl [(h0, .inr (10, mX10 h1 h2 h3 h4 h5 h6 v0)), (h6, zi k6 13 (aa 0)), (h4, zi k4 12 f4), (h5, zi k5 12 f5)] t.heap ∧ va_K (dC, dI) vwCl [(k6, .int), (k4, .byte), (k5, .byte)] t ∧ va_D (va_A [(h0, .inr (10, mX10 h1 h2 h3 h4 h5 h6 v0)), (h6, zi k6 13 f6), (h4, zi k4 12 f4), (h5, zi k5 12 f5)] sz) [(h0, .inr (10, mX10 h1 h2 h3 h4 h5 h6 v0)), (h6, zi k6 13 (aa 0)), (h4, zi k4 12 f4), (h5, zi k5 12 f5)]) (va_A [(h0, .inr (10, mX10 h1 h2 h3 h4 h5 h6 v0)), (h6, zi k6 13 f6), (h4, zi k4 12 f4), (h5, zi k5 12 f5)] sz)) 0 0 (va_A [(h0, .inr (10, mX10 h1 h2 h3 h4 h5 h6 v0)), (h6, zi k6 13 f6), (h4, zi k4 12 f4), (h5, zi k5 12 f5)] sz) := by
  sorry
set_option maxHeartbeats 8000000 in
set_option maxRecDepth 100000 in
theorem p12_sX10_distance_0 (l : Launch) (dC : Nat → ClassId) (dI : Nat → Nat → Nat) (adK adV : Nat → Nat) (h0 : Nat) (h4 : Nat) (h5 : Nat) (h6 : Nat) (h1 : Nat) (h2 : Nat) (h3 : Nat) (k4 : ClassId) (k5 : ClassId) (k6 : ClassId) (sz : Nat) (v0 : Nat → Int32) (f4 : Nat → Int32) (f5 : Nat → Int32) (f6 : Nat → Int32) (y1 : Int64) (y2 : Int64) (x3 : Int32) (hv0 : zR rg_Words400 v0) (hx3 : 0 ≤ x3.toInt ∧ x3.toInt ≤ 2) : Met l yX10_distance (zw yX10_distance cX10_distance 9 (some .int)) { frames := 2, cells := 0, slots := 0, locals := 66 } (zPc dC dI adK adV [.ref h0, .long y1, .long y2, .int x3] sz [(h0, .inr (10, mX10 h1 h2 h3 h4 h5 h6 v0)), (h4, zi k4 12 f4), (h5, zi k5 12 f5), (h6, zi k6 13 f6)] [(k4, .byte), (k5, .byte), (k6, .int)]) (va_Qi (fun (r : Int32) (u : Nat → Int32) => (0 ≤ r.toInt) ∧ (r.toInt ≤ 24) ∧ (zxD y1.toInt y2.toInt x3.toInt r.toInt)) (fun (u : Nat → Int32) (t : State) => ∃ (ww : Nat → Int64) (aa : Nat → Nat → Int32) (bb : Nat → Nat → Int64), va_P (dC, dI) vwCl [(h0, .inr (10, mX10 h1 h2 h3 h4 h5 h6 v0)), (h4, zi k4 12 (aa 0)), (h5, zi k5 12 (aa 1)), (h6, zi k6 13 (aa 2))] t.heap ∧ va_K (dC, dI) vwCl [(k4, .byte), (k5, .byte), (k6, .int)] t ∧ va_D (va_A [(h0, .inr (10, mX10 h1 h2 h3 h4 h5 h6 v0)), (h4, zi k4 12 f4), (h5, zi k5 12 f5), (h6, zi k6 13 f6)] sz) [(h0, .inr (10, mX10 h1 h2 h3 h4 h5 h6 v0)), (h4, zi k4 12 (aa 0)), (h5, zi k5 12 (aa 1)), (h6, zi k6 13 (aa 2))]) (va_A [(h0, .inr (10, mX10 h1 h2 h3 h4 h5 h6 v0)), (h4, zi k4 12 f4), (h5, zi k5 12 f5), (h6, zi k6 13 f6)] sz)) 0 0 (va_A [(h0, .inr (10, mX10 h1 h2 h3 h4 h5 h6 v0)), (h4, zi k4 12 f4), (h5, zi k5 12 f5), (h6, zi k6 13 f6)] sz) := by
  sorry
set_option maxHeartbeats 8000000 in
set_option maxRecDepth 100000 in
theorem p12_sX11_nearest_0 (l : Launch) (dC : Nat → ClassId) (dI : Nat → Nat → Nat) (adK adV : Nat → Nat) (h0 : Nat) (h1 : Nat) (h2 : Nat) (h3 : Nat) (h4 : Nat) (h5 : Nat) (h8 : Nat) (h9 : Nat) (h10 : Nat) (h6 : Nat) (h32 : Nat) (h23 : Nat) (h29 : Nat) (h27 : Nat) (h24 : Nat) (h25 : Nat) (h26 : Nat) (h28 : Nat) (h18 : Nat) (h19 : Nat) (h7 : Nat) (h30 : Nat) (h31 : Nat) (h11 : Nat) (h33 : Nat) (h40 : Nat) (h48 : Nat) (h49 : Nat) (h20 : Nat) (h21 : Nat) (h22 : Nat) (k2 : ClassId) (k3 : ClassId) (k5 : ClassId) (k8 : ClassId) (k9 : ClassId) (k10 : ClassId) (k6 : ClassId) (k29 : ClassId) (k27 : ClassId) (k24 : ClassId) (k25 : ClassId) (k26 : ClassId) (k28 : ClassId) (k19 : ClassId) (k7 : ClassId) (k30 : ClassId) (k31 : ClassId) (sz : Nat) (sp0 : Value) (lw0 : Int64) (v1 : Nat → Int32) (f2 : Nat → Int32) (f3 : Nat → Int32) (v4 : Nat → Int32) (f5 : Nat → Int64) (f8 : Nat → Int32) (f9 : Nat → Int32) (f10 : Nat → Int32) (f6 : Nat → Int32) (v32 : Nat → Int32) (v23 : Nat → Int32) (f29 : Nat → Int32) (f27 : Nat → Int32) (f24 : Nat → Int32) (f25 : Nat → Int32) (f26 : Nat → Int32) (f28 : Nat → Int32) (v18 : Nat → Int32) (f19 : Nat → Int32) (f7 : Nat → Int32) (f30 : Nat → Int32) (f31 : Nat → Int32) (hv1 : zR rg_Tape v1) (hv4 : zR rg_Words400 v4) (hf6 : zA 0 399 f6) (hv23 : zR rg_Postings v23) (hf25 : zA 0 1250 f25) (hf28 : zA 0 832 f28) (hv18 : zR rg_Documents v18) (hf7 : zA (-1) 399 f7) : Met l yX11_nearest (zw yX11_nearest cX11_nearest 10 (some .int)) { frames := 8, cells := 0, slots := 0, locals := 170 } (zPc dC dI adK adV [.ref h0] sz [(h0, .inr (11, mX11 h1 h4 h11 h18 h23 h32 h33 h40 h48 h49 sp0 lw0)), (h1, .inr (9, mX9 h2 h3 v1)), (h2, zi k2 600 f2), (h3, zi k3 12 f3), (h4, .inr (10, mX10 h5 h6 h7 h8 h9 h10 v4)), (h5, .inl (k5, 400, .inr (.inl f5))), (h8, zi k8 12 f8), (h9, zi k9 12 f9), (h10, zi k10 13 f10), (h6, zi k6 400 f6), (h32, .inr (8, mX8 h23 v32)), (h23, .inr (6, mX6 h24 h25 h26 h27 h28 h29 h30 h31 v23)), (h29, zi k29 400 f29), (h27, zi k27 400 f27), (h24, zi k24 1250 f24), (h25, zi k25 833 f25), (h26, zi k26 833 f26), (h28, zi k28 400 f28), (h18, .inr (0, mX0 h19 h20 h21 h22 v18)), (h19, zi k19 120 f19), (h7, zi k7 400 f7), (h30, zi k30 400 f30), (h31, zi k31 400 f31)] [(k2, .byte), (k3, .byte), (k5, .long), (k8, .byte), (k9, .byte), (k10, .int), (k6, .int), (k29, .int), (k27, .int), (k24, .int), (k25, .int), (k26, .int), (k28, .int), (k19, .boolean), (k7, .int), (k30, .int), (k31, .int)]) (va_Qi (fun (r : Int32) (u : Nat → Int32) => ((-2147483648) ≤ r.toInt ∧ r.toInt ≤ 3) ∧ (0 ≤ (u 0).toInt ∧ (u 0).toInt ≤ 0) ∧ (0 ≤ (u 1).toInt ∧ (u 1).toInt ≤ 12) ∧ (zxAc f2 (v1 2).toInt f5 f6 f7 (v4 7).toInt r.toInt) ∧ (r.toInt = (u 10).toInt)) (fun (u : Nat → Int32) (t : State) => ∃ (ww : Nat → Int64) (aa : Nat → Nat → Int32) (bb : Nat → Nat → Int64), (zxAc2 f2 (v1 2).toInt f5 f6 f7 (v4 7).toInt f24 f25 f26 f27 f28 f29 (v23 8).toInt (v23 9).toInt (v23 10).toInt (v23 11).toInt f30 f31 (v18 4).toInt f19 lw0.toInt (ww 0).toInt (u 10).toInt) ∧ va_P (dC, dI) vwCl [(h0, .inr (11, mX11 h1 h4 h11 h18 h23 h32 h33 h40 h48 h49 sp0 (ww 0))), (h1, .inr (9, mX9 h2 h3 (upd (upd v1 2 (u 0)) 3 (u 1)))), (h2, zi k2 600 f2), (h3, zi k3 12 (aa 0)), (h4, .inr (10, mX10 h5 h6 h7 h8 h9 h10 v4)), (h5, .inl (k5, 400, .inr (.inl f5))), (h8, zi k8 12 (aa 1)), (h9, zi k9 12 (aa 2)), (h10, zi k10 13 (aa 3)), (h6, zi k6 400 f6), (h32, .inr (8, mX8 h23 (upd (upd (upd (upd (upd (upd (upd (upd v32 1 (u 2)) 2 (u 3)) 3 (u 4)) 4 (u 5)) 5 (u 6)) 6 (u 7)) 7 (u 8)) 8 (u 9)))), (h23, .inr (6, mX6 h24 h25 h26 h27 h28 h29 h30 h31 v23)), (h29, zi k29 400 f29), (h27, zi k27 400 f27), (h24, zi k24 1250 f24), (h25, zi k25 833 f25), (h26, zi k26 833 f26), (h28, zi k28 400 f28), (h18, .inr (0, mX0 h19 h20 h21 h22 v18)), (h19, zi k19 120 f19), (h7, zi k7 400 f7), (h30, zi k30 400 f30), (h31, zi k31 400 f31)] t.heap ∧ va_K (dC, dI) vwCl [(k2, .byte), (k3, .byte), (k5, .long), (k8, .byte), (k9, .byte), (k10, .int), (k6, .int), (k29, .int), (k27, .int), (k24, .int), (k25, .int), (k26, .int), (k28, .int), (k19, .boolean), (k7, .int), (k30, .int), (k31, .int)] t ∧ va_D (va_A [(h0, .inr (11, mX11 h1 h4 h11 h18 h23 h32 h33 h40 h48 h49 sp0 lw0)), (h1, .inr (9, mX9 h2 h3 v1)), (h2, zi k2 600 f2), (h3, zi k3 12 f3), (h4, .inr (10, mX10 h5 h6 h7 h8 h9 h10 v4)), (h5, .inl (k5, 400, .inr (.inl f5))), (h8, zi k8 12 f8), (h9, zi k9 12 f9), (h10, zi k10 13 f10), (h6, zi k6 400 f6), (h32, .inr (8, mX8 h23 v32)), (h23, .inr (6, mX6 h24 h25 h26 h27 h28 h29 h30 h31 v23)), (h29, zi k29 400 f29), (h27, zi k27 400 f27), (h24, zi k24 1250 f24), (h25, zi k25 833 f25), (h26, zi k26 833 f26), (h28, zi k28 400 f28), (h18, .inr (0, mX0 h19 h20 h21 h22 v18)), (h19, zi k19 120 f19), (h7, zi k7 400 f7), (h30, zi k30 400 f30), (h31, zi k31 400 f31)] sz) [(h0, .inr (11, mX11 h1 h4 h11 h18 h23 h32 h33 h40 h48 h49 sp0 (ww 0))), (h1, .inr (9, mX9 h2 h3 (upd (upd v1 2 (u 0)) 3 (u 1)))), (h2, zi k2 600 f2), (h3, zi k3 12 (aa 0)), (h4, .inr (10, mX10 h5 h6 h7 h8 h9 h10 v4)), (h5, .inl (k5, 400, .inr (.inl f5))), (h8, zi k8 12 (aa 1)), (h9, zi k9 12 (aa 2)), (h10, zi k10 13 (aa 3)), (h6, zi k6 400 f6), (h32, .inr (8, mX8 h23 (upd (upd (upd (upd (upd (upd (upd (upd v32 1 (u 2)) 2 (u 3)) 3 (u 4)) 4 (u 5)) 5 (u 6)) 6 (u 7)) 7 (u 8)) 8 (u 9)))), (h23, .inr (6, mX6 h24 h25 h26 h27 h28 h29 h30 h31 v23)), (h29, zi k29 400 f29), (h27, zi k27 400 f27), (h24, zi k24 1250 f24), (h25, zi k25 833 f25), (h26, zi k26 833 f26), (h28, zi k28 400 f28), (h18, .inr (0, mX0 h19 h20 h21 h22 v18)), (h19, zi k19 120 f19), (h7, zi k7 400 f7), (h30, zi k30 400 f30), (h31, zi k31 400 f31)]) (va_A [(h0, .inr (11, mX11 h1 h4 h11 h18 h23 h32 h33 h40 h48 h49 sp0 lw0)), (h1, .inr (9, mX9 h2 h3 v1)), (h2, zi k2 600 f2), (h3, zi k3 12 f3), (h4, .inr (10, mX10 h5 h6 h7 h8 h9 h10 v4)), (h5, .inl (k5, 400, .inr (.inl f5))), (h8, zi k8 12 f8), (h9, zi k9 12 f9), (h10, zi k10 13 f10), (h6, zi k6 400 f6), (h32, .inr (8, mX8 h23 v32)), (h23, .inr (6, mX6 h24 h25 h26 h27 h28 h29 h30 h31 v23)), (h29, zi k29 400 f29), (h27, zi k27 400 f27), (h24, zi k24 1250 f24), (h25, zi k25 833 f25), (h26, zi k26 833 f26), (h28, zi k28 400 f28), (h18, .inr (0, mX0 h19 h20 h21 h22 v18)), (h19, zi k19 120 f19), (h7, zi k7 400 f7), (h30, zi k30 400 f30), (h31, zi k31 400 f31)] sz)) 0 0 (va_A [(h0, .inr (11, mX11 h1 h4 h11 h18 h23 h32 h33 h40 h48 h49 sp0 lw0)), (h1, .inr (9, mX9 h2 h3 v1)), (h2, zi k2 600 f2), (h3, zi k3 12 f3), (h4, .inr (10, mX10 h5 h6 h7 h8 h9 h10 v4)), (h5, .inl (k5, 400, .inr (.inl f5))), (h8, zi k8 12 f8), (h9, zi k9 12 f9), (h10, zi k10 13 f10), (h6, zi k6 400 f6), (h32, .inr (8, mX8 h23 v32)), (h23, .inr (6, mX6 h24 h25 h26 h27 h28 h29 h30 h31 v23)), (h29, zi k29 400 f29), (h27, zi k27 400 f27), (h24, zi k24 1250 f24), (h25, zi k25 833 f25), (h26, zi k26 833 f26), (h28, zi k28 400 f28), (h18, .inr (0, mX0 h19 h20 h21 h22 v18)), (h19, zi k19 120 f19), (h7, zi k7 400 f7), (h30, zi k30 400 f30), (h31, zi k31 400 f31)] sz) := by
  sorry
set_option maxHeartbeats 8000000 in
set_option maxRecDepth 100000 in
theorem p12_sL_bit_0 (l : Launch) (hl0 : l.stackTraces = false) (dC : Nat → ClassId) (dI : Nat → Nat → Nat) (adK adV : Nat → Nat) (h0 : Nat) (h4 : Nat) (h5 : Nat) (h6 : Nat) (h7 : Nat) (h23 : Nat) (h29 : Nat) (h27 : Nat) (h25 : Nat) (h24 : Nat) (h26 : Nat) (h28 : Nat) (h30 : Nat) (h31 : Nat) (h18 : Nat) (h69 : Nat) (h1 : Nat) (h11 : Nat) (h32 : Nat) (h33 : Nat) (h40 : Nat) (h48 : Nat) (h49 : Nat) (h8 : Nat) (h9 : Nat) (h10 : Nat) (h19 : Nat) (h20 : Nat) (h21 : Nat) (h22 : Nat) (k5 : ClassId) (k6 : ClassId) (k7 : ClassId) (k29 : ClassId) (k27 : ClassId) (k25 : ClassId) (k24 : ClassId) (k26 : ClassId) (k28 : ClassId) (k30 : ClassId) (k31 : ClassId) (k69 : ClassId) (sz : Nat) (sp0 : Value) (lw0 : Int64) (v4 : Nat → Int32) (f5 : Nat → Int64) (f6 : Nat → Int32) (f7 : Nat → Int32) (v23 : Nat → Int32) (f29 : Nat → Int32) (f27 : Nat → Int32) (f25 : Nat → Int32) (f24 : Nat → Int32) (f26 : Nat → Int32) (f28 : Nat → Int32) (f30 : Nat → Int32) (f31 : Nat → Int32) (v18 : Nat → Int32) (f69 : Nat → Int64) (x1 : Int32) (hv4 : zR rg_Words400 v4) (hf6 : zA 0 399 f6) (hf7 : zA (-1) 399 f7) (hv23 : zR rg_Postings v23) (hf25 : zA 0 1250 f25) (hf28 : zA 0 832 f28) (hv18 : zR rg_Documents v18) : Met l yL_bit (.codeWith yL_bit cL_bit 4 (some .int) [(0, 9, 12, 13)] :: zG) { frames := 9, cells := 1, slots := 6, locals := 142 } (zPc dC dI adK adV [.ref h0, .int x1, .ref h69] sz [(h0, .inr (11, mX11 h1 h4 h11 h18 h23 h32 h33 h40 h48 h49 sp0 lw0)), (h4, .inr (10, mX10 h5 h6 h7 h8 h9 h10 v4)), (h5, .inl (k5, 400, .inr (.inl f5))), (h6, zi k6 400 f6), (h7, zi k7 400 f7), (h23, .inr (6, mX6 h24 h25 h26 h27 h28 h29 h30 h31 v23)), (h29, zi k29 400 f29), (h27, zi k27 400 f27), (h25, zi k25 833 f25), (h24, zi k24 1250 f24), (h26, zi k26 833 f26), (h28, zi k28 400 f28), (h30, zi k30 400 f30), (h31, zi k31 400 f31), (h18, .inr (0, mX0 h19 h20 h21 h22 v18)), (h69, .inl (k69, 1, .inr (.inl f69)))] [(k5, .long), (k6, .int), (k7, .int), (k29, .int), (k27, .int), (k25, .int), (k24, .int), (k26, .int), (k28, .int), (k30, .int), (k31, .int), (k69, .long)]) (va_Qi (fun (r : Int32) (u : Nat → Int32) => (0 ≤ r.toInt ∧ r.toInt ≤ 1) ∧ (r.toInt = (u 0).toInt)) (fun (u : Nat → Int32) (t : State) => ∃ (ww : Nat → Int64) (aa : Nat → Nat → Int32) (bb : Nat → Nat → Int64), (zBc f5 f6 f7 (v4 7).toInt f24 f25 f26 f27 f28 f29 (v23 8).toInt (v23 9).toInt (v23 10).toInt (v23 11).toInt f30 f31 (v18 4).toInt lw0.toInt x1.toInt (u 0).toInt ((bb 0) 0).toInt) ∧ va_P (dC, dI) vwCl [(h0, .inr (11, mX11 h1 h4 h11 h18 h23 h32 h33 h40 h48 h49 sp0 lw0)), (h4, .inr (10, mX10 h5 h6 h7 h8 h9 h10 v4)), (h5, .inl (k5, 400, .inr (.inl f5))), (h6, zi k6 400 f6), (h7, zi k7 400 f7), (h23, .inr (6, mX6 h24 h25 h26 h27 h28 h29 h30 h31 v23)), (h29, zi k29 400 f29), (h27, zi k27 400 f27), (h25, zi k25 833 f25), (h24, zi k24 1250 f24), (h26, zi k26 833 f26), (h28, zi k28 400 f28), (h30, zi k30 400 f30), (h31, zi k31 400 f31), (h18, .inr (0, mX0 h19 h20 h21 h22 v18)), (h69, .inl (k69, 1, .inr (.inl (bb 0))))] t.heap ∧ va_K (dC, dI) vwCl [(k5, .long), (k6, .int), (k7, .int), (k29, .int), (k27, .int), (k25, .int), (k24, .int), (k26, .int), (k28, .int), (k30, .int), (k31, .int), (k69, .long)] t ∧ va_D (va_A [(h0, .inr (11, mX11 h1 h4 h11 h18 h23 h32 h33 h40 h48 h49 sp0 lw0)), (h4, .inr (10, mX10 h5 h6 h7 h8 h9 h10 v4)), (h5, .inl (k5, 400, .inr (.inl f5))), (h6, zi k6 400 f6), (h7, zi k7 400 f7), (h23, .inr (6, mX6 h24 h25 h26 h27 h28 h29 h30 h31 v23)), (h29, zi k29 400 f29), (h27, zi k27 400 f27), (h25, zi k25 833 f25), (h24, zi k24 1250 f24), (h26, zi k26 833 f26), (h28, zi k28 400 f28), (h30, zi k30 400 f30), (h31, zi k31 400 f31), (h18, .inr (0, mX0 h19 h20 h21 h22 v18)), (h69, .inl (k69, 1, .inr (.inl f69)))] sz) [(h0, .inr (11, mX11 h1 h4 h11 h18 h23 h32 h33 h40 h48 h49 sp0 lw0)), (h4, .inr (10, mX10 h5 h6 h7 h8 h9 h10 v4)), (h5, .inl (k5, 400, .inr (.inl f5))), (h6, zi k6 400 f6), (h7, zi k7 400 f7), (h23, .inr (6, mX6 h24 h25 h26 h27 h28 h29 h30 h31 v23)), (h29, zi k29 400 f29), (h27, zi k27 400 f27), (h25, zi k25 833 f25), (h24, zi k24 1250 f24), (h26, zi k26 833 f26), (h28, zi k28 400 f28), (h30, zi k30 400 f30), (h31, zi k31 400 f31), (h18, .inr (0, mX0 h19 h20 h21 h22 v18)), (h69, .inl (k69, 1, .inr (.inl (bb 0))))]) (va_A [(h0, .inr (11, mX11 h1 h4 h11 h18 h23 h32 h33 h40 h48 h49 sp0 lw0)), (h4, .inr (10, mX10 h5 h6 h7 h8 h9 h10 v4)), (h5, .inl (k5, 400, .inr (.inl f5))), (h6, zi k6 400 f6), (h7, zi k7 400 f7), (h23, .inr (6, mX6 h24 h25 h26 h27 h28 h29 h30 h31 v23)), (h29, zi k29 400 f29), (h27, zi k27 400 f27), (h25, zi k25 833 f25), (h24, zi k24 1250 f24), (h26, zi k26 833 f26), (h28, zi k28 400 f28), (h30, zi k30 400 f30), (h31, zi k31 400 f31), (h18, .inr (0, mX0 h19 h20 h21 h22 v18)), (h69, .inl (k69, 1, .inr (.inl f69)))] sz)) 1 6 (va_A [(h0, .inr (11, mX11 h1 h4 h11 h18 h23 h32 h33 h40 h48 h49 sp0 lw0)), (h4, .inr (10, mX10 h5 h6 h7 h8 h9 h10 v4)), (h5, .inl (k5, 400, .inr (.inl f5))), (h6, zi k6 400 f6), (h7, zi k7 400 f7), (h23, .inr (6, mX6 h24 h25 h26 h27 h28 h29 h30 h31 v23)), (h29, zi k29 400 f29), (h27, zi k27 400 f27), (h25, zi k25 833 f25), (h24, zi k24 1250 f24), (h26, zi k26 833 f26), (h28, zi k28 400 f28), (h30, zi k30 400 f30), (h31, zi k31 400 f31), (h18, .inr (0, mX0 h19 h20 h21 h22 v18)), (h69, .inl (k69, 1, .inr (.inl f69)))] sz) := by
  refine zmet_of (vx_ofWH (cc := cL_bit) (maxL := 4) (ret := (some .int)) (hh := [(0, 9, 12, 13)]) (by decide) rfl ?_)
  intro p e s m args below meth c s₁ B hml hv
  obtain ⟨rfl, hsz, hP, hK, hD0, hE, hZ⟩ := hv
  have hx := B.exec
  have hb := B.bytes
  have hr := B.returns
  have hG : ∀ w ∈ zG, w.before _ s = true := fun w h => atoms_spec (ws := (.codeWith yL_bit cL_bit 4 (some .int) [(0, 9, 12, 13)] :: zG)) B.pre w (List.mem_cons_of_mem _ h)
  have hown : s.vm.findClass RL = some m.cls := findClass_of_methodNamed B.named
  have hlocks := B.notSynchronized
  have htab : c.exceptionTable.toList = tableOf [(0, 9, 12, 13)] := vx_table (x := yL_bit) B (atoms_spec (ws := (.codeWith yL_bit cL_bit 4 (some .int) [(0, 9, 12, 13)] :: zG)) B.pre _ List.mem_cons_self)
  subst hsz
  have hD := hD0.self (sz := s.heap.size)
  generalize hAe : va_A [(h0, .inr (11, mX11 h1 h4 h11 h18 h23 h32 h33 h40 h48 h49 sp0 lw0)), (h4, .inr (10, mX10 h5 h6 h7 h8 h9 h10 v4)), (h5, .inl (k5, 400, .inr (.inl f5))), (h6, zi k6 400 f6), (h7, zi k7 400 f7), (h23, .inr (6, mX6 h24 h25 h26 h27 h28 h29 h30 h31 v23)), (h29, zi k29 400 f29), (h27, zi k27 400 f27), (h25, zi k25 833 f25), (h24, zi k24 1250 f24), (h26, zi k26 833 f26), (h28, zi k28 400 f28), (h30, zi k30 400 f30), (h31, zi k31 400 f31), (h18, .inr (0, mX0 h19 h20 h21 h22 v18)), (h69, .inl (k69, 1, .inr (.inl f69)))] s.heap.size = A at hD hZ ⊢
  have hA : ∀ q : Nat, s.heap.size ≤ q → A q := fun q h => by rw [← hAe]; exact Or.inr h
  have hS : va_S A s.heap s.heap [] := va_S.rf
  have hl := lv_entry ([.ref h0, .int x1, .ref h69]) (n := 4) (Nat.le_of_ble_eq_true rfl)
  rw [lg_entry_eq]
  generalize (lg_sl ([.ref h0, .int x1, .ref h69]) ++ List.replicate (4 - (lg_sl ([.ref h0, .int x1, .ref h69])).length) Slot.unset).toArray = ls at hl ⊢
  have hl : lv_has ls 4 [(0, .ref h0), (1, .int x1), (2, .ref h69)] := hl
  have b_ := zk_0
  have b_ := zk_1
  refine lv_aload_n hx hb dL_bit_0 rfl (lv_at hl 2 rfl) ?_
  refine lv_iconst (v := 0) hx hb dL_bit_1 (by decide) ?_
  refine lv_aload_n hx hb dL_bit_2 rfl (lv_at hl 0 rfl) ?_
  refine lv_iload_n hx hb dL_bit_3 rfl (lv_at hl 1 rfl) ?_
  have hPc := hP.sub (ws' := [(h0, .inr (11, mX11 h1 h4 h11 h18 h23 h32 h33 h40 h48 h49 sp0 lw0)), (h4, .inr (10, mX10 h5 h6 h7 h8 h9 h10 v4)), (h5, .inl (k5, 400, .inr (.inl f5))), (h6, zi k6 400 f6), (h7, zi k7 400 f7), (h23, .inr (6, mX6 h24 h25 h26 h27 h28 h29 h30 h31 v23)), (h29, zi k29 400 f29), (h27, zi k27 400 f27), (h25, zi k25 833 f25), (h24, zi k24 1250 f24), (h26, zi k26 833 f26), (h28, zi k28 400 f28), (h30, zi k30 400 f30), (h31, zi k31 400 f31), (h18, .inr (0, mX0 h19 h20 h21 h22 v18))]) [0, 1, 2, 3, 4, 5, 6, 7, 8, 9, 10, 11, 12, 13, 14] rfl
  have hDc := hD.sub (ws' := [(h0, .inr (11, mX11 h1 h4 h11 h18 h23 h32 h33 h40 h48 h49 sp0 lw0)), (h4, .inr (10, mX10 h5 h6 h7 h8 h9 h10 v4)), (h5, .inl (k5, 400, .inr (.inl f5))), (h6, zi k6 400 f6), (h7, zi k7 400 f7), (h23, .inr (6, mX6 h24 h25 h26 h27 h28 h29 h30 h31 v23)), (h29, zi k29 400 f29), (h27, zi k27 400 f27), (h25, zi k25 833 f25), (h24, zi k24 1250 f24), (h26, zi k26 833 f26), (h28, zi k28 400 f28), (h30, zi k30 400 f30), (h31, zi k31 400 f31), (h18, .inr (0, mX0 h19 h20 h21 h22 v18))]) [0, 1, 2, 3, 4, 5, 6, 7, 8, 9, 10, 11, 12, 13, 14] (by decide) rfl
  have hKc := hK.sub (tys' := [(k5, .long), (k6, .int), (k7, .int), (k29, .int), (k27, .int), (k25, .int), (k24, .int), (k26, .int), (k28, .int), (k30, .int), (k31, .int)]) [0, 1, 2, 3, 4, 5, 6, 7, 8, 9, 10] rfl
  have hFc := va_free (wc := [(h0, .inr (11, mX11 h1 h4 h11 h18 h23 h32 h33 h40 h48 h49 sp0 lw0)), (h4, .inr (10, mX10 h5 h6 h7 h8 h9 h10 v4)), (h5, .inl (k5, 400, .inr (.inl f5))), (h6, zi k6 400 f6), (h7, zi k7 400 f7), (h23, .inr (6, mX6 h24 h25 h26 h27 h28 h29 h30 h31 v23)), (h29, zi k29 400 f29), (h27, zi k27 400 f27), (h25, zi k25 833 f25), (h24, zi k24 1250 f24), (h26, zi k26 833 f26), (h28, zi k28 400 f28), (h30, zi k30 400 f30), (h31, zi k31 400 f31), (h18, .inr (0, mX0 h19 h20 h21 h22 v18))]) hD hS hA [0, 1, 2, 3, 4, 5, 6, 7, 8, 9, 10, 11, 12, 13, 14] rfl
  refine vx_calli (vx_runV (As := [.int x1]) (rest := [.int 0, .ref h69]) ⟨hx, hb, hml, hown, hG⟩ (p12_sX11_bit_0 l hl0 dC dI adK adV h0 h4 h5 h6 h7 h23 h29 h27 h25 h24 h26 h28 h30 h31 h18 h1 h11 h32 h33 h40 h48 h49 h8 h9 h10 h19 h20 h21 h22 k5 k6 k7 k29 k27 k25 k24 k26 k28 k30 k31 s.heap.size sp0 lw0 v4 f5 f6 f7 v23 f29 f27 f25 f24 f26 f28 f30 f31 v18 x1 hv4 hf6 hf7 hv23 hf25 hf28 hv18) (cwV 1 hG (zgV zv1487 zv1488 zv1489 zv129 zv1490) rfl rfl rfl (by decide +kernel) ⟨Nat.le_of_ble_eq_true rfl, Nat.le_of_ble_eq_true rfl⟩) ⟨zPc_blind, va_recv hKc hPc (ci := 11) (q0 := 0) rfl rfl, zPc_pre hPc hKc hDc hE hS hFc hZ⟩ rfl rfl hl.1 rfl (lv_room (Nat.le_of_ble_eq_true rfl)) dL_bit_4 ⟨Nat.le_of_ble_eq_true rfl, Nat.le_of_ble_eq_true rfl⟩) hS (fun q _ h => hFc q h) hFc (fun q _ h => hFc q h) (fun E ce q9 x4_ t H1 locs ht hvm hpx hBX hz1 hk1 hS hce hcv hcl => ?_) (fun r4_ u4_ t H1 locs ht hvm hw hB hz1 hk1 hS => ?_)
  · skip
    replace hpx : (zBc f5 f6 f7 (v4 7).toInt f24 f25 f26 f27 f28 f29 (v23 8).toInt (v23 9).toInt (v23 10).toInt (v23 11).toInt f30 f31 (v18 4).toInt lw0.toInt x1.toInt 1 0) := hpx
    have hE4_0 := hpx
    obtain ⟨rfl, w4_, a4_, b4_, hP1, hK1, hD1⟩ := hBX
    rw [ht] at hP1
    obtain ⟨hP, hD⟩ := va_join (wr := [(h69, .inl (k69, 1, .inr (.inl f69)))]) (w1 := [(h0, .inr (11, mX11 h1 h4 h11 h18 h23 h32 h33 h40 h48 h49 sp0 lw0)), (h4, .inr (10, mX10 h5 h6 h7 h8 h9 h10 v4)), (h5, .inl (k5, 400, .inr (.inl f5))), (h6, zi k6 400 f6), (h7, zi k7 400 f7), (h23, .inr (6, mX6 h24 h25 h26 h27 h28 h29 h30 h31 v23)), (h29, zi k29 400 f29), (h27, zi k27 400 f27), (h25, zi k25 833 f25), (h24, zi k24 1250 f24), (h26, zi k26 833 f26), (h28, zi k28 400 f28), (h30, zi k30 400 f30), (h31, zi k31 400 f31), (h18, .inr (0, mX0 h19 h20 h21 h22 v18))]) hP hD [0, 1, 2, 3, 4, 5, 6, 7, 8, 9, 10, 11, 12, 13, 14] [15] rfl rfl (by decide) (by decide) hk1 hFc hP1 hD1
    have hP : va_P (dC, dI) vwCl [(h0, .inr (11, mX11 h1 h4 h11 h18 h23 h32 h33 h40 h48 h49 sp0 lw0)), (h4, .inr (10, mX10 h5 h6 h7 h8 h9 h10 v4)), (h5, .inl (k5, 400, .inr (.inl f5))), (h6, zi k6 400 f6), (h7, zi k7 400 f7), (h23, .inr (6, mX6 h24 h25 h26 h27 h28 h29 h30 h31 v23)), (h29, zi k29 400 f29), (h27, zi k27 400 f27), (h25, zi k25 833 f25), (h24, zi k24 1250 f24), (h26, zi k26 833 f26), (h28, zi k28 400 f28), (h30, zi k30 400 f30), (h31, zi k31 400 f31), (h18, .inr (0, mX0 h19 h20 h21 h22 v18)), (h69, .inl (k69, 1, .inr (.inl f69)))] H1 := hP.sub [1, 2, 3, 4, 5, 6, 7, 8, 9, 10, 11, 12, 13, 14, 15, 0] rfl
    have hD : va_D A [(h0, .inr (11, mX11 h1 h4 h11 h18 h23 h32 h33 h40 h48 h49 sp0 lw0)), (h4, .inr (10, mX10 h5 h6 h7 h8 h9 h10 v4)), (h5, .inl (k5, 400, .inr (.inl f5))), (h6, zi k6 400 f6), (h7, zi k7 400 f7), (h23, .inr (6, mX6 h24 h25 h26 h27 h28 h29 h30 h31 v23)), (h29, zi k29 400 f29), (h27, zi k27 400 f27), (h25, zi k25 833 f25), (h24, zi k24 1250 f24), (h26, zi k26 833 f26), (h28, zi k28 400 f28), (h30, zi k30 400 f30), (h31, zi k31 400 f31), (h18, .inr (0, mX0 h19 h20 h21 h22 v18)), (h69, .inl (k69, 1, .inr (.inl f69)))] := hD.sub [1, 2, 3, 4, 5, 6, 7, 8, 9, 10, 11, 12, 13, 14, 15, 0] (by decide) rfl
    clear hz1
    refine z_catch (x := _) (suf := []) hown htab (by decide) (by decide) (hG _ zv1405) (va_Nw.use rfl (zE_castI hE)) hce hcv hcl ?_
    refine W.eq (g2 := F0 m 12 ls [.ref q9]) rfl ?_
    generalize H1 = H at hP hS ⊢
    refine lv_astore_n (lv' := [(3, .ref q9), (0, .ref h0), (1, .int x1), (2, .ref h69)]) hx hb dL_bit_12 rfl hl (by decide) rfl (fun ls hl => ?_)
    refine lv_iconst (v := 1) hx hb dL_bit_13 (by decide) ?_
    refine W.widen (k := 1) (n := 6) (by decide) (by decide) ?_
    have hpost : (0 ≤ (1 : Int32).toInt ∧ (1 : Int32).toInt ≤ 1) ∧ ((1 : Int32).toInt = (1 : Int32).toInt) := ⟨(by first | with_reducible assumption | exact ⟨by omega, by omega⟩), rfl⟩
    have hP9 : va_P (dC, dI) vwCl [(h0, .inr (11, mX11 h1 h4 h11 h18 h23 h32 h33 h40 h48 h49 sp0 lw0)), (h4, .inr (10, mX10 h5 h6 h7 h8 h9 h10 v4)), (h5, .inl (k5, 400, .inr (.inl f5))), (h6, zi k6 400 f6), (h7, zi k7 400 f7), (h23, .inr (6, mX6 h24 h25 h26 h27 h28 h29 h30 h31 v23)), (h29, zi k29 400 f29), (h27, zi k27 400 f27), (h25, zi k25 833 f25), (h24, zi k24 1250 f24), (h26, zi k26 833 f26), (h28, zi k28 400 f28), (h30, zi k30 400 f30), (h31, zi k31 400 f31), (h18, .inr (0, mX0 h19 h20 h21 h22 v18)), (h69, .inl (k69, 1, .inr (.inl f69)))] H := hP
    have hD9 : va_D A [(h0, .inr (11, mX11 h1 h4 h11 h18 h23 h32 h33 h40 h48 h49 sp0 lw0)), (h4, .inr (10, mX10 h5 h6 h7 h8 h9 h10 v4)), (h5, .inl (k5, 400, .inr (.inl f5))), (h6, zi k6 400 f6), (h7, zi k7 400 f7), (h23, .inr (6, mX6 h24 h25 h26 h27 h28 h29 h30 h31 v23)), (h29, zi k29 400 f29), (h27, zi k27 400 f27), (h25, zi k25 833 f25), (h24, zi k24 1250 f24), (h26, zi k26 833 f26), (h28, zi k28 400 f28), (h30, zi k30 400 f30), (h31, zi k31 400 f31), (h18, .inr (0, mX0 h19 h20 h21 h22 v18)), (h69, .inl (k69, 1, .inr (.inl f69)))] := hD
    have hB0 : zBc f5 f6 f7 (v4 7).toInt f24 f25 f26 f27 f28 f29 (v23 8).toInt (v23 9).toInt (v23 10).toInt (v23 11).toInt f30 f31 (v18 4).toInt lw0.toInt x1.toInt (1 : Int32).toInt (f69 0).toInt := by first | exact zBc_L (by decide) e_f_8 e_y_7 hX4_0 | exact zBc_X (by decide) hE4_0
    exact vx_ret (W.iret (v := 1) hx hb hr (fun t ht hW => ⟨⟨1, (fun i => ([1] : List (Int32)).getD i 0), rfl, hpost, (fun _ => 0), (fun _ => (fun _ => 0)), (fun i => ([f69] : List (Nat → Int64)).getD i (fun _ => 0)), hB0, by rw [ht]; exact hP9, va_K.moved hW.alike hK, hD9⟩, hS.F ht⟩) hS.2.2 dL_bit_14)
  · skip
    replace hw : (0 ≤ r4_.toInt ∧ r4_.toInt ≤ 1) ∧ (zBc f5 f6 f7 (v4 7).toInt f24 f25 f26 f27 f28 f29 (v23 8).toInt (v23 9).toInt (v23 10).toInt (v23 11).toInt f30 f31 (v18 4).toInt lw0.toInt x1.toInt 0 r4_.toInt) := hw
    obtain ⟨b_, hX4_0⟩ := hw
    obtain ⟨w4_, a4_, b4_, hP1, hK1, hD1⟩ := hB
    rw [ht] at hP1
    obtain ⟨hP, hD⟩ := va_join (wr := [(h69, .inl (k69, 1, .inr (.inl f69)))]) (w1 := [(h0, .inr (11, mX11 h1 h4 h11 h18 h23 h32 h33 h40 h48 h49 sp0 lw0)), (h4, .inr (10, mX10 h5 h6 h7 h8 h9 h10 v4)), (h5, .inl (k5, 400, .inr (.inl f5))), (h6, zi k6 400 f6), (h7, zi k7 400 f7), (h23, .inr (6, mX6 h24 h25 h26 h27 h28 h29 h30 h31 v23)), (h29, zi k29 400 f29), (h27, zi k27 400 f27), (h25, zi k25 833 f25), (h24, zi k24 1250 f24), (h26, zi k26 833 f26), (h28, zi k28 400 f28), (h30, zi k30 400 f30), (h31, zi k31 400 f31), (h18, .inr (0, mX0 h19 h20 h21 h22 v18))]) hP hD [0, 1, 2, 3, 4, 5, 6, 7, 8, 9, 10, 11, 12, 13, 14] [15] rfl rfl (by decide) (by decide) hk1 hFc hP1 hD1
    have hP : va_P (dC, dI) vwCl [(h0, .inr (11, mX11 h1 h4 h11 h18 h23 h32 h33 h40 h48 h49 sp0 lw0)), (h4, .inr (10, mX10 h5 h6 h7 h8 h9 h10 v4)), (h5, .inl (k5, 400, .inr (.inl f5))), (h6, zi k6 400 f6), (h7, zi k7 400 f7), (h23, .inr (6, mX6 h24 h25 h26 h27 h28 h29 h30 h31 v23)), (h29, zi k29 400 f29), (h27, zi k27 400 f27), (h25, zi k25 833 f25), (h24, zi k24 1250 f24), (h26, zi k26 833 f26), (h28, zi k28 400 f28), (h30, zi k30 400 f30), (h31, zi k31 400 f31), (h18, .inr (0, mX0 h19 h20 h21 h22 v18)), (h69, .inl (k69, 1, .inr (.inl f69)))] H1 := hP.sub [1, 2, 3, 4, 5, 6, 7, 8, 9, 10, 11, 12, 13, 14, 15, 0] rfl
    have hD : va_D A [(h0, .inr (11, mX11 h1 h4 h11 h18 h23 h32 h33 h40 h48 h49 sp0 lw0)), (h4, .inr (10, mX10 h5 h6 h7 h8 h9 h10 v4)), (h5, .inl (k5, 400, .inr (.inl f5))), (h6, zi k6 400 f6), (h7, zi k7 400 f7), (h23, .inr (6, mX6 h24 h25 h26 h27 h28 h29 h30 h31 v23)), (h29, zi k29 400 f29), (h27, zi k27 400 f27), (h25, zi k25 833 f25), (h24, zi k24 1250 f24), (h26, zi k26 833 f26), (h28, zi k28 400 f28), (h30, zi k30 400 f30), (h31, zi k31 400 f31), (h18, .inr (0, mX0 h19 h20 h21 h22 v18)), (h69, .inl (k69, 1, .inr (.inl f69)))] := hD.sub [1, 2, 3, 4, 5, 6, 7, 8, 9, 10, 11, 12, 13, 14, 15, 0] (by decide) rfl
    generalize H1 = H at hP hS ⊢
    clear hz1
    refine lv_i2l hx hb dL_bit_7 rfl ?_
    refine lv_topl (fun y_7 e_y_7 => ?_)
    refine va_last hx hb hK hP hD hS 15 11 rfl rfl (zin_lit (by decide)) dL_bit_8 (fun H locs hP hD hS => ?_)
    obtain ⟨f_8, e_f_8⟩ : ∃ z : Nat → Int64, z = vp_updL f69 (0 : Int32).toNatClampNeg y_7 := ⟨_, rfl⟩
    have hP : va_P (dC, dI) vwCl [(h0, .inr (11, mX11 h1 h4 h11 h18 h23 h32 h33 h40 h48 h49 sp0 lw0)), (h4, .inr (10, mX10 h5 h6 h7 h8 h9 h10 v4)), (h5, .inl (k5, 400, .inr (.inl f5))), (h6, zi k6 400 f6), (h7, zi k7 400 f7), (h23, .inr (6, mX6 h24 h25 h26 h27 h28 h29 h30 h31 v23)), (h29, zi k29 400 f29), (h27, zi k27 400 f27), (h25, zi k25 833 f25), (h24, zi k24 1250 f24), (h26, zi k26 833 f26), (h28, zi k28 400 f28), (h30, zi k30 400 f30), (h31, zi k31 400 f31), (h18, .inr (0, mX0 h19 h20 h21 h22 v18)), (h69, .inl (k69, 1, .inr (.inl f_8)))] H := by rw [e_f_8]; exact hP
    have hD : va_D A [(h0, .inr (11, mX11 h1 h4 h11 h18 h23 h32 h33 h40 h48 h49 sp0 lw0)), (h4, .inr (10, mX10 h5 h6 h7 h8 h9 h10 v4)), (h5, .inl (k5, 400, .inr (.inl f5))), (h6, zi k6 400 f6), (h7, zi k7 400 f7), (h23, .inr (6, mX6 h24 h25 h26 h27 h28 h29 h30 h31 v23)), (h29, zi k29 400 f29), (h27, zi k27 400 f27), (h25, zi k25 833 f25), (h24, zi k24 1250 f24), (h26, zi k26 833 f26), (h28, zi k28 400 f28), (h30, zi k30 400 f30), (h31, zi k31 400 f31), (h18, .inr (0, mX0 h19 h20 h21 h22 v18)), (h69, .inl (k69, 1, .inr (.inl f_8)))] := by rw [e_f_8]; exact hD
    refine lv_goto (tgt := 15) hx hb dL_bit_9 (by decide) ?_
    refine lv_iconst (v := 0) hx hb dL_bit_15 (by decide) ?_
    refine W.widen (k := 1) (n := 6) (by decide) (by decide) ?_
    have hpost : (0 ≤ (0 : Int32).toInt ∧ (0 : Int32).toInt ≤ 1) ∧ ((0 : Int32).toInt = (0 : Int32).toInt) := ⟨(by first | with_reducible assumption | exact ⟨by omega, by omega⟩), rfl⟩
    have hP9 : va_P (dC, dI) vwCl [(h0, .inr (11, mX11 h1 h4 h11 h18 h23 h32 h33 h40 h48 h49 sp0 lw0)), (h4, .inr (10, mX10 h5 h6 h7 h8 h9 h10 v4)), (h5, .inl (k5, 400, .inr (.inl f5))), (h6, zi k6 400 f6), (h7, zi k7 400 f7), (h23, .inr (6, mX6 h24 h25 h26 h27 h28 h29 h30 h31 v23)), (h29, zi k29 400 f29), (h27, zi k27 400 f27), (h25, zi k25 833 f25), (h24, zi k24 1250 f24), (h26, zi k26 833 f26), (h28, zi k28 400 f28), (h30, zi k30 400 f30), (h31, zi k31 400 f31), (h18, .inr (0, mX0 h19 h20 h21 h22 v18)), (h69, .inl (k69, 1, .inr (.inl f_8)))] H := hP
    have hD9 : va_D A [(h0, .inr (11, mX11 h1 h4 h11 h18 h23 h32 h33 h40 h48 h49 sp0 lw0)), (h4, .inr (10, mX10 h5 h6 h7 h8 h9 h10 v4)), (h5, .inl (k5, 400, .inr (.inl f5))), (h6, zi k6 400 f6), (h7, zi k7 400 f7), (h23, .inr (6, mX6 h24 h25 h26 h27 h28 h29 h30 h31 v23)), (h29, zi k29 400 f29), (h27, zi k27 400 f27), (h25, zi k25 833 f25), (h24, zi k24 1250 f24), (h26, zi k26 833 f26), (h28, zi k28 400 f28), (h30, zi k30 400 f30), (h31, zi k31 400 f31), (h18, .inr (0, mX0 h19 h20 h21 h22 v18)), (h69, .inl (k69, 1, .inr (.inl f_8)))] := hD
    have hB0 : zBc f5 f6 f7 (v4 7).toInt f24 f25 f26 f27 f28 f29 (v23 8).toInt (v23 9).toInt (v23 10).toInt (v23 11).toInt f30 f31 (v18 4).toInt lw0.toInt x1.toInt (0 : Int32).toInt (f_8 0).toInt := by first | exact zBc_L (by decide) e_f_8 e_y_7 hX4_0 | exact zBc_X (by decide) hE4_0
    exact vx_ret (W.iret (v := 0) hx hb hr (fun t ht hW => ⟨⟨0, (fun i => ([0] : List (Int32)).getD i 0), rfl, hpost, (fun _ => 0), (fun _ => (fun _ => 0)), (fun i => ([f_8] : List (Nat → Int64)).getD i (fun _ => 0)), hB0, by rw [ht]; exact hP9, va_K.moved hW.alike hK, hD9⟩, hS.F ht⟩) hS.2.2 dL_bit_16)
set_option maxHeartbeats 8000000 in
set_option maxRecDepth 100000 in
theorem p12_sX13_lookedWord_0 (l : Launch) (dC : Nat → ClassId) (dI : Nat → Nat → Nat) (adK adV : Nat → Nat) (h0 : Nat) (q0 : Nat → Nat) (k14 : ClassId) (k15 : ClassId) (k3 : ClassId) (k2 : ClassId) (sz : Nat) (v0 : Nat → Int32) (f14 : Nat → Int32) (f15 : Nat → Int32) (f3 : Nat → Int32) (f2 : Nat → Int32) (hv0 : zR rg_Model v0) (hf3 : zA 0 12 f3) : Met l yX13_lookedWord (zw yX13_lookedWord cX13_lookedWord 2 (some .int)) { frames := 2, cells := 0, slots := 0, locals := 45 } (zPc dC dI adK adV [.ref h0] sz [(h0, .inr (13, mX13 q0 v0)), ((q0 17), zi k14 12 f14), ((q0 19), zi k15 12 f15), ((q0 3), zi k3 400 f3), ((q0 2), zi k2 4800 f2)] [(k14, .byte), (k15, .byte), (k3, .int), (k2, .byte)]) (va_Qi (fun (r : Int32) (u : Nat → Int32) => ((-1) ≤ r.toInt ∧ r.toInt ≤ 399) ∧ (0 ≤ (u 0).toInt ∧ (u 0).toInt ≤ 12) ∧ (r.toInt < (v0 4).toInt) ∧ (zLw f14 (v0 18).toInt f2 f3 (v0 4).toInt r.toInt)) (fun (u : Nat → Int32) (t : State) => ∃ (ww : Nat → Int64) (aa : Nat → Nat → Int32) (bb : Nat → Nat → Int64), va_P (dC, dI) vwCl [(h0, .inr (13, mX13 q0 (upd v0 20 (u 0)))), ((q0 17), zi k14 12 f14), ((q0 19), zi k15 12 (aa 0)), ((q0 3), zi k3 400 f3), ((q0 2), zi k2 4800 f2)] t.heap ∧ va_K (dC, dI) vwCl [(k14, .byte), (k15, .byte), (k3, .int), (k2, .byte)] t ∧ va_D (va_A [(h0, .inr (13, mX13 q0 v0)), ((q0 17), zi k14 12 f14), ((q0 19), zi k15 12 f15), ((q0 3), zi k3 400 f3), ((q0 2), zi k2 4800 f2)] sz) [(h0, .inr (13, mX13 q0 (upd v0 20 (u 0)))), ((q0 17), zi k14 12 f14), ((q0 19), zi k15 12 (aa 0)), ((q0 3), zi k3 400 f3), ((q0 2), zi k2 4800 f2)]) (va_A [(h0, .inr (13, mX13 q0 v0)), ((q0 17), zi k14 12 f14), ((q0 19), zi k15 12 f15), ((q0 3), zi k3 400 f3), ((q0 2), zi k2 4800 f2)] sz)) 0 0 (va_A [(h0, .inr (13, mX13 q0 v0)), ((q0 17), zi k14 12 f14), ((q0 19), zi k15 12 f15), ((q0 3), zi k3 400 f3), ((q0 2), zi k2 4800 f2)] sz) := by
  sorry
set_option maxHeartbeats 8000000 in
set_option maxRecDepth 100000 in
theorem p12_sX13_timesOf_0 (l : Launch) (dC : Nat → ClassId) (dI : Nat → Nat → Nat) (adK adV : Nat → Nat) (h0 : Nat) (q0 : Nat → Nat) (k10 : ClassId) (k4 : ClassId) (k11 : ClassId) (sz : Nat) (v0 : Nat → Int32) (f10 : Nat → Int32) (f4 : Nat → Int32) (f11 : Nat → Int32) (x1 : Int32) (x2 : Int32) (hv0 : zR rg_Model v0) (hf10 : zA 0 512 f10) (hf4 : zA 0 400 f4) (hf11 : zA 0 512 f11) (hx1 : 0 ≤ x1.toInt ∧ x1.toInt ≤ 119) (hx2 : 0 ≤ x2.toInt ∧ x2.toInt ≤ 399) : Met l yX13_timesOf (zw yX13_timesOf cX13_timesOf 5 (some .int)) { frames := 0, cells := 0, slots := 0, locals := 0 } (zPc dC dI adK adV [.ref h0, .int x1, .int x2] sz [(h0, .inr (13, mX13 q0 v0)), ((q0 11), zi k10 120 f10), ((q0 5), zi k4 122880 f4), ((q0 12), zi k11 120 f11)] [(k10, .int), (k4, .short), (k11, .int)]) (va_Qi (fun (r : Int32) (u : Nat → Int32) => (0 ≤ r.toInt ∧ r.toInt ≤ 1024) ∧ (r.toInt ≤ (zp f4 x1.toInt x2.toInt 1024).1) ∧ (zTf f4 f10 f11 (x1 : Int32) x2.toInt r.toInt)) (fun (u : Nat → Int32) (t : State) => ∃ (ww : Nat → Int64) (aa : Nat → Nat → Int32) (bb : Nat → Nat → Int64), va_P (dC, dI) vwCl [(h0, .inr (13, mX13 q0 v0)), ((q0 11), zi k10 120 f10), ((q0 5), zi k4 122880 f4), ((q0 12), zi k11 120 f11)] t.heap ∧ va_K (dC, dI) vwCl [(k10, .int), (k4, .short), (k11, .int)] t ∧ va_D (va_A [(h0, .inr (13, mX13 q0 v0)), ((q0 11), zi k10 120 f10), ((q0 5), zi k4 122880 f4), ((q0 12), zi k11 120 f11)] sz) [(h0, .inr (13, mX13 q0 v0)), ((q0 11), zi k10 120 f10), ((q0 5), zi k4 122880 f4), ((q0 12), zi k11 120 f11)]) (va_A [(h0, .inr (13, mX13 q0 v0)), ((q0 11), zi k10 120 f10), ((q0 5), zi k4 122880 f4), ((q0 12), zi k11 120 f11)] sz)) 0 0 (va_A [(h0, .inr (13, mX13 q0 v0)), ((q0 11), zi k10 120 f10), ((q0 5), zi k4 122880 f4), ((q0 12), zi k11 120 f11)] sz) := by
  sorry
set_option maxHeartbeats 8000000 in
set_option maxRecDepth 100000 in
theorem p12_sX13_put_0 (l : Launch) (dC : Nat → ClassId) (dI : Nat → Nat → Nat) (adK adV : Nat → Nat) (h0 : Nat) (q0 : Nat → Nat) (k16 : ClassId) (sz : Nat) (v0 : Nat → Int32) (f16 : Nat → Int32) (x1 : Int32) (hv0 : zR rg_Model v0) (hx1 : 1 ≤ x1.toInt ∧ x1.toInt ≤ 1200) (hp0_ : (v0 24).toInt = 1 → (v0 23).toInt + zgam x1.toInt ≤ 40000) (hp1_ : 0 ≤ (v0 23).toInt ∧ (v0 23).toInt ≤ 2600000) : Met l yX13_put (zw yX13_put cX13_put 4 none) { frames := 1, cells := 0, slots := 0, locals := 22 } (zPc dC dI adK adV [.ref h0, .int x1] sz [(h0, .inr (13, mX13 q0 v0)), ((q0 22), zi k16 40000 f16)] [(k16, .byte)]) (va_Qv (fun (u : Nat → Int32) => (1 ≤ (u 0).toInt ∧ (u 0).toInt ≤ 2600021) ∧ ((u 0).toInt = (v0 23).toInt + zgam x1.toInt)) (fun (u : Nat → Int32) (t : State) => ∃ (ww : Nat → Int64) (aa : Nat → Nat → Int32) (bb : Nat → Nat → Int64), (zPw f16 (aa 0) (v0 23).toInt x1.toInt (v0 24).toInt) ∧ va_P (dC, dI) vwCl [(h0, .inr (13, mX13 q0 (upd v0 23 (u 0)))), ((q0 22), zi k16 40000 (aa 0))] t.heap ∧ va_K (dC, dI) vwCl [(k16, .byte)] t ∧ va_D (va_A [(h0, .inr (13, mX13 q0 v0)), ((q0 22), zi k16 40000 f16)] sz) [(h0, .inr (13, mX13 q0 (upd v0 23 (u 0)))), ((q0 22), zi k16 40000 (aa 0))]) (va_A [(h0, .inr (13, mX13 q0 v0)), ((q0 22), zi k16 40000 f16)] sz)) 0 0 (va_A [(h0, .inr (13, mX13 q0 v0)), ((q0 22), zi k16 40000 f16)] sz) := by
  refine Met.ofW (cc := cX13_put) (maxL := 4) (ret := none) (by decide) rfl ?_
  intro p e s m args below meth c s₁ B hml hv
  obtain ⟨rfl, hsz, hP, hK, hD0, hE, hZ⟩ := hv
  have hx := B.exec
  have hb := B.bytes
  have hr := B.returns
  have hG : ∀ w ∈ zG, w.before _ s = true := fun w h => atoms_spec (ws := (zw yX13_put cX13_put 4 none)) B.pre w (List.mem_cons_of_mem _ h)
  have hown : s.vm.findClass RX13 = some m.cls := findClass_of_methodNamed B.named
  have hlocks := B.notSynchronized

  subst hsz
  have hD := hD0.self (sz := s.heap.size)
  generalize hAe : va_A [(h0, .inr (13, mX13 q0 v0)), ((q0 22), zi k16 40000 f16)] s.heap.size = A at hD hZ ⊢
  have hA : ∀ q : Nat, s.heap.size ≤ q → A q := fun q h => by rw [← hAe]; exact Or.inr h
  have hS : va_S A s.heap s.heap [] := va_S.rf
  have hl := lv_entry ([.ref h0, .int x1]) (n := 4) (Nat.le_of_ble_eq_true rfl)
  rw [lg_entry_eq]
  generalize (lg_sl ([.ref h0, .int x1]) ++ List.replicate (4 - (lg_sl ([.ref h0, .int x1])).length) Slot.unset).toArray = ls at hl ⊢
  have hl : lv_has ls 4 [(0, .ref h0), (1, .int x1)] := hl
  have b_ := zk_0
  have b_ : 0 ≤ (v0 24).toInt ∧ (v0 24).toInt ≤ 1 := hv0 24
  have b_ : -2147483648 ≤ (v0 23).toInt ∧ (v0 23).toInt ≤ 2147483647 := ⟨zlo _, zhi _⟩
  refine lv_iload_n hx hb dX13_put_0 rfl (lv_at hl 1 rfl) ?_
  have hPc := hP.sub (ws' := []) [] rfl
  have hDc := hD.sub (ws' := []) [] (by decide) rfl
  have hKc := hK.sub (tys' := []) [] rfl
  have hFc := va_free (wc := []) hD hS hA [] rfl
  refine va_calli (va_runS (As := [.int x1]) (rest := []) ⟨hx, hb, hml, hown, hG⟩ (sX13_digits_0 l dC dI adK adV s.heap.size x1) (va_cwS 1 hG (zgS zv1905 zv1906 zv142 zv1907) rfl rfl rfl (by decide +kernel) ⟨Nat.le_of_ble_eq_true rfl, Nat.le_of_ble_eq_true rfl⟩) ⟨zPc_blind, zPc_pre hPc hKc hDc hE hS hFc hZ⟩ rfl rfl hl.1 rfl (lv_room (Nat.le_of_ble_eq_true rfl)) dX13_put_1 ⟨Nat.le_of_ble_eq_true rfl, Nat.le_of_ble_eq_true rfl⟩) hS (fun q _ h => hFc q h) hFc (fun r1_ u1_ t H1 locs ht hvm hw hB hz1 hk1 hS => ?_)
  replace hw : (0 ≤ r1_.toInt ∧ r1_.toInt ≤ 31) ∧ (r1_.toInt = zdig x1.toInt) := hw
  obtain ⟨b_, hX1_0⟩ := hw
  obtain ⟨w1_, a1_, b1_, hP1, hK1, hD1⟩ := hB
  rw [ht] at hP1
  obtain ⟨hP, hD⟩ := va_join (wr := [(h0, .inr (13, mX13 q0 v0)), ((q0 22), zi k16 40000 f16)]) (w1 := []) hP hD [] [0, 1] rfl rfl (by decide) (by decide) hk1 hFc hP1 hD1
  have hP : va_P (dC, dI) vwCl [(h0, .inr (13, mX13 q0 v0)), ((q0 22), zi k16 40000 f16)] H1 := hP.sub [0, 1] rfl
  have hD : va_D A [(h0, .inr (13, mX13 q0 v0)), ((q0 22), zi k16 40000 f16)] := hD.sub [0, 1] (by decide) rfl
  generalize H1 = H at hP hS ⊢
  clear hz1
  have b_ : zgam x1.toInt = 2 * zdig x1.toInt - 1 := rfl
  have b_ := zdig_1 (x := x1.toInt) (by omega)
  have b_ := zdig_lt (x := x1.toInt) (k := 11) (by omega) (by omega)
  refine lv_istore_n (lv' := [(2, .int r1_), (0, .ref h0), (1, .int x1)]) hx hb dX13_put_4 rfl hl (by decide) rfl (fun ls hl => ?_)
  refine lv_aload_n hx hb dX13_put_5 rfl (lv_at hl 1 rfl) ?_
  refine va_get (D := (dC, dI)) (ci := 13) (v := .int (v0 24)) (C := RX13) (T := TX13) (N := 75) hx hb hG zuX13 hown hK hP 0 rfl rfl 24 (by decide) (hG _ zv1628) (fun _ h9 => h9) rfl dX13_put_6 ?_
  refine lv_if_eq (tgt := 77) hx hb dX13_put_9 (by decide) (fun c_ => ?_) (fun c_ => ?_)
  · skip
    have b_ := zT_eq rfl zk_0 c_
    refine lv_aload_n hx hb dX13_put_77 rfl (lv_at hl 1 rfl) ?_
    refine lv_dup hx hb dX13_put_78 rfl ?_
    refine va_get (D := (dC, dI)) (ci := 13) (v := .int (v0 23)) (C := RX13) (T := TX13) (N := 75) hx hb hG zuX13 hown hK hP 0 rfl rfl 23 (by decide) (hG _ zv1627) (fun _ h9 => h9) rfl dX13_put_79 ?_
    refine lv_iconst (v := 2) hx hb dX13_put_82 (by decide) ?_
    refine lv_iload_n hx hb dX13_put_83 rfl (lv_at hl 0 rfl) ?_
    refine lv_imul hx hb dX13_put_84 ?_
    refine lv_topi (fun z84 e_z84 => ?_)
    have b_ := zmul zk_2 rfl e_z84 (by omega) (by omega)
    refine lv_iconst (v := 1) hx hb dX13_put_85 (by decide) ?_
    refine lv_isub hx hb dX13_put_86 ?_
    refine lv_topi (fun z86 e_z86 => ?_)
    have b_ := zsub rfl zk_1 e_z86 (by omega) (by omega)
    refine lv_iadd hx hb dX13_put_87 ?_
    refine lv_topi (fun z87 e_z87 => ?_)
    have b_ := zadd rfl rfl e_z87 (by omega) (by omega)
    refine va_put (D := (dC, dI)) (ci := 13) (v := .int z87) (ty := .int) (C := RX13) (T := TX13) (N := 75) hx hb hG zuX13 tyX13 tyX13_ok nmX13 hown hK hP hD hS 0 rfl rfl 23 (by decide) (hG _ zv1627) (fun _ h9 => h9) rfl (by decide +kernel) rfl rfl (Nat.le_of_ble_eq_true rfl) dX13_put_88 (fun H locs hP hD hS => ?_)
    have hP : va_P (dC, dI) vwCl [(h0, .inr (13, mX13 q0 (upd v0 23 z87))), ((q0 22), zi k16 40000 f16)] H := hP
    have hD : va_D A [(h0, .inr (13, mX13 q0 (upd v0 23 z87))), ((q0 22), zi k16 40000 f16)] := hD
    refine W.widen (k := 0) (n := 0) (by decide) (by decide) ?_
    have hpost : (1 ≤ z87.toInt ∧ z87.toInt ≤ 2600021) ∧ (z87.toInt = (v0 23).toInt + zgam x1.toInt) := ⟨(by first | with_reducible assumption | exact ⟨by omega, by omega⟩), by omega⟩
    have hP9 : va_P (dC, dI) vwCl [(h0, .inr (13, mX13 q0 (upd v0 23 z87))), ((q0 22), zi k16 40000 f16)] H := hP
    have hD9 : va_D A [(h0, .inr (13, mX13 q0 (upd v0 23 z87))), ((q0 22), zi k16 40000 f16)] := hD
    have hB0 : zPw f16 f16 (v0 23).toInt x1.toInt (v0 24).toInt := by first | exact zPw_1 hI41_0 (by omega) hX1_0 (by omega) | exact zPw_0 (by omega)
    exact W.vret hx hb hr (fun t ht hW => ⟨⟨(fun i => ([z87] : List (Int32)).getD i 0), rfl, hpost, (fun _ => 0), (fun i => ([f16] : List (Nat → Int32)).getD i (fun _ => 0)), (fun _ => (fun _ => 0)), hB0, by rw [ht]; exact hP9, va_K.moved hW.alike hK, hD9⟩, hS.F ht⟩) hS.2.2 dX13_put_91
  · skip
    have b_ := zF_eq rfl zk_0 c_
    have b_ := hp0_ (by omega)
    refine lv_iconst (v := 0) hx hb dX13_put_12 (by decide) ?_
    refine lv_istore_n (lv' := [(3, .int 0), (2, .int r1_), (0, .ref h0), (1, .int x1)]) hx hb dX13_put_13 rfl hl (by decide) rfl (fun ls hl => ?_)
    refine zcutL (fun u14_ => (10 - (u14_ 0).toInt).toNat) (fun H locs ls u14_ w14_ a14_ b14_ => va_P (dC, dI) vwCl [(h0, .inr (13, mX13 q0 v0)), ((q0 22), zi k16 40000 (a14_ 0))] H ∧ va_D A [(h0, .inr (13, mX13 q0 v0)), ((q0 22), zi k16 40000 (a14_ 0))] ∧ va_S A s.heap H locs ∧ lv_has ls 4 [(0, .ref h0), (1, .int x1), (2, .int r1_), (3, .int (u14_ 0))] ∧ (0 ≤ (u14_ 0).toInt ∧ (u14_ 0).toInt ≤ 10) ∧ (zPz f16 (a14_ 0) (v0 23).toInt (u14_ 0).toInt) ∧ ((u14_ 0).toInt ≤ r1_.toInt - 1) ∧ (0 ≤ (u14_ 0).toInt)) (fun ls u14_ w14_ => F0 m 14 ls []) 0 0 ?_ (fun hJ14 => ?_)
    · skip
      intro H locs ls u14_ w14_ a14_ b14_ hc hJ14
      obtain ⟨hP, hD, hS, hl, b_, hI14_0, b_, b_⟩ := hc
      refine lv_iload_n hx hb dX13_put_14 rfl (lv_at hl 3 rfl) ?_
      refine lv_iload_n hx hb dX13_put_15 rfl (lv_at hl 2 rfl) ?_
      refine lv_iconst (v := 1) hx hb dX13_put_16 (by decide) ?_
      refine lv_isub hx hb dX13_put_17 ?_
      refine lv_topi (fun z17 e_z17 => ?_)
      have b_ := zsub rfl zk_1 e_z17 (by omega) (by omega)
      refine lv_icmp_ge (tgt := 39) hx hb dX13_put_18 (by decide) (fun c_ => ?_) (fun c_ => ?_)
      · skip
        have b_ := zT_ge rfl rfl c_
        refine lv_iconst (v := 0) hx hb dX13_put_39 (by decide) ?_
        refine lv_istore_n (lv' := [(3, .int 0), (0, .ref h0), (1, .int x1), (2, .int r1_)]) hx hb dX13_put_40 rfl hl (by decide) rfl (fun ls hl => ?_)
        refine zcutL (fun u41_ => (11 - (u41_ 0).toInt).toNat) (fun H locs ls u41_ w41_ a41_ b41_ => va_P (dC, dI) vwCl [(h0, .inr (13, mX13 q0 v0)), ((q0 22), zi k16 40000 (a41_ 0))] H ∧ va_D A [(h0, .inr (13, mX13 q0 v0)), ((q0 22), zi k16 40000 (a41_ 0))] ∧ va_S A s.heap H locs ∧ lv_has ls 4 [(0, .ref h0), (1, .int x1), (2, .int r1_), (3, .int (u41_ 0))] ∧ (0 ≤ (u41_ 0).toInt ∧ (u41_ 0).toInt ≤ 11) ∧ (zPy f16 (a41_ 0) (v0 23).toInt x1.toInt r1_.toInt (u41_ 0).toInt) ∧ ((u41_ 0).toInt ≤ r1_.toInt) ∧ (0 ≤ (u41_ 0).toInt)) (fun ls u41_ w41_ => F0 m 41 ls []) 0 0 ?_ (fun hJ41 => ?_)
        · skip
          intro H locs ls u41_ w41_ a41_ b41_ hc hJ41
          obtain ⟨hP, hD, hS, hl, b_, hI41_0, b_, b_⟩ := hc
          refine lv_iload_n hx hb dX13_put_41 rfl (lv_at hl 3 rfl) ?_
          refine lv_iload_n hx hb dX13_put_42 rfl (lv_at hl 2 rfl) ?_
          refine lv_icmp_ge (tgt := 77) hx hb dX13_put_43 (by decide) (fun c_ => ?_) (fun c_ => ?_)
          · skip
            have b_ := zT_ge rfl rfl c_
            refine lv_aload_n hx hb dX13_put_77 rfl (lv_at hl 0 rfl) ?_
            refine lv_dup hx hb dX13_put_78 rfl ?_
            refine va_get (D := (dC, dI)) (ci := 13) (v := .int (v0 23)) (C := RX13) (T := TX13) (N := 75) hx hb hG zuX13 hown hK hP 0 rfl rfl 23 (by decide) (hG _ zv1627) (fun _ h9 => h9) rfl dX13_put_79 ?_
            refine lv_iconst (v := 2) hx hb dX13_put_82 (by decide) ?_
            refine lv_iload_n hx hb dX13_put_83 rfl (lv_at hl 2 rfl) ?_
            refine lv_imul hx hb dX13_put_84 ?_
            refine lv_topi (fun z84 e_z84 => ?_)
            have b_ := zmul zk_2 rfl e_z84 (by omega) (by omega)
            refine lv_iconst (v := 1) hx hb dX13_put_85 (by decide) ?_
            refine lv_isub hx hb dX13_put_86 ?_
            refine lv_topi (fun z86 e_z86 => ?_)
            have b_ := zsub rfl zk_1 e_z86 (by omega) (by omega)
            refine lv_iadd hx hb dX13_put_87 ?_
            refine lv_topi (fun z87 e_z87 => ?_)
            have b_ := zadd rfl rfl e_z87 (by omega) (by omega)
            refine va_put (D := (dC, dI)) (ci := 13) (v := .int z87) (ty := .int) (C := RX13) (T := TX13) (N := 75) hx hb hG zuX13 tyX13 tyX13_ok nmX13 hown hK hP hD hS 0 rfl rfl 23 (by decide) (hG _ zv1627) (fun _ h9 => h9) rfl (by decide +kernel) rfl rfl (Nat.le_of_ble_eq_true rfl) dX13_put_88 (fun H locs hP hD hS => ?_)
            have hP : va_P (dC, dI) vwCl [(h0, .inr (13, mX13 q0 (upd v0 23 z87))), ((q0 22), zi k16 40000 (a41_ 0))] H := hP
            have hD : va_D A [(h0, .inr (13, mX13 q0 (upd v0 23 z87))), ((q0 22), zi k16 40000 (a41_ 0))] := hD
            refine W.widen (k := 0) (n := 0) (by decide) (by decide) ?_
            have hpost : (1 ≤ z87.toInt ∧ z87.toInt ≤ 2600021) ∧ (z87.toInt = (v0 23).toInt + zgam x1.toInt) := ⟨(by first | with_reducible assumption | exact ⟨by omega, by omega⟩), by omega⟩
            have hP9 : va_P (dC, dI) vwCl [(h0, .inr (13, mX13 q0 (upd v0 23 z87))), ((q0 22), zi k16 40000 (a41_ 0))] H := hP
            have hD9 : va_D A [(h0, .inr (13, mX13 q0 (upd v0 23 z87))), ((q0 22), zi k16 40000 (a41_ 0))] := hD
            have hB0 : zPw f16 (a41_ 0) (v0 23).toInt x1.toInt (v0 24).toInt := by first | exact zPw_1 hI41_0 (by omega) hX1_0 (by omega) | exact zPw_0 (by omega)
            exact W.vret hx hb hr (fun t ht hW => ⟨⟨(fun i => ([z87] : List (Int32)).getD i 0), rfl, hpost, (fun _ => 0), (fun i => ([(a41_ 0)] : List (Nat → Int32)).getD i (fun _ => 0)), (fun _ => (fun _ => 0)), hB0, by rw [ht]; exact hP9, va_K.moved hW.alike hK, hD9⟩, hS.F ht⟩) hS.2.2 dX13_put_91
          · skip
            have b_ := zF_ge rfl rfl c_
            refine lv_aload_n hx hb dX13_put_46 rfl (lv_at hl 0 rfl) ?_
            refine va_get (D := (dC, dI)) (ci := 13) (v := .ref (q0 22)) (C := RX13) (T := TX13) (N := 75) hx hb hG zuX13 hown hK hP 0 rfl rfl 22 (by decide) (hG _ zv1626) (fun _ h9 => h9) rfl dX13_put_47 ?_
            refine lv_aload_n hx hb dX13_put_50 rfl (lv_at hl 0 rfl) ?_
            refine va_get (D := (dC, dI)) (ci := 13) (v := .int (v0 23)) (C := RX13) (T := TX13) (N := 75) hx hb hG zuX13 hown hK hP 0 rfl rfl 23 (by decide) (hG _ zv1627) (fun _ h9 => h9) rfl dX13_put_51 ?_
            refine lv_iload_n hx hb dX13_put_54 rfl (lv_at hl 2 rfl) ?_
            refine lv_iadd hx hb dX13_put_55 ?_
            refine lv_topi (fun z55 e_z55 => ?_)
            have b_ := zadd rfl rfl e_z55 (by omega) (by omega)
            refine lv_iconst (v := 1) hx hb dX13_put_56 (by decide) ?_
            refine lv_isub hx hb dX13_put_57 ?_
            refine lv_topi (fun z57 e_z57 => ?_)
            have b_ := zsub rfl zk_1 e_z57 (by omega) (by omega)
            refine lv_iload_n hx hb dX13_put_58 rfl (lv_at hl 3 rfl) ?_
            refine lv_iadd hx hb dX13_put_59 ?_
            refine lv_topi (fun z59 e_z59 => ?_)
            have b_ := zadd rfl rfl e_z59 (by omega) (by omega)
            refine lv_iload_n hx hb dX13_put_60 rfl (lv_at hl 1 rfl) ?_
            refine lv_iload_n hx hb dX13_put_61 rfl (lv_at hl 2 rfl) ?_
            refine lv_iconst (v := 1) hx hb dX13_put_62 (by decide) ?_
            refine lv_isub hx hb dX13_put_63 ?_
            refine lv_topi (fun z63 e_z63 => ?_)
            have b_ := zsub rfl zk_1 e_z63 (by omega) (by omega)
            refine lv_iload_n hx hb dX13_put_64 rfl (lv_at hl 3 rfl) ?_
            refine lv_isub hx hb dX13_put_65 ?_
            refine lv_topi (fun z65 e_z65 => ?_)
            have b_ := zsub rfl rfl e_z65 (by omega) (by omega)
            refine lv_ishr hx hb dX13_put_66 ?_
            refine lv_topi (fun z66 e_z66 => ?_)
            refine lv_iconst (v := 1) hx hb dX13_put_67 (by decide) ?_
            have b_ : -2147483648 ≤ z66.toInt ∧ z66.toInt ≤ 2147483647 := ⟨zlo _, zhi _⟩
            refine lv_iand hx hb dX13_put_68 ?_
            refine lv_topi (fun z68 e_z68 => ?_)
            have b_ := zand (x := z66) zk_1 e_z68 (by decide)
            refine lv_i2b hx hb dX13_put_69 rfl ?_
            refine lv_topi (fun z69 e_z69 => ?_)
            have b_ := zi2b rfl e_z69 (by omega) (by omega)
            refine va_bast hx hb hK hP hD hS 1 0 rfl rfl (zin_lit ⟨by omega, by omega⟩) dX13_put_70 (fun H locs hP hD hS => ?_)
            obtain ⟨f_70, e_f_70⟩ : ∃ z : Nat → Int32, z = upd (a41_ 0) (z59 : Int32).toNatClampNeg (vp_nar .byte z69) := ⟨_, rfl⟩
            have hP : va_P (dC, dI) vwCl [(h0, .inr (13, mX13 q0 v0)), ((q0 22), zi k16 40000 f_70)] H := by rw [e_f_70]; exact hP
            have hD : va_D A [(h0, .inr (13, mX13 q0 v0)), ((q0 22), zi k16 40000 f_70)] := by rw [e_f_70]; exact hD
            obtain ⟨z71, e_z71⟩ : ∃ z : Int32, z = (u41_ 0) + Int32.ofInt 1 := ⟨_, rfl⟩
            have b_ := zadd (x := (u41_ 0)) (y := Int32.ofInt 1) rfl (show (Int32.ofInt 1).toInt = 1 from by decide) e_z71 (by omega) (by omega)
            refine lv_iinc (v := z71) (lv' := [(3, .int z71), (0, .ref h0), (1, .int x1), (2, .int r1_)]) hx hb dX13_put_71 hl (k := 3) rfl e_z71.symm (by decide) rfl (fun ls hl => ?_)
            refine lv_goto (tgt := 41) hx hb dX13_put_74 (by decide) ?_
            have hc : va_P (dC, dI) vwCl [(h0, .inr (13, mX13 q0 v0)), ((q0 22), zi k16 40000 f_70)] H ∧ va_D A [(h0, .inr (13, mX13 q0 v0)), ((q0 22), zi k16 40000 f_70)] ∧ va_S A s.heap H locs ∧ lv_has ls 4 [(0, .ref h0), (1, .int x1), (2, .int r1_), (3, .int z71)] ∧ (0 ≤ z71.toInt ∧ z71.toInt ≤ 11) ∧ (zPy f16 f_70 (v0 23).toInt x1.toInt r1_.toInt z71.toInt) ∧ (z71.toInt ≤ r1_.toInt) ∧ (0 ≤ z71.toInt) := ⟨hP, hD, hS, lv_sub hl [1, 2, 3, 0] rfl, (by first | with_reducible assumption | exact ⟨by omega, by omega⟩), by first | exact zPy_s hI41_0 (by omega) (by omega) (by omega) (by omega) e_z66 e_z68 (by omega) (by omega) (by omega) e_f_70 (by omega) | exact zPy_0 hI14_0 (by omega) (by omega) (by omega) (by decide), by omega, by omega⟩
            exact hJ41 H locs ls (fun i => ([z71] : List (Int32)).getD i 0) (fun _ => 0) (fun i => ([f_70] : List (Nat → Int32)).getD i (fun _ => 0)) (fun _ => (fun _ => 0)) hc (show (11 - z71.toInt).toNat < (11 - (u41_ 0).toInt).toNat from by omega)
        · skip
          have hc : va_P (dC, dI) vwCl [(h0, .inr (13, mX13 q0 v0)), ((q0 22), zi k16 40000 (a14_ 0))] H ∧ va_D A [(h0, .inr (13, mX13 q0 v0)), ((q0 22), zi k16 40000 (a14_ 0))] ∧ va_S A s.heap H locs ∧ lv_has ls 4 [(0, .ref h0), (1, .int x1), (2, .int r1_), (3, .int 0)] ∧ (0 ≤ (0 : Int32).toInt ∧ (0 : Int32).toInt ≤ 11) ∧ (zPy f16 (a14_ 0) (v0 23).toInt x1.toInt r1_.toInt (0 : Int32).toInt) ∧ ((0 : Int32).toInt ≤ r1_.toInt) ∧ (0 ≤ (0 : Int32).toInt) := ⟨hP, hD, hS, lv_sub hl [1, 2, 3, 0] rfl, (by first | with_reducible assumption | exact ⟨by omega, by omega⟩), by first | exact zPy_s hI41_0 (by omega) (by omega) (by omega) (by omega) e_z66 e_z68 (by omega) (by omega) (by omega) e_f_70 (by omega) | exact zPy_0 hI14_0 (by omega) (by omega) (by omega) (by decide), by omega, by omega⟩
          exact hJ41 H locs ls (fun i => ([0] : List (Int32)).getD i 0) (fun _ => 0) (fun i => ([(a14_ 0)] : List (Nat → Int32)).getD i (fun _ => 0)) (fun _ => (fun _ => 0)) hc
      · skip
        have b_ := zF_ge rfl rfl c_
        refine lv_aload_n hx hb dX13_put_21 rfl (lv_at hl 0 rfl) ?_
        refine va_get (D := (dC, dI)) (ci := 13) (v := .ref (q0 22)) (C := RX13) (T := TX13) (N := 75) hx hb hG zuX13 hown hK hP 0 rfl rfl 22 (by decide) (hG _ zv1626) (fun _ h9 => h9) rfl dX13_put_22 ?_
        refine lv_aload_n hx hb dX13_put_25 rfl (lv_at hl 0 rfl) ?_
        refine va_get (D := (dC, dI)) (ci := 13) (v := .int (v0 23)) (C := RX13) (T := TX13) (N := 75) hx hb hG zuX13 hown hK hP 0 rfl rfl 23 (by decide) (hG _ zv1627) (fun _ h9 => h9) rfl dX13_put_26 ?_
        refine lv_iload_n hx hb dX13_put_29 rfl (lv_at hl 3 rfl) ?_
        refine lv_iadd hx hb dX13_put_30 ?_
        refine lv_topi (fun z30 e_z30 => ?_)
        have b_ := zadd rfl rfl e_z30 (by omega) (by omega)
        refine lv_iconst (v := 0) hx hb dX13_put_31 (by decide) ?_
        refine va_bast hx hb hK hP hD hS 1 0 rfl rfl (zin_lit ⟨by omega, by omega⟩) dX13_put_32 (fun H locs hP hD hS => ?_)
        obtain ⟨f_32, e_f_32⟩ : ∃ z : Nat → Int32, z = upd (a14_ 0) (z30 : Int32).toNatClampNeg (vp_nar .byte 0) := ⟨_, rfl⟩
        have hP : va_P (dC, dI) vwCl [(h0, .inr (13, mX13 q0 v0)), ((q0 22), zi k16 40000 f_32)] H := by rw [e_f_32]; exact hP
        have hD : va_D A [(h0, .inr (13, mX13 q0 v0)), ((q0 22), zi k16 40000 f_32)] := by rw [e_f_32]; exact hD
        obtain ⟨z33, e_z33⟩ : ∃ z : Int32, z = (u14_ 0) + Int32.ofInt 1 := ⟨_, rfl⟩
        have b_ := zadd (x := (u14_ 0)) (y := Int32.ofInt 1) rfl (show (Int32.ofInt 1).toInt = 1 from by decide) e_z33 (by omega) (by omega)
        refine lv_iinc (v := z33) (lv' := [(3, .int z33), (0, .ref h0), (1, .int x1), (2, .int r1_)]) hx hb dX13_put_33 hl (k := 3) rfl e_z33.symm (by decide) rfl (fun ls hl => ?_)
        refine lv_goto (tgt := 14) hx hb dX13_put_36 (by decide) ?_
        have hc : va_P (dC, dI) vwCl [(h0, .inr (13, mX13 q0 v0)), ((q0 22), zi k16 40000 f_32)] H ∧ va_D A [(h0, .inr (13, mX13 q0 v0)), ((q0 22), zi k16 40000 f_32)] ∧ va_S A s.heap H locs ∧ lv_has ls 4 [(0, .ref h0), (1, .int x1), (2, .int r1_), (3, .int z33)] ∧ (0 ≤ z33.toInt ∧ z33.toInt ≤ 10) ∧ (zPz f16 f_32 (v0 23).toInt z33.toInt) ∧ (z33.toInt ≤ r1_.toInt - 1) ∧ (0 ≤ z33.toInt) := ⟨hP, hD, hS, lv_sub hl [1, 2, 3, 0] rfl, (by first | with_reducible assumption | exact ⟨by omega, by omega⟩), by first | exact zPz_s hI14_0 (by omega) (by omega) e_f_32 (by decide) (by omega) | exact zPz_0 (by decide), by omega, by omega⟩
        exact hJ14 H locs ls (fun i => ([z33] : List (Int32)).getD i 0) (fun _ => 0) (fun i => ([f_32] : List (Nat → Int32)).getD i (fun _ => 0)) (fun _ => (fun _ => 0)) hc (show (10 - z33.toInt).toNat < (10 - (u14_ 0).toInt).toNat from by omega)
    · skip
      have hc : va_P (dC, dI) vwCl [(h0, .inr (13, mX13 q0 v0)), ((q0 22), zi k16 40000 f16)] H ∧ va_D A [(h0, .inr (13, mX13 q0 v0)), ((q0 22), zi k16 40000 f16)] ∧ va_S A s.heap H locs ∧ lv_has ls 4 [(0, .ref h0), (1, .int x1), (2, .int r1_), (3, .int 0)] ∧ (0 ≤ (0 : Int32).toInt ∧ (0 : Int32).toInt ≤ 10) ∧ (zPz f16 f16 (v0 23).toInt (0 : Int32).toInt) ∧ ((0 : Int32).toInt ≤ r1_.toInt - 1) ∧ (0 ≤ (0 : Int32).toInt) := ⟨hP, hD, hS, lv_sub hl [2, 3, 1, 0] rfl, (by first | with_reducible assumption | exact ⟨by omega, by omega⟩), by first | exact zPz_s hI14_0 (by omega) (by omega) e_f_32 (by decide) (by omega) | exact zPz_0 (by decide), by omega, by omega⟩
      exact hJ14 H locs ls (fun i => ([0] : List (Int32)).getD i 0) (fun _ => 0) (fun i => ([f16] : List (Nat → Int32)).getD i (fun _ => 0)) (fun _ => (fun _ => 0)) hc
set_option maxHeartbeats 8000000 in
set_option maxRecDepth 100000 in
theorem p12_sX13_layOut_0 (l : Launch) (dC : Nat → ClassId) (dI : Nat → Nat → Nat) (adK adV : Nat → Nat) (h0 : Nat) (q0 : Nat → Nat) (k6 : ClassId) (k10 : ClassId) (k4 : ClassId) (k11 : ClassId) (k16 : ClassId) (k2 : ClassId) (k3 : ClassId) (sz : Nat) (v0 : Nat → Int32) (f6 : Nat → Int32) (f10 : Nat → Int32) (f4 : Nat → Int32) (f11 : Nat → Int32) (f16 : Nat → Int32) (f2 : Nat → Int32) (f3 : Nat → Int32) (x1 : Int32) (x2 : Int32) (hv0 : zR rg_Model v0) (hf10 : zA 0 512 f10) (hf4 : zA 0 400 f4) (hf11 : zA 0 512 f11) (hf3 : zA 0 12 f3) (hx1 : 0 ≤ x1.toInt ∧ x1.toInt ≤ 399) (hx2 : 0 ≤ x2.toInt ∧ x2.toInt ≤ 1) (hp0_ : x2.toInt = 1 → (zB f4 f6 x1.toInt  ((v0 13).toInt).toNat).1 ≤ 40000) : Met l yX13_layOut (zw yX13_layOut cX13_layOut 8 (some .int)) { frames := 2, cells := 0, slots := 0, locals := 45 } (zPc dC dI adK adV [.ref h0, .int x1, .int x2] sz [(h0, .inr (13, mX13 q0 v0)), ((q0 7), zi k6 120 f6), ((q0 11), zi k10 120 f10), ((q0 5), zi k4 122880 f4), ((q0 12), zi k11 120 f11), ((q0 22), zi k16 40000 f16), ((q0 2), zi k2 4800 f2), ((q0 3), zi k3 400 f3)] [(k6, .boolean), (k10, .int), (k4, .short), (k11, .int), (k16, .byte), (k2, .byte), (k3, .int)]) (va_Qi (fun (r : Int32) (u : Nat → Int32) => (0 ≤ r.toInt ∧ r.toInt ≤ 2600021) ∧ (0 ≤ (u 0).toInt ∧ (u 0).toInt ≤ 2600021) ∧ (0 ≤ (u 1).toInt ∧ (u 1).toInt ≤ 1) ∧ (r.toInt ≤ (zB f4 f6 x1.toInt  ((v0 13).toInt).toNat).1) ∧ (0 ≤ r.toInt) ∧ (zW (∀ (T : Nat → Nat → Int) (V : List Int) (x : Int), zMd f2 f3 (v0 4).toInt f4 f6 (v0 13).toInt T V → zMb f10 f11 (v0 13).toInt T → V[(x1.toInt).toNat]? = some x → r.toInt = ((zPq T x ((v0 13).toInt).toNat).length : Int))) ∧ (r.toInt = (u 2).toInt)) (fun (u : Nat → Int32) (t : State) => ∃ (ww : Nat → Int64) (aa : Nat → Nat → Int32) (bb : Nat → Nat → Int64), (zLx (aa 0) x2.toInt f2 f3 (v0 4).toInt f4 f6 f10 f11 (v0 13).toInt x1.toInt (u 2).toInt) ∧ va_P (dC, dI) vwCl [(h0, .inr (13, mX13 q0 (upd (upd v0 23 (u 0)) 24 (u 1)))), ((q0 7), zi k6 120 f6), ((q0 11), zi k10 120 f10), ((q0 5), zi k4 122880 f4), ((q0 12), zi k11 120 f11), ((q0 22), zi k16 40000 (aa 0)), ((q0 2), zi k2 4800 f2), ((q0 3), zi k3 400 f3)] t.heap ∧ va_K (dC, dI) vwCl [(k6, .boolean), (k10, .int), (k4, .short), (k11, .int), (k16, .byte), (k2, .byte), (k3, .int)] t ∧ va_D (va_A [(h0, .inr (13, mX13 q0 v0)), ((q0 7), zi k6 120 f6), ((q0 11), zi k10 120 f10), ((q0 5), zi k4 122880 f4), ((q0 12), zi k11 120 f11), ((q0 22), zi k16 40000 f16), ((q0 2), zi k2 4800 f2), ((q0 3), zi k3 400 f3)] sz) [(h0, .inr (13, mX13 q0 (upd (upd v0 23 (u 0)) 24 (u 1)))), ((q0 7), zi k6 120 f6), ((q0 11), zi k10 120 f10), ((q0 5), zi k4 122880 f4), ((q0 12), zi k11 120 f11), ((q0 22), zi k16 40000 (aa 0)), ((q0 2), zi k2 4800 f2), ((q0 3), zi k3 400 f3)]) (va_A [(h0, .inr (13, mX13 q0 v0)), ((q0 7), zi k6 120 f6), ((q0 11), zi k10 120 f10), ((q0 5), zi k4 122880 f4), ((q0 12), zi k11 120 f11), ((q0 22), zi k16 40000 f16), ((q0 2), zi k2 4800 f2), ((q0 3), zi k3 400 f3)] sz)) 0 0 (va_A [(h0, .inr (13, mX13 q0 v0)), ((q0 7), zi k6 120 f6), ((q0 11), zi k10 120 f10), ((q0 5), zi k4 122880 f4), ((q0 12), zi k11 120 f11), ((q0 22), zi k16 40000 f16), ((q0 2), zi k2 4800 f2), ((q0 3), zi k3 400 f3)] sz) := by
  refine Met.ofW (cc := cX13_layOut) (maxL := 8) (ret := (some .int)) (by decide) rfl ?_
  intro p e s m args below meth c s₁ B hml hv
  obtain ⟨rfl, hsz, hP, hK, hD0, hE, hZ⟩ := hv
  have hx := B.exec
  have hb := B.bytes
  have hr := B.returns
  have hG : ∀ w ∈ zG, w.before _ s = true := fun w h => atoms_spec (ws := (zw yX13_layOut cX13_layOut 8 (some .int))) B.pre w (List.mem_cons_of_mem _ h)
  have hown : s.vm.findClass RX13 = some m.cls := findClass_of_methodNamed B.named
  have hlocks := B.notSynchronized

  subst hsz
  have hD := hD0.self (sz := s.heap.size)
  generalize hAe : va_A [(h0, .inr (13, mX13 q0 v0)), ((q0 7), zi k6 120 f6), ((q0 11), zi k10 120 f10), ((q0 5), zi k4 122880 f4), ((q0 12), zi k11 120 f11), ((q0 22), zi k16 40000 f16), ((q0 2), zi k2 4800 f2), ((q0 3), zi k3 400 f3)] s.heap.size = A at hD hZ ⊢
  have hA : ∀ q : Nat, s.heap.size ≤ q → A q := fun q h => by rw [← hAe]; exact Or.inr h
  have hS : va_S A s.heap s.heap [] := va_S.rf
  have hl := lv_entry ([.ref h0, .int x1, .int x2]) (n := 8) (Nat.le_of_ble_eq_true rfl)
  rw [lg_entry_eq]
  generalize (lg_sl ([.ref h0, .int x1, .int x2]) ++ List.replicate (8 - (lg_sl ([.ref h0, .int x1, .int x2])).length) Slot.unset).toArray = ls at hl ⊢
  have hl : lv_has ls 8 [(0, .ref h0), (1, .int x1), (2, .int x2)] := hl
  have b_ := zk_m1
  have b_ := zk_0
  have b_ : 0 ≤ (v0 13).toInt ∧ (v0 13).toInt ≤ 120 := hv0 13
  have b_ : 0 ≤ (v0 4).toInt ∧ (v0 4).toInt ≤ 400 := hv0 4
  have hb0 : (zB f4 f6 x1.toInt 0).1 = 0 ∧ (zB f4 f6 x1.toInt 0).2 = -1 := ⟨rfl, rfl⟩
  refine lv_aload_n hx hb dX13_layOut_0 rfl (lv_at hl 0 rfl) ?_
  refine lv_iload_n hx hb dX13_layOut_1 rfl (lv_at hl 2 rfl) ?_
  refine va_put (D := (dC, dI)) (ci := 13) (v := .int x2) (ty := .boolean) (C := RX13) (T := TX13) (N := 75) hx hb hG zuX13 tyX13 tyX13_ok nmX13 hown hK hP hD hS 0 rfl rfl 24 (by decide) (hG _ zv1628) (fun _ h9 => h9) rfl (by decide +kernel) (zbn ⟨by omega, by omega⟩) (zbf ⟨by omega, by omega⟩) (Nat.le_of_ble_eq_true rfl) dX13_layOut_2 (fun H locs hP hD hS => ?_)
  have hP : va_P (dC, dI) vwCl [(h0, .inr (13, mX13 q0 (upd v0 24 x2))), ((q0 7), zi k6 120 f6), ((q0 11), zi k10 120 f10), ((q0 5), zi k4 122880 f4), ((q0 12), zi k11 120 f11), ((q0 22), zi k16 40000 f16), ((q0 2), zi k2 4800 f2), ((q0 3), zi k3 400 f3)] H := hP
  have hD : va_D A [(h0, .inr (13, mX13 q0 (upd v0 24 x2))), ((q0 7), zi k6 120 f6), ((q0 11), zi k10 120 f10), ((q0 5), zi k4 122880 f4), ((q0 12), zi k11 120 f11), ((q0 22), zi k16 40000 f16), ((q0 2), zi k2 4800 f2), ((q0 3), zi k3 400 f3)] := hD
  refine lv_aload_n hx hb dX13_layOut_5 rfl (lv_at hl 0 rfl) ?_
  refine lv_iconst (v := 0) hx hb dX13_layOut_6 (by decide) ?_
  refine va_put (D := (dC, dI)) (ci := 13) (v := .int 0) (ty := .int) (C := RX13) (T := TX13) (N := 75) hx hb hG zuX13 tyX13 tyX13_ok nmX13 hown hK hP hD hS 0 rfl rfl 23 (by decide) (hG _ zv1627) (fun _ h9 => h9) rfl (by decide +kernel) rfl rfl (Nat.le_of_ble_eq_true rfl) dX13_layOut_7 (fun H locs hP hD hS => ?_)
  have hP : va_P (dC, dI) vwCl [(h0, .inr (13, mX13 q0 (upd (upd v0 23 0) 24 x2))), ((q0 7), zi k6 120 f6), ((q0 11), zi k10 120 f10), ((q0 5), zi k4 122880 f4), ((q0 12), zi k11 120 f11), ((q0 22), zi k16 40000 f16), ((q0 2), zi k2 4800 f2), ((q0 3), zi k3 400 f3)] H := hP
  have hD : va_D A [(h0, .inr (13, mX13 q0 (upd (upd v0 23 0) 24 x2))), ((q0 7), zi k6 120 f6), ((q0 11), zi k10 120 f10), ((q0 5), zi k4 122880 f4), ((q0 12), zi k11 120 f11), ((q0 22), zi k16 40000 f16), ((q0 2), zi k2 4800 f2), ((q0 3), zi k3 400 f3)] := hD
  refine lv_iconst (v := (-1)) hx hb dX13_layOut_10 (by decide) ?_
  refine lv_istore_n (lv' := [(3, .int (-1)), (0, .ref h0), (1, .int x1), (2, .int x2)]) hx hb dX13_layOut_11 rfl hl (by decide) rfl (fun ls hl => ?_)
  refine lv_iconst (v := 0) hx hb dX13_layOut_12 (by decide) ?_
  refine lv_istore (lv' := [(4, .int 0), (3, .int (-1)), (0, .ref h0), (1, .int x1), (2, .int x2)]) hx hb dX13_layOut_13 hl (by decide) rfl (fun ls hl => ?_)
  refine zcutL (fun u15_ => (120 - (u15_ 1).toInt).toNat) (fun H locs ls u15_ w15_ a15_ b15_ => va_P (dC, dI) vwCl [(h0, .inr (13, mX13 q0 (upd (upd v0 23 (u15_ 2)) 24 x2))), ((q0 7), zi k6 120 f6), ((q0 11), zi k10 120 f10), ((q0 5), zi k4 122880 f4), ((q0 12), zi k11 120 f11), ((q0 22), zi k16 40000 (a15_ 0)), ((q0 2), zi k2 4800 f2), ((q0 3), zi k3 400 f3)] H ∧ va_D A [(h0, .inr (13, mX13 q0 (upd (upd v0 23 (u15_ 2)) 24 x2))), ((q0 7), zi k6 120 f6), ((q0 11), zi k10 120 f10), ((q0 5), zi k4 122880 f4), ((q0 12), zi k11 120 f11), ((q0 22), zi k16 40000 (a15_ 0)), ((q0 2), zi k2 4800 f2), ((q0 3), zi k3 400 f3)] ∧ va_S A s.heap H locs ∧ lv_has ls 8 [(0, .ref h0), (1, .int x1), (2, .int x2), (3, .int (u15_ 0)), (4, .int (u15_ 1))] ∧ ((-1) ≤ (u15_ 0).toInt ∧ (u15_ 0).toInt ≤ 119) ∧ (0 ≤ (u15_ 1).toInt ∧ (u15_ 1).toInt ≤ 120) ∧ (0 ≤ (u15_ 2).toInt ∧ (u15_ 2).toInt ≤ 2600021) ∧ (zSl (u15_ 2).toInt (u15_ 0).toInt (zB f4 f6 x1.toInt  ((u15_ 1).toInt).toNat).1 (zB f4 f6 x1.toInt  ((u15_ 1).toInt).toNat).2) ∧ ((u15_ 1).toInt ≤ (v0 13).toInt) ∧ (x2.toInt = x2.toInt) ∧ (0 ≤ (u15_ 2).toInt) ∧ (-1 ≤ (u15_ 0).toInt ∧ (u15_ 0).toInt < (u15_ 1).toInt) ∧ (zLy f2 f3 (v0 4).toInt f4 f6 f10 f11 (v0 13).toInt x1.toInt (u15_ 1).toInt (u15_ 2).toInt (u15_ 0).toInt) ∧ (zLq (a15_ 0) (u15_ 2).toInt (u15_ 0).toInt x2.toInt f2 f3 (v0 4).toInt f4 f6 f10 f11 (v0 13).toInt x1.toInt (u15_ 1).toInt)) (fun ls u15_ w15_ => F0 m 15 ls []) 0 0 ?_ (fun hJ15 => ?_)
  · skip
    intro H locs ls u15_ w15_ a15_ b15_ hc hJ15
    obtain ⟨hP, hD, hS, hl, b_, b_, b_, hI15_0, b_, b_, b_, b_, hI15_5, hI15_6⟩ := hc
    refine lv_iload hx hb dX13_layOut_15 (lv_at hl 4 rfl) ?_
    refine lv_aload_n hx hb dX13_layOut_17 rfl (lv_at hl 0 rfl) ?_
    refine va_get (D := (dC, dI)) (ci := 13) (v := .int (v0 13)) (C := RX13) (T := TX13) (N := 75) hx hb hG zuX13 hown hK hP 0 rfl rfl 13 (by decide) (hG _ zv1617) (fun _ h9 => h9) rfl dX13_layOut_18 ?_
    refine lv_icmp_ge (tgt := 134) hx hb dX13_layOut_21 (by decide) (fun c_ => ?_) (fun c_ => ?_)
    · skip
      have b_ := zT_ge rfl rfl c_
      have hfi : (u15_ 2).toInt ≤ (zB f4 f6 x1.toInt ((v0 13).toInt).toNat).1 := by rw [show (v0 13).toInt = (u15_ 1).toInt from by omega]; exact hI15_0.1
      refine lv_aload_n hx hb dX13_layOut_134 rfl (lv_at hl 0 rfl) ?_
      refine va_get (D := (dC, dI)) (ci := 13) (v := .int (u15_ 2)) (C := RX13) (T := TX13) (N := 75) hx hb hG zuX13 hown hK hP 0 rfl rfl 23 (by decide) (hG _ zv1627) (fun _ h9 => h9) rfl dX13_layOut_135 ?_
      refine W.widen (k := 0) (n := 0) (by decide) (by decide) ?_
      have hpost : (0 ≤ (u15_ 2).toInt ∧ (u15_ 2).toInt ≤ 2600021) ∧ (0 ≤ (u15_ 2).toInt ∧ (u15_ 2).toInt ≤ 2600021) ∧ (0 ≤ x2.toInt ∧ x2.toInt ≤ 1) ∧ ((u15_ 2).toInt ≤ (zB f4 f6 x1.toInt  ((v0 13).toInt).toNat).1) ∧ (0 ≤ (u15_ 2).toInt) ∧ (zW (∀ (T : Nat → Nat → Int) (V : List Int) (x : Int), zMd f2 f3 (v0 4).toInt f4 f6 (v0 13).toInt T V → zMb f10 f11 (v0 13).toInt T → V[(x1.toInt).toNat]? = some x → (u15_ 2).toInt = ((zPq T x ((v0 13).toInt).toNat).length : Int))) ∧ ((u15_ 2).toInt = (u15_ 2).toInt) := ⟨(by first | with_reducible assumption | exact ⟨by omega, by omega⟩), (by first | with_reducible assumption | exact ⟨by omega, by omega⟩), (by first | with_reducible assumption | exact ⟨by omega, by omega⟩), by omega, by omega, by exact fun T V x hm hb hv => zLy_e hI15_5 (by omega) (by omega) (by omega) rfl hm hb hv, rfl⟩
      have hP9 : va_P (dC, dI) vwCl [(h0, .inr (13, mX13 q0 (upd (upd v0 23 (u15_ 2)) 24 x2))), ((q0 7), zi k6 120 f6), ((q0 11), zi k10 120 f10), ((q0 5), zi k4 122880 f4), ((q0 12), zi k11 120 f11), ((q0 22), zi k16 40000 (a15_ 0)), ((q0 2), zi k2 4800 f2), ((q0 3), zi k3 400 f3)] H := hP
      have hD9 : va_D A [(h0, .inr (13, mX13 q0 (upd (upd v0 23 (u15_ 2)) 24 x2))), ((q0 7), zi k6 120 f6), ((q0 11), zi k10 120 f10), ((q0 5), zi k4 122880 f4), ((q0 12), zi k11 120 f11), ((q0 22), zi k16 40000 (a15_ 0)), ((q0 2), zi k2 4800 f2), ((q0 3), zi k3 400 f3)] := hD
      have hB0 : zLx (a15_ 0) x2.toInt f2 f3 (v0 4).toInt f4 f6 f10 f11 (v0 13).toInt x1.toInt (u15_ 2).toInt := by exact zLx_e hI15_6 (by omega) (by omega) rfl
      exact W.iret (v := (u15_ 2)) hx hb hr (fun t ht hW => ⟨⟨(u15_ 2), (fun i => ([(u15_ 2), x2, (u15_ 2)] : List (Int32)).getD i 0), rfl, hpost, (fun _ => 0), (fun i => ([(a15_ 0)] : List (Nat → Int32)).getD i (fun _ => 0)), (fun _ => (fun _ => 0)), hB0, by rw [ht]; exact hP9, va_K.moved hW.alike hK, hD9⟩, hS.F ht⟩) hS.2.2 dX13_layOut_138
    · skip
      have b_ := zF_ge rfl rfl c_
      refine lv_aload_n hx hb dX13_layOut_24 rfl (lv_at hl 0 rfl) ?_
      refine va_get (D := (dC, dI)) (ci := 13) (v := .ref (q0 7)) (C := RX13) (T := TX13) (N := 75) hx hb hG zuX13 hown hK hP 0 rfl rfl 7 (by decide) (hG _ zv1611) (fun _ h9 => h9) rfl dX13_layOut_25 ?_
      refine lv_iload hx hb dX13_layOut_28 (lv_at hl 4 rfl) ?_
      refine va_zald hx hb hK hP 1 0 rfl rfl (zin_lit ⟨by omega, by omega⟩) dX13_layOut_30 ?_
      refine lv_topi (fun z30 e_z30 => ?_)
      have hke : (f6 ((u15_ 1).toInt).toNat).toInt = z30.toInt := congrArg Int32.toInt e_z30.symm
      have b_ : -2147483648 ≤ z30.toInt ∧ z30.toInt ≤ 2147483647 := ⟨zlo _, zhi _⟩
      refine lv_if_eq (tgt := 44) hx hb dX13_layOut_31 (by decide) (fun c_ => ?_) (fun c_ => ?_)
      · skip
        have b_ := zT_eq rfl zk_0 c_
        refine lv_iconst (v := 0) hx hb dX13_layOut_44 (by decide) ?_
        refine lv_istore (lv' := [(5, .int 0), (0, .ref h0), (1, .int x1), (2, .int x2), (3, .int (u15_ 0)), (4, .int (u15_ 1))]) hx hb dX13_layOut_45 hl (by decide) rfl (fun ls hl => ?_)
        refine lv_iload hx hb dX13_layOut_47 (lv_at hl 0 rfl) ?_
        refine lv_if_ne (tgt := 55) hx hb dX13_layOut_49 (by decide) (fun c_ => absurd c_ (by decide)) (fun c_ => ?_)
        refine lv_goto (tgt := 128) hx hb dX13_layOut_52 (by decide) ?_
        obtain ⟨z128, e_z128⟩ : ∃ z : Int32, z = (u15_ 1) + Int32.ofInt 1 := ⟨_, rfl⟩
        have b_ := zadd (x := (u15_ 1)) (y := Int32.ofInt 1) rfl (show (Int32.ofInt 1).toInt = 1 from by decide) e_z128 (by omega) (by omega)
        refine lv_iinc (v := z128) (lv' := [(4, .int z128), (5, .int 0), (0, .ref h0), (1, .int x1), (2, .int x2), (3, .int (u15_ 0))]) hx hb dX13_layOut_128 hl (k := 5) rfl e_z128.symm (by decide) rfl (fun ls hl => ?_)
        have e9 : (z128.toInt).toNat = ((u15_ 1).toInt).toNat + 1 := by omega
        have hsl : zSl (u15_ 2).toInt (u15_ 0).toInt (zB f4 f6 x1.toInt  (z128.toInt).toNat).1 (zB f4 f6 x1.toInt  (z128.toInt).toNat).2 := by rw [e9]; exact zSl_d hI15_0 (by omega)
        have hly : zLy f2 f3 (v0 4).toInt f4 f6 f10 f11 (v0 13).toInt x1.toInt z128.toInt (u15_ 2).toInt (u15_ 0).toInt := zLy_k hI15_5 (by omega) (by rw [← e_z30]; omega) (by omega) rfl rfl
        have hlq : zLq (a15_ 0) (u15_ 2).toInt (u15_ 0).toInt x2.toInt f2 f3 (v0 4).toInt f4 f6 f10 f11 (v0 13).toInt x1.toInt z128.toInt := zLq_k hI15_6 (by omega) (by omega) (by omega) (by rw [← e_z30]; omega) (by omega) rfl rfl
        refine lv_goto (tgt := 15) hx hb dX13_layOut_131 (by decide) ?_
        have hc : va_P (dC, dI) vwCl [(h0, .inr (13, mX13 q0 (upd (upd v0 23 (u15_ 2)) 24 x2))), ((q0 7), zi k6 120 f6), ((q0 11), zi k10 120 f10), ((q0 5), zi k4 122880 f4), ((q0 12), zi k11 120 f11), ((q0 22), zi k16 40000 (a15_ 0)), ((q0 2), zi k2 4800 f2), ((q0 3), zi k3 400 f3)] H ∧ va_D A [(h0, .inr (13, mX13 q0 (upd (upd v0 23 (u15_ 2)) 24 x2))), ((q0 7), zi k6 120 f6), ((q0 11), zi k10 120 f10), ((q0 5), zi k4 122880 f4), ((q0 12), zi k11 120 f11), ((q0 22), zi k16 40000 (a15_ 0)), ((q0 2), zi k2 4800 f2), ((q0 3), zi k3 400 f3)] ∧ va_S A s.heap H locs ∧ lv_has ls 8 [(0, .ref h0), (1, .int x1), (2, .int x2), (3, .int (u15_ 0)), (4, .int z128)] ∧ ((-1) ≤ (u15_ 0).toInt ∧ (u15_ 0).toInt ≤ 119) ∧ (0 ≤ z128.toInt ∧ z128.toInt ≤ 120) ∧ (0 ≤ (u15_ 2).toInt ∧ (u15_ 2).toInt ≤ 2600021) ∧ (zSl (u15_ 2).toInt (u15_ 0).toInt (zB f4 f6 x1.toInt  (z128.toInt).toNat).1 (zB f4 f6 x1.toInt  (z128.toInt).toNat).2) ∧ (z128.toInt ≤ (v0 13).toInt) ∧ (x2.toInt = x2.toInt) ∧ (0 ≤ (u15_ 2).toInt) ∧ (-1 ≤ (u15_ 0).toInt ∧ (u15_ 0).toInt < z128.toInt) ∧ (zLy f2 f3 (v0 4).toInt f4 f6 f10 f11 (v0 13).toInt x1.toInt z128.toInt (u15_ 2).toInt (u15_ 0).toInt) ∧ (zLq (a15_ 0) (u15_ 2).toInt (u15_ 0).toInt x2.toInt f2 f3 (v0 4).toInt f4 f6 f10 f11 (v0 13).toInt x1.toInt z128.toInt) := ⟨hP, hD, hS, lv_sub hl [2, 3, 4, 5, 0] rfl, (by first | with_reducible assumption | exact ⟨by omega, by omega⟩), (by first | with_reducible assumption | exact ⟨by omega, by omega⟩), (by first | with_reducible assumption | exact ⟨by omega, by omega⟩), by first | exact hsl | (rw [zk_0, zk_m1]; exact ⟨Int.le_refl _, Int.le_refl _, Or.inl rfl⟩), by omega, by omega, by omega, by omega, by first | exact hly | exact zLy_0 (by decide) (by decide) (by decide), by first | exact hlq | exact zLq_0 (by decide) (by decide) (by decide)⟩
        exact hJ15 H locs ls (fun i => ([(u15_ 0), z128, (u15_ 2)] : List (Int32)).getD i 0) (fun _ => 0) (fun i => ([(a15_ 0)] : List (Nat → Int32)).getD i (fun _ => 0)) (fun _ => (fun _ => 0)) hc (show (120 - z128.toInt).toNat < (120 - (u15_ 1).toInt).toNat from by omega)
      · skip
        have b_ := zF_eq rfl zk_0 c_
        refine lv_aload_n hx hb dX13_layOut_34 rfl (lv_at hl 0 rfl) ?_
        refine lv_iload hx hb dX13_layOut_35 (lv_at hl 4 rfl) ?_
        refine lv_iload_n hx hb dX13_layOut_37 rfl (lv_at hl 1 rfl) ?_
        have hPc := hP.sub (ws' := [(h0, .inr (13, mX13 q0 (upd (upd v0 23 (u15_ 2)) 24 x2))), ((q0 11), zi k10 120 f10), ((q0 5), zi k4 122880 f4), ((q0 12), zi k11 120 f11)]) [0, 2, 3, 4] rfl
        have hDc := hD.sub (ws' := [(h0, .inr (13, mX13 q0 (upd (upd v0 23 (u15_ 2)) 24 x2))), ((q0 11), zi k10 120 f10), ((q0 5), zi k4 122880 f4), ((q0 12), zi k11 120 f11)]) [0, 2, 3, 4] (by decide) rfl
        have hKc := hK.sub (tys' := [(k10, .int), (k4, .short), (k11, .int)]) [1, 2, 3] rfl
        have hFc := va_free (wc := [(h0, .inr (13, mX13 q0 (upd (upd v0 23 (u15_ 2)) 24 x2))), ((q0 11), zi k10 120 f10), ((q0 5), zi k4 122880 f4), ((q0 12), zi k11 120 f11)]) hD hS hA [0, 2, 3, 4] rfl
        refine va_calli (va_runV (As := [.int (u15_ 1), .int x1]) (rest := []) ⟨hx, hb, hml, hown, hG⟩ (p12_sX13_timesOf_0 l dC dI adK adV h0 q0 k10 k4 k11 H.size (upd (upd v0 23 (u15_ 2)) 24 x2) f10 f4 f11 (u15_ 1) x1 (zR_up2 (zR_updF hv0 23 rfl) 24 (show (0 : Int) ≤ (x2 : Int32).toInt ∧ (x2 : Int32).toInt ≤ (1 : Int) from (by first | with_reducible assumption | exact ⟨by omega, by omega⟩))) hf10 hf4 hf11 (show (0 : Int) ≤ ((u15_ 1) : Int32).toInt ∧ ((u15_ 1) : Int32).toInt ≤ (119 : Int) from (by first | with_reducible assumption | exact ⟨by omega, by omega⟩)) (show (0 : Int) ≤ (x1 : Int32).toInt ∧ (x1 : Int32).toInt ≤ (399 : Int) from (by first | with_reducible assumption | exact ⟨by omega, by omega⟩))) (cwV 2 hG (zgV zv1975 zv1977 zv71 zv142 zv1978) rfl rfl rfl (by decide +kernel) ⟨Nat.le_of_ble_eq_true rfl, Nat.le_of_ble_eq_true rfl⟩) ⟨zPc_blind, va_recv hKc hPc (ci := 13) (q0 := 0) rfl rfl, zPc_pre hPc hKc hDc hE hS hFc hZ⟩ rfl rfl hl.1 rfl (lv_room (Nat.le_of_ble_eq_true rfl)) dX13_layOut_38 ⟨Nat.le_of_ble_eq_true rfl, Nat.le_of_ble_eq_true rfl⟩) hS (fun q _ h => hFc q h) hFc (fun r38_ u38_ t H1 locs ht hvm hw hB hz1 hk1 hS => ?_)
        replace hw : (0 ≤ r38_.toInt ∧ r38_.toInt ≤ 1024) ∧ (r38_.toInt ≤ (zp f4 (u15_ 1).toInt x1.toInt 1024).1) ∧ (zTf f4 f10 f11 ((u15_ 1) : Int32) x1.toInt r38_.toInt) := hw
        obtain ⟨b_, hX38_0, hX38_1⟩ := hw
        obtain ⟨w38_, a38_, b38_, hP1, hK1, hD1⟩ := hB
        rw [ht] at hP1
        obtain ⟨hP, hD⟩ := va_join (wr := [((q0 7), zi k6 120 f6), ((q0 22), zi k16 40000 (a15_ 0)), ((q0 2), zi k2 4800 f2), ((q0 3), zi k3 400 f3)]) (w1 := [(h0, .inr (13, mX13 q0 (upd (upd v0 23 (u15_ 2)) 24 x2))), ((q0 11), zi k10 120 f10), ((q0 5), zi k4 122880 f4), ((q0 12), zi k11 120 f11)]) hP hD [0, 2, 3, 4] [1, 5, 6, 7] rfl rfl (by decide) (by decide) hk1 hFc hP1 hD1
        have hP : va_P (dC, dI) vwCl [(h0, .inr (13, mX13 q0 (upd (upd v0 23 (u15_ 2)) 24 x2))), ((q0 7), zi k6 120 f6), ((q0 11), zi k10 120 f10), ((q0 5), zi k4 122880 f4), ((q0 12), zi k11 120 f11), ((q0 22), zi k16 40000 (a15_ 0)), ((q0 2), zi k2 4800 f2), ((q0 3), zi k3 400 f3)] H1 := hP.sub [4, 0, 5, 6, 7, 1, 2, 3] rfl
        have hD : va_D A [(h0, .inr (13, mX13 q0 (upd (upd v0 23 (u15_ 2)) 24 x2))), ((q0 7), zi k6 120 f6), ((q0 11), zi k10 120 f10), ((q0 5), zi k4 122880 f4), ((q0 12), zi k11 120 f11), ((q0 22), zi k16 40000 (a15_ 0)), ((q0 2), zi k2 4800 f2), ((q0 3), zi k3 400 f3)] := hD.sub [4, 0, 5, 6, 7, 1, 2, 3] (by decide) rfl
        generalize H1 = H at hP hS ⊢
        clear hz1
        refine lv_goto (tgt := 45) hx hb dX13_layOut_41 (by decide) ?_
        refine lv_istore (lv' := [(5, .int r38_), (0, .ref h0), (1, .int x1), (2, .int x2), (3, .int (u15_ 0)), (4, .int (u15_ 1))]) hx hb dX13_layOut_45 hl (by decide) rfl (fun ls hl => ?_)
        refine lv_iload hx hb dX13_layOut_47 (lv_at hl 0 rfl) ?_
        refine lv_if_ne (tgt := 55) hx hb dX13_layOut_49 (by decide) (fun c_ => ?_) (fun c_ => ?_)
        · skip
          have b_ := zT_ne rfl zk_0 c_
          have hst9 := zSl_t (m := r38_.toInt) hI15_0 (by omega) (by omega) (by rw [hke]; omega) (by omega) hX38_0
          have hmo : (zB f4 f6 x1.toInt (((u15_ 1).toInt).toNat + 1)).1 ≤ (zB f4 f6 x1.toInt ((v0 13).toInt).toNat).1 := zB_mono (by omega) (by omega)
          have hbb := zB_b (ta := f4) (ke := f6) (w := x1.toInt) (n := ((v0 13).toInt).toNat) (by omega)
          have hpb := zp_b (ta := f4) (d := (u15_ 1).toInt) (w := x1.toInt) (k := 1024) (Nat.le_refl _)
          have hg1 := zgam_1 (x := r38_.toInt) (by omega)
          have hg2 := zgam_1 (x := (u15_ 1).toInt - (u15_ 0).toInt) (by omega)
          have htb := hst9.2
          refine lv_aload_n hx hb dX13_layOut_55 rfl (lv_at hl 1 rfl) ?_
          refine lv_iload hx hb dX13_layOut_56 (lv_at hl 5 rfl) ?_
          refine lv_iload_n hx hb dX13_layOut_58 rfl (lv_at hl 4 rfl) ?_
          refine lv_isub hx hb dX13_layOut_59 ?_
          refine lv_topi (fun z59 e_z59 => ?_)
          have b_ := zsub rfl rfl e_z59 (by omega) (by omega)
          have b_ : zgam z59.toInt = zgam ((u15_ 1).toInt - (u15_ 0).toInt) := by rw [show z59.toInt = (u15_ 1).toInt - (u15_ 0).toInt from by omega]
          have hPc := hP.sub (ws' := [(h0, .inr (13, mX13 q0 (upd (upd v0 23 (u15_ 2)) 24 x2))), ((q0 22), zi k16 40000 (a15_ 0))]) [0, 5] rfl
          have hDc := hD.sub (ws' := [(h0, .inr (13, mX13 q0 (upd (upd v0 23 (u15_ 2)) 24 x2))), ((q0 22), zi k16 40000 (a15_ 0))]) [0, 5] (by decide) rfl
          have hKc := hK.sub (tys' := [(k16, .byte)]) [4] rfl
          have hFc := va_free (wc := [(h0, .inr (13, mX13 q0 (upd (upd v0 23 (u15_ 2)) 24 x2))), ((q0 22), zi k16 40000 (a15_ 0))]) hD hS hA [0, 5] rfl
          refine va_callv (va_runV (As := [.int z59]) (rest := []) ⟨hx, hb, hml, hown, hG⟩ (p12_sX13_put_0 l dC dI adK adV h0 q0 k16 H.size (upd (upd v0 23 (u15_ 2)) 24 x2) (a15_ 0) z59 (zR_up2 (zR_updF hv0 23 rfl) 24 (show (0 : Int) ≤ (x2 : Int32).toInt ∧ (x2 : Int32).toInt ≤ (1 : Int) from (by first | with_reducible assumption | exact ⟨by omega, by omega⟩))) (show (1 : Int) ≤ (z59 : Int32).toInt ∧ (z59 : Int32).toInt ≤ (1200 : Int) from (by first | with_reducible assumption | exact ⟨by omega, by omega⟩)) (show x2.toInt = 1 → (u15_ 2).toInt + zgam z59.toInt ≤ 40000 from by omega) (show 0 ≤ (u15_ 2).toInt ∧ (u15_ 2).toInt ≤ 2600000 from by omega)) (cwV 1 hG (zgV zv1991 zv1993 zv74 zv142 zv1994) rfl rfl rfl (by decide +kernel) ⟨Nat.le_of_ble_eq_true rfl, Nat.le_of_ble_eq_true rfl⟩) ⟨zPc_blind, va_recv hKc hPc (ci := 13) (q0 := 0) rfl rfl, zPc_pre hPc hKc hDc hE hS hFc hZ⟩ rfl rfl hl.1 rfl (lv_room (Nat.le_of_ble_eq_true rfl)) dX13_layOut_60 ⟨Nat.le_of_ble_eq_true rfl, Nat.le_of_ble_eq_true rfl⟩) hS (fun q _ h => hFc q h) hFc (fun u60_ t H1 locs ht hvm hw hB hz1 hk1 hS => ?_)
          replace hw : (1 ≤ (u60_ 0).toInt ∧ (u60_ 0).toInt ≤ 2600021) ∧ ((u60_ 0).toInt = (u15_ 2).toInt + zgam z59.toInt) := hw
          obtain ⟨b_, hX60_0⟩ := hw
          obtain ⟨w60_, a60_, b60_, hB60_0, hP1, hK1, hD1⟩ := hB
          have hB60_0 : zPw (a15_ 0) (a60_ 0) (u15_ 2).toInt z59.toInt x2.toInt := hB60_0
          rw [ht] at hP1
          obtain ⟨hP, hD⟩ := va_join (wr := [((q0 7), zi k6 120 f6), ((q0 11), zi k10 120 f10), ((q0 5), zi k4 122880 f4), ((q0 12), zi k11 120 f11), ((q0 2), zi k2 4800 f2), ((q0 3), zi k3 400 f3)]) (w1 := [(h0, .inr (13, mX13 q0 (upd (upd v0 23 (u60_ 0)) 24 x2))), ((q0 22), zi k16 40000 (a60_ 0))]) hP hD [0, 5] [1, 2, 3, 4, 6, 7] rfl rfl (by decide) (by decide) hk1 hFc hP1 hD1
          have hP : va_P (dC, dI) vwCl [(h0, .inr (13, mX13 q0 (upd (upd v0 23 (u60_ 0)) 24 x2))), ((q0 7), zi k6 120 f6), ((q0 11), zi k10 120 f10), ((q0 5), zi k4 122880 f4), ((q0 12), zi k11 120 f11), ((q0 22), zi k16 40000 (a60_ 0)), ((q0 2), zi k2 4800 f2), ((q0 3), zi k3 400 f3)] H1 := hP.sub [6, 0, 1, 2, 3, 7, 4, 5] rfl
          have hD : va_D A [(h0, .inr (13, mX13 q0 (upd (upd v0 23 (u60_ 0)) 24 x2))), ((q0 7), zi k6 120 f6), ((q0 11), zi k10 120 f10), ((q0 5), zi k4 122880 f4), ((q0 12), zi k11 120 f11), ((q0 22), zi k16 40000 (a60_ 0)), ((q0 2), zi k2 4800 f2), ((q0 3), zi k3 400 f3)] := hD.sub [6, 0, 1, 2, 3, 7, 4, 5] (by decide) rfl
          generalize H1 = H at hP hS ⊢
          clear hz1
          refine lv_iload hx hb dX13_layOut_63 (lv_at hl 5 rfl) ?_
          refine lv_istore_n (lv' := [(3, .int (u15_ 1)), (5, .int r38_), (0, .ref h0), (1, .int x1), (2, .int x2), (4, .int (u15_ 1))]) hx hb dX13_layOut_65 rfl hl (by decide) rfl (fun ls hl => ?_)
          refine lv_aload_n hx hb dX13_layOut_66 rfl (lv_at hl 2 rfl) ?_
          refine lv_iload hx hb dX13_layOut_67 (lv_at hl 1 rfl) ?_
          have hPc := hP.sub (ws' := [(h0, .inr (13, mX13 q0 (upd (upd v0 23 (u60_ 0)) 24 x2))), ((q0 22), zi k16 40000 (a60_ 0))]) [0, 5] rfl
          have hDc := hD.sub (ws' := [(h0, .inr (13, mX13 q0 (upd (upd v0 23 (u60_ 0)) 24 x2))), ((q0 22), zi k16 40000 (a60_ 0))]) [0, 5] (by decide) rfl
          have hKc := hK.sub (tys' := [(k16, .byte)]) [4] rfl
          have hFc := va_free (wc := [(h0, .inr (13, mX13 q0 (upd (upd v0 23 (u60_ 0)) 24 x2))), ((q0 22), zi k16 40000 (a60_ 0))]) hD hS hA [0, 5] rfl
          refine va_callv (va_runV (As := [.int r38_]) (rest := []) ⟨hx, hb, hml, hown, hG⟩ (p12_sX13_put_0 l dC dI adK adV h0 q0 k16 H.size (upd (upd v0 23 (u60_ 0)) 24 x2) (a60_ 0) r38_ (zR_up2 (zR_updF hv0 23 rfl) 24 (show (0 : Int) ≤ (x2 : Int32).toInt ∧ (x2 : Int32).toInt ≤ (1 : Int) from (by first | with_reducible assumption | exact ⟨by omega, by omega⟩))) (show (1 : Int) ≤ (r38_ : Int32).toInt ∧ (r38_ : Int32).toInt ≤ (1200 : Int) from (by first | with_reducible assumption | exact ⟨by omega, by omega⟩)) (show x2.toInt = 1 → (u60_ 0).toInt + zgam r38_.toInt ≤ 40000 from by omega) (show 0 ≤ (u60_ 0).toInt ∧ (u60_ 0).toInt ≤ 2600000 from by omega)) (cwV 1 hG (zgV zv1991 zv1993 zv74 zv142 zv1994) rfl rfl rfl (by decide +kernel) ⟨Nat.le_of_ble_eq_true rfl, Nat.le_of_ble_eq_true rfl⟩) ⟨zPc_blind, va_recv hKc hPc (ci := 13) (q0 := 0) rfl rfl, zPc_pre hPc hKc hDc hE hS hFc hZ⟩ rfl rfl hl.1 rfl (lv_room (Nat.le_of_ble_eq_true rfl)) dX13_layOut_69 ⟨Nat.le_of_ble_eq_true rfl, Nat.le_of_ble_eq_true rfl⟩) hS (fun q _ h => hFc q h) hFc (fun u69_ t H1 locs ht hvm hw hB hz1 hk1 hS => ?_)
          replace hw : (1 ≤ (u69_ 0).toInt ∧ (u69_ 0).toInt ≤ 2600021) ∧ ((u69_ 0).toInt = (u60_ 0).toInt + zgam r38_.toInt) := hw
          obtain ⟨b_, hX69_0⟩ := hw
          obtain ⟨w69_, a69_, b69_, hB69_0, hP1, hK1, hD1⟩ := hB
          have hB69_0 : zPw (a60_ 0) (a69_ 0) (u60_ 0).toInt r38_.toInt x2.toInt := hB69_0
          rw [ht] at hP1
          obtain ⟨hP, hD⟩ := va_join (wr := [((q0 7), zi k6 120 f6), ((q0 11), zi k10 120 f10), ((q0 5), zi k4 122880 f4), ((q0 12), zi k11 120 f11), ((q0 2), zi k2 4800 f2), ((q0 3), zi k3 400 f3)]) (w1 := [(h0, .inr (13, mX13 q0 (upd (upd v0 23 (u69_ 0)) 24 x2))), ((q0 22), zi k16 40000 (a69_ 0))]) hP hD [0, 5] [1, 2, 3, 4, 6, 7] rfl rfl (by decide) (by decide) hk1 hFc hP1 hD1
          have hP : va_P (dC, dI) vwCl [(h0, .inr (13, mX13 q0 (upd (upd v0 23 (u69_ 0)) 24 x2))), ((q0 7), zi k6 120 f6), ((q0 11), zi k10 120 f10), ((q0 5), zi k4 122880 f4), ((q0 12), zi k11 120 f11), ((q0 22), zi k16 40000 (a69_ 0)), ((q0 2), zi k2 4800 f2), ((q0 3), zi k3 400 f3)] H1 := hP.sub [6, 0, 1, 2, 3, 7, 4, 5] rfl
          have hD : va_D A [(h0, .inr (13, mX13 q0 (upd (upd v0 23 (u69_ 0)) 24 x2))), ((q0 7), zi k6 120 f6), ((q0 11), zi k10 120 f10), ((q0 5), zi k4 122880 f4), ((q0 12), zi k11 120 f11), ((q0 22), zi k16 40000 (a69_ 0)), ((q0 2), zi k2 4800 f2), ((q0 3), zi k3 400 f3)] := hD.sub [6, 0, 1, 2, 3, 7, 4, 5] (by decide) rfl
          generalize H1 = H at hP hS ⊢
          clear hz1
          refine lv_iconst (v := (-1)) hx hb dX13_layOut_72 (by decide) ?_
          refine lv_istore (lv' := [(6, .int (-1)), (3, .int (u15_ 1)), (5, .int r38_), (0, .ref h0), (1, .int x1), (2, .int x2), (4, .int (u15_ 1))]) hx hb dX13_layOut_73 hl (by decide) rfl (fun ls hl => ?_)
          refine lv_iconst (v := 0) hx hb dX13_layOut_75 (by decide) ?_
          refine lv_istore (lv' := [(7, .int 0), (6, .int (-1)), (3, .int (u15_ 1)), (5, .int r38_), (0, .ref h0), (1, .int x1), (2, .int x2), (4, .int (u15_ 1))]) hx hb dX13_layOut_76 hl (by decide) rfl (fun ls hl => ?_)
          refine zcutL (fun u78_ => (1024 - (u78_ 1).toInt).toNat) (fun H locs ls u78_ w78_ a78_ b78_ => va_P (dC, dI) vwCl [(h0, .inr (13, mX13 q0 (upd (upd v0 23 (u78_ 2)) 24 x2))), ((q0 7), zi k6 120 f6), ((q0 11), zi k10 120 f10), ((q0 5), zi k4 122880 f4), ((q0 12), zi k11 120 f11), ((q0 22), zi k16 40000 (a78_ 0)), ((q0 2), zi k2 4800 f2), ((q0 3), zi k3 400 f3)] H ∧ va_D A [(h0, .inr (13, mX13 q0 (upd (upd v0 23 (u78_ 2)) 24 x2))), ((q0 7), zi k6 120 f6), ((q0 11), zi k10 120 f10), ((q0 5), zi k4 122880 f4), ((q0 12), zi k11 120 f11), ((q0 22), zi k16 40000 (a78_ 0)), ((q0 2), zi k2 4800 f2), ((q0 3), zi k3 400 f3)] ∧ va_S A s.heap H locs ∧ lv_has ls 8 [(0, .ref h0), (1, .int x1), (2, .int x2), (3, .int (u15_ 1)), (4, .int (u15_ 1)), (5, .int r38_), (6, .int (u78_ 0)), (7, .int (u78_ 1))] ∧ ((-1) ≤ (u78_ 0).toInt ∧ (u78_ 0).toInt ≤ 1023) ∧ (0 ≤ (u78_ 1).toInt ∧ (u78_ 1).toInt ≤ 1024) ∧ (1 ≤ (u78_ 2).toInt ∧ (u78_ 2).toInt ≤ 2600021) ∧ ((u78_ 2).toInt = (u69_ 0).toInt + (zp f4 (u15_ 1).toInt x1.toInt ((u78_ 1).toInt).toNat).2.1 ∧ (u78_ 0).toInt = (zp f4 (u15_ 1).toInt x1.toInt ((u78_ 1).toInt).toNat).2.2) ∧ (-1 ≤ (u78_ 0).toInt ∧ (u78_ 0).toInt < (u78_ 1).toInt) ∧ ((u78_ 1).toInt ≤ 1024) ∧ (0 ≤ (u78_ 2).toInt) ∧ (x2.toInt = x2.toInt) ∧ (zLr2 (a78_ 0) (u78_ 2).toInt (u78_ 0).toInt x2.toInt f2 f3 (v0 4).toInt f4 f6 f10 f11 (v0 13).toInt x1.toInt (u15_ 1).toInt (u78_ 1).toInt)) (fun ls u78_ w78_ => F0 m 78 ls []) 0 0 ?_ (fun hJ78 => ?_)
          · skip
            intro H locs ls u78_ w78_ a78_ b78_ hc hJ78
            obtain ⟨hP, hD, hS, hl, b_, b_, b_, hI78_0, b_, b_, b_, b_, hI78_5⟩ := hc
            refine lv_iload hx hb dX13_layOut_78 (lv_at hl 7 rfl) ?_
            refine lv_sipush (v := 1024) hx hb dX13_layOut_80 (by decide) ?_
            refine lv_icmp_ge (tgt := 128) hx hb dX13_layOut_83 (by decide) (fun c_ => ?_) (fun c_ => ?_)
            · skip
              have b_ := zT_ge rfl zk_1024 c_
              obtain ⟨z128, e_z128⟩ : ∃ z : Int32, z = (u15_ 1) + Int32.ofInt 1 := ⟨_, rfl⟩
              have b_ := zadd (x := (u15_ 1)) (y := Int32.ofInt 1) rfl (show (Int32.ofInt 1).toInt = 1 from by decide) e_z128 (by omega) (by omega)
              refine lv_iinc (v := z128) (lv' := [(4, .int z128), (0, .ref h0), (1, .int x1), (2, .int x2), (3, .int (u15_ 1)), (5, .int r38_), (6, .int (u78_ 0)), (7, .int (u78_ 1))]) hx hb dX13_layOut_128 hl (k := 4) rfl e_z128.symm (by decide) rfl (fun ls hl => ?_)
              have e9 : (z128.toInt).toNat = ((u15_ 1).toInt).toNat + 1 := by omega
              have e8 : (u78_ 2).toInt = (u15_ 2).toInt + zgam ((u15_ 1).toInt - (u15_ 0).toInt) + zgam r38_.toInt + (zp f4 (u15_ 1).toInt x1.toInt 1024).2.1 := by have q := hI78_0.1; rw [show ((u78_ 1).toInt).toNat = 1024 from by omega] at q; omega
              have hsl : zSl (u78_ 2).toInt (u15_ 1).toInt (zB f4 f6 x1.toInt  (z128.toInt).toNat).1 (zB f4 f6 x1.toInt  (z128.toInt).toNat).2 := by rw [e9, e8]; exact hst9.1
              have hly : zLy f2 f3 (v0 4).toInt f4 f6 f10 f11 (v0 13).toInt x1.toInt z128.toInt (u78_ 2).toInt (u15_ 1).toInt := zLy_s hI15_5 (by omega) (by omega) (by omega) (by rw [← e_z30]; omega) hX38_1 (by omega) (by omega) e8 rfl
              have hlq : zLq (a78_ 0) (u78_ 2).toInt (u15_ 1).toInt x2.toInt f2 f3 (v0 4).toInt f4 f6 f10 f11 (v0 13).toInt x1.toInt z128.toInt := zLq_s hI78_5 (by omega) (by omega) (by omega) (by omega) rfl rfl
              refine lv_goto (tgt := 15) hx hb dX13_layOut_131 (by decide) ?_
              have hc : va_P (dC, dI) vwCl [(h0, .inr (13, mX13 q0 (upd (upd v0 23 (u78_ 2)) 24 x2))), ((q0 7), zi k6 120 f6), ((q0 11), zi k10 120 f10), ((q0 5), zi k4 122880 f4), ((q0 12), zi k11 120 f11), ((q0 22), zi k16 40000 (a78_ 0)), ((q0 2), zi k2 4800 f2), ((q0 3), zi k3 400 f3)] H ∧ va_D A [(h0, .inr (13, mX13 q0 (upd (upd v0 23 (u78_ 2)) 24 x2))), ((q0 7), zi k6 120 f6), ((q0 11), zi k10 120 f10), ((q0 5), zi k4 122880 f4), ((q0 12), zi k11 120 f11), ((q0 22), zi k16 40000 (a78_ 0)), ((q0 2), zi k2 4800 f2), ((q0 3), zi k3 400 f3)] ∧ va_S A s.heap H locs ∧ lv_has ls 8 [(0, .ref h0), (1, .int x1), (2, .int x2), (3, .int (u15_ 1)), (4, .int z128)] ∧ ((-1) ≤ (u15_ 1).toInt ∧ (u15_ 1).toInt ≤ 119) ∧ (0 ≤ z128.toInt ∧ z128.toInt ≤ 120) ∧ (0 ≤ (u78_ 2).toInt ∧ (u78_ 2).toInt ≤ 2600021) ∧ (zSl (u78_ 2).toInt (u15_ 1).toInt (zB f4 f6 x1.toInt  (z128.toInt).toNat).1 (zB f4 f6 x1.toInt  (z128.toInt).toNat).2) ∧ (z128.toInt ≤ (v0 13).toInt) ∧ (x2.toInt = x2.toInt) ∧ (0 ≤ (u78_ 2).toInt) ∧ (-1 ≤ (u15_ 1).toInt ∧ (u15_ 1).toInt < z128.toInt) ∧ (zLy f2 f3 (v0 4).toInt f4 f6 f10 f11 (v0 13).toInt x1.toInt z128.toInt (u78_ 2).toInt (u15_ 1).toInt) ∧ (zLq (a78_ 0) (u78_ 2).toInt (u15_ 1).toInt x2.toInt f2 f3 (v0 4).toInt f4 f6 f10 f11 (v0 13).toInt x1.toInt z128.toInt) := ⟨hP, hD, hS, lv_sub hl [1, 2, 3, 4, 0] rfl, (by first | with_reducible assumption | exact ⟨by omega, by omega⟩), (by first | with_reducible assumption | exact ⟨by omega, by omega⟩), (by first | with_reducible assumption | exact ⟨by omega, by omega⟩), by first | exact hsl | (rw [zk_0, zk_m1]; exact ⟨Int.le_refl _, Int.le_refl _, Or.inl rfl⟩), by omega, by omega, by omega, by omega, by first | exact hly | exact zLy_0 (by decide) (by decide) (by decide), by first | exact hlq | exact zLq_0 (by decide) (by decide) (by decide)⟩
              exact hJ15 H locs ls (fun i => ([(u15_ 1), z128, (u78_ 2)] : List (Int32)).getD i 0) (fun _ => 0) (fun i => ([(a78_ 0)] : List (Nat → Int32)).getD i (fun _ => 0)) (fun _ => (fun _ => 0)) hc (show (120 - z128.toInt).toNat < (120 - (u15_ 1).toInt).toNat from by omega)
            · skip
              have b_ := zF_ge rfl zk_1024 c_
              refine lv_aload_n hx hb dX13_layOut_86 rfl (lv_at hl 0 rfl) ?_
              refine va_get (D := (dC, dI)) (ci := 13) (v := .ref (q0 5)) (C := RX13) (T := TX13) (N := 75) hx hb hG zuX13 hown hK hP 0 rfl rfl 5 (by decide) (hG _ zv1609) (fun _ h9 => h9) rfl dX13_layOut_87 ?_
              refine lv_sipush (v := 1024) hx hb dX13_layOut_90 (by decide) ?_
              refine lv_iload hx hb dX13_layOut_93 (lv_at hl 4 rfl) ?_
              refine lv_imul hx hb dX13_layOut_95 ?_
              refine lv_topi (fun z95 e_z95 => ?_)
              have b_ := zmul zk_1024 rfl e_z95 (by omega) (by omega)
              refine lv_iload hx hb dX13_layOut_96 (lv_at hl 7 rfl) ?_
              refine lv_iadd hx hb dX13_layOut_98 ?_
              refine lv_topi (fun z98 e_z98 => ?_)
              have b_ := zadd rfl rfl e_z98 (by omega) (by omega)
              refine va_sald hx hb hK hP 3 2 rfl rfl (zin_lit ⟨by omega, by omega⟩) dX13_layOut_99 ?_
              refine lv_topi (fun z99 e_z99 => ?_)
              have b_ : 0 ≤ z99.toInt ∧ z99.toInt ≤ 400 := by rw [e_z99]; exact hf4 _
              have hat : (f4 (1024 * (u15_ 1).toInt + (u78_ 1).toInt).toNat).toInt = z99.toInt := congrArg Int32.toInt ((e_z99.trans (zix (by omega))).symm)
              refine lv_iload_n hx hb dX13_layOut_100 rfl (lv_at hl 1 rfl) ?_
              refine lv_iconst (v := 1) hx hb dX13_layOut_101 (by decide) ?_
              refine lv_iadd hx hb dX13_layOut_102 ?_
              refine lv_topi (fun z102 e_z102 => ?_)
              have b_ := zadd rfl zk_1 e_z102 (by omega) (by omega)
              refine lv_icmp_eq (tgt := 109) hx hb dX13_layOut_103 (by decide) (fun c_ => ?_) (fun c_ => ?_)
              · skip
                have b_ := zT_eq rfl rfl c_
                refine lv_aload_n hx hb dX13_layOut_109 rfl (lv_at hl 0 rfl) ?_
                refine lv_iload hx hb dX13_layOut_110 (lv_at hl 7 rfl) ?_
                refine lv_iload hx hb dX13_layOut_112 (lv_at hl 6 rfl) ?_
                refine lv_isub hx hb dX13_layOut_114 ?_
                refine lv_topi (fun z114 e_z114 => ?_)
                have b_ := zsub rfl rfl e_z114 (by omega) (by omega)
                have hst := zpl_y (g := (u78_ 1).toInt) (f' := (u78_ 2).toInt + zgam ((u78_ 1).toInt - (u78_ 0).toInt)) (k' := (u78_ 1).toInt + 1) hI78_0 (by omega) (hat.trans (by omega)) rfl rfl rfl
                have hpm := zp_mono (ta := f4) (d := (u15_ 1).toInt) (w := x1.toInt) (j := ((u78_ 1).toInt + 1).toNat) (k := 1024) (by omega) (Nat.le_refl _)
                have b_ : zgam z114.toInt = zgam ((u78_ 1).toInt - (u78_ 0).toInt) := by rw [show z114.toInt = (u78_ 1).toInt - (u78_ 0).toInt from by omega]
                have b_ := zgam_1 (x := z114.toInt) (by omega)
                have b_ := hst.1
                have hPc := hP.sub (ws' := [(h0, .inr (13, mX13 q0 (upd (upd v0 23 (u78_ 2)) 24 x2))), ((q0 22), zi k16 40000 (a78_ 0))]) [0, 5] rfl
                have hDc := hD.sub (ws' := [(h0, .inr (13, mX13 q0 (upd (upd v0 23 (u78_ 2)) 24 x2))), ((q0 22), zi k16 40000 (a78_ 0))]) [0, 5] (by decide) rfl
                have hKc := hK.sub (tys' := [(k16, .byte)]) [4] rfl
                have hFc := va_free (wc := [(h0, .inr (13, mX13 q0 (upd (upd v0 23 (u78_ 2)) 24 x2))), ((q0 22), zi k16 40000 (a78_ 0))]) hD hS hA [0, 5] rfl
                refine va_callv (va_runV (As := [.int z114]) (rest := []) ⟨hx, hb, hml, hown, hG⟩ (p12_sX13_put_0 l dC dI adK adV h0 q0 k16 H.size (upd (upd v0 23 (u78_ 2)) 24 x2) (a78_ 0) z114 (zR_up2 (zR_updF hv0 23 rfl) 24 (show (0 : Int) ≤ (x2 : Int32).toInt ∧ (x2 : Int32).toInt ≤ (1 : Int) from (by first | with_reducible assumption | exact ⟨by omega, by omega⟩))) (show (1 : Int) ≤ (z114 : Int32).toInt ∧ (z114 : Int32).toInt ≤ (1200 : Int) from (by first | with_reducible assumption | exact ⟨by omega, by omega⟩)) (show x2.toInt = 1 → (u78_ 2).toInt + zgam z114.toInt ≤ 40000 from by omega) (show 0 ≤ (u78_ 2).toInt ∧ (u78_ 2).toInt ≤ 2600000 from by omega)) (cwV 1 hG (zgV zv1991 zv1993 zv74 zv142 zv1994) rfl rfl rfl (by decide +kernel) ⟨Nat.le_of_ble_eq_true rfl, Nat.le_of_ble_eq_true rfl⟩) ⟨zPc_blind, va_recv hKc hPc (ci := 13) (q0 := 0) rfl rfl, zPc_pre hPc hKc hDc hE hS hFc hZ⟩ rfl rfl hl.1 rfl (lv_room (Nat.le_of_ble_eq_true rfl)) dX13_layOut_115 ⟨Nat.le_of_ble_eq_true rfl, Nat.le_of_ble_eq_true rfl⟩) hS (fun q _ h => hFc q h) hFc (fun u115_ t H1 locs ht hvm hw hB hz1 hk1 hS => ?_)
                replace hw : (1 ≤ (u115_ 0).toInt ∧ (u115_ 0).toInt ≤ 2600021) ∧ ((u115_ 0).toInt = (u78_ 2).toInt + zgam z114.toInt) := hw
                obtain ⟨b_, hX115_0⟩ := hw
                obtain ⟨w115_, a115_, b115_, hB115_0, hP1, hK1, hD1⟩ := hB
                have hB115_0 : zPw (a78_ 0) (a115_ 0) (u78_ 2).toInt z114.toInt x2.toInt := hB115_0
                rw [ht] at hP1
                obtain ⟨hP, hD⟩ := va_join (wr := [((q0 7), zi k6 120 f6), ((q0 11), zi k10 120 f10), ((q0 5), zi k4 122880 f4), ((q0 12), zi k11 120 f11), ((q0 2), zi k2 4800 f2), ((q0 3), zi k3 400 f3)]) (w1 := [(h0, .inr (13, mX13 q0 (upd (upd v0 23 (u115_ 0)) 24 x2))), ((q0 22), zi k16 40000 (a115_ 0))]) hP hD [0, 5] [1, 2, 3, 4, 6, 7] rfl rfl (by decide) (by decide) hk1 hFc hP1 hD1
                have hP : va_P (dC, dI) vwCl [(h0, .inr (13, mX13 q0 (upd (upd v0 23 (u115_ 0)) 24 x2))), ((q0 7), zi k6 120 f6), ((q0 11), zi k10 120 f10), ((q0 5), zi k4 122880 f4), ((q0 12), zi k11 120 f11), ((q0 22), zi k16 40000 (a115_ 0)), ((q0 2), zi k2 4800 f2), ((q0 3), zi k3 400 f3)] H1 := hP.sub [6, 0, 1, 2, 3, 7, 4, 5] rfl
                have hD : va_D A [(h0, .inr (13, mX13 q0 (upd (upd v0 23 (u115_ 0)) 24 x2))), ((q0 7), zi k6 120 f6), ((q0 11), zi k10 120 f10), ((q0 5), zi k4 122880 f4), ((q0 12), zi k11 120 f11), ((q0 22), zi k16 40000 (a115_ 0)), ((q0 2), zi k2 4800 f2), ((q0 3), zi k3 400 f3)] := hD.sub [6, 0, 1, 2, 3, 7, 4, 5] (by decide) rfl
                generalize H1 = H at hP hS ⊢
                clear hz1
                refine lv_iload hx hb dX13_layOut_118 (lv_at hl 7 rfl) ?_
                refine lv_istore (lv' := [(6, .int (u78_ 1)), (0, .ref h0), (1, .int x1), (2, .int x2), (3, .int (u15_ 1)), (4, .int (u15_ 1)), (5, .int r38_), (7, .int (u78_ 1))]) hx hb dX13_layOut_120 hl (by decide) rfl (fun ls hl => ?_)
                obtain ⟨z122, e_z122⟩ : ∃ z : Int32, z = (u78_ 1) + Int32.ofInt 1 := ⟨_, rfl⟩
                have b_ := zadd (x := (u78_ 1)) (y := Int32.ofInt 1) rfl (show (Int32.ofInt 1).toInt = 1 from by decide) e_z122 (by omega) (by omega)
                refine lv_iinc (v := z122) (lv' := [(7, .int z122), (6, .int (u78_ 1)), (0, .ref h0), (1, .int x1), (2, .int x2), (3, .int (u15_ 1)), (4, .int (u15_ 1)), (5, .int r38_)]) hx hb dX13_layOut_122 hl (k := 7) rfl e_z122.symm (by decide) rfl (fun ls hl => ?_)
                have hpl : (u115_ 0).toInt = (u69_ 0).toInt + (zp f4 (u15_ 1).toInt x1.toInt (z122.toInt).toNat).2.1 ∧ (u78_ 1).toInt = (zp f4 (u15_ 1).toInt x1.toInt (z122.toInt).toNat).2.2 := zpl_y hI78_0 (by omega) (hat.trans (by omega)) (by omega) (by omega) (by omega)
                have hlr : zLr2 (a115_ 0) (u115_ 0).toInt (u78_ 1).toInt x2.toInt f2 f3 (v0 4).toInt f4 f6 f10 f11 (v0 13).toInt x1.toInt (u15_ 1).toInt z122.toInt := zLr2_y hI78_5 (by omega) (by omega) (by omega) (by omega) (by omega) hat (by omega) hB115_0 (by omega) hX115_0 (by omega) rfl
                refine lv_goto (tgt := 78) hx hb dX13_layOut_125 (by decide) ?_
                have hc : va_P (dC, dI) vwCl [(h0, .inr (13, mX13 q0 (upd (upd v0 23 (u115_ 0)) 24 x2))), ((q0 7), zi k6 120 f6), ((q0 11), zi k10 120 f10), ((q0 5), zi k4 122880 f4), ((q0 12), zi k11 120 f11), ((q0 22), zi k16 40000 (a115_ 0)), ((q0 2), zi k2 4800 f2), ((q0 3), zi k3 400 f3)] H ∧ va_D A [(h0, .inr (13, mX13 q0 (upd (upd v0 23 (u115_ 0)) 24 x2))), ((q0 7), zi k6 120 f6), ((q0 11), zi k10 120 f10), ((q0 5), zi k4 122880 f4), ((q0 12), zi k11 120 f11), ((q0 22), zi k16 40000 (a115_ 0)), ((q0 2), zi k2 4800 f2), ((q0 3), zi k3 400 f3)] ∧ va_S A s.heap H locs ∧ lv_has ls 8 [(0, .ref h0), (1, .int x1), (2, .int x2), (3, .int (u15_ 1)), (4, .int (u15_ 1)), (5, .int r38_), (6, .int (u78_ 1)), (7, .int z122)] ∧ ((-1) ≤ (u78_ 1).toInt ∧ (u78_ 1).toInt ≤ 1023) ∧ (0 ≤ z122.toInt ∧ z122.toInt ≤ 1024) ∧ (1 ≤ (u115_ 0).toInt ∧ (u115_ 0).toInt ≤ 2600021) ∧ ((u115_ 0).toInt = (u69_ 0).toInt + (zp f4 (u15_ 1).toInt x1.toInt (z122.toInt).toNat).2.1 ∧ (u78_ 1).toInt = (zp f4 (u15_ 1).toInt x1.toInt (z122.toInt).toNat).2.2) ∧ (-1 ≤ (u78_ 1).toInt ∧ (u78_ 1).toInt < z122.toInt) ∧ (z122.toInt ≤ 1024) ∧ (0 ≤ (u115_ 0).toInt) ∧ (x2.toInt = x2.toInt) ∧ (zLr2 (a115_ 0) (u115_ 0).toInt (u78_ 1).toInt x2.toInt f2 f3 (v0 4).toInt f4 f6 f10 f11 (v0 13).toInt x1.toInt (u15_ 1).toInt z122.toInt) := ⟨hP, hD, hS, lv_sub hl [2, 3, 4, 5, 6, 7, 1, 0] rfl, (by first | with_reducible assumption | exact ⟨by omega, by omega⟩), (by first | with_reducible assumption | exact ⟨by omega, by omega⟩), (by first | with_reducible assumption | exact ⟨by omega, by omega⟩), by first | exact hpl | exact zpl_0 (by omega) rfl (by omega), by omega, by omega, by omega, by omega, by first | exact hlr | exact zLr2_0 hI15_6 (by omega) (by omega) (by omega) hX38_1 (by omega) hB60_0 (by omega) hX60_0 hB69_0 hX69_0 (by decide) (by decide)⟩
                exact hJ78 H locs ls (fun i => ([(u78_ 1), z122, (u115_ 0)] : List (Int32)).getD i 0) (fun _ => 0) (fun i => ([(a115_ 0)] : List (Nat → Int32)).getD i (fun _ => 0)) (fun _ => (fun _ => 0)) hc (show (1024 - z122.toInt).toNat < (1024 - (u78_ 1).toInt).toNat from by omega)
              · skip
                have b_ := zF_eq rfl rfl c_
                refine lv_goto (tgt := 122) hx hb dX13_layOut_106 (by decide) ?_
                obtain ⟨z122, e_z122⟩ : ∃ z : Int32, z = (u78_ 1) + Int32.ofInt 1 := ⟨_, rfl⟩
                have b_ := zadd (x := (u78_ 1)) (y := Int32.ofInt 1) rfl (show (Int32.ofInt 1).toInt = 1 from by decide) e_z122 (by omega) (by omega)
                refine lv_iinc (v := z122) (lv' := [(7, .int z122), (0, .ref h0), (1, .int x1), (2, .int x2), (3, .int (u15_ 1)), (4, .int (u15_ 1)), (5, .int r38_), (6, .int (u78_ 0))]) hx hb dX13_layOut_122 hl (k := 7) rfl e_z122.symm (by decide) rfl (fun ls hl => ?_)
                have hpl : (u78_ 2).toInt = (u69_ 0).toInt + (zp f4 (u15_ 1).toInt x1.toInt (z122.toInt).toNat).2.1 ∧ (u78_ 0).toInt = (zp f4 (u15_ 1).toInt x1.toInt (z122.toInt).toNat).2.2 := zpl_n hI78_0 (by omega) (by rw [hat]; omega) (by omega) rfl rfl
                have hlr : zLr2 (a78_ 0) (u78_ 2).toInt (u78_ 0).toInt x2.toInt f2 f3 (v0 4).toInt f4 f6 f10 f11 (v0 13).toInt x1.toInt (u15_ 1).toInt z122.toInt := zLr2_n hI78_5 (by omega) (by omega) (by omega) (by omega) (by omega) hat (by omega) (by omega) rfl rfl
                refine lv_goto (tgt := 78) hx hb dX13_layOut_125 (by decide) ?_
                have hc : va_P (dC, dI) vwCl [(h0, .inr (13, mX13 q0 (upd (upd v0 23 (u78_ 2)) 24 x2))), ((q0 7), zi k6 120 f6), ((q0 11), zi k10 120 f10), ((q0 5), zi k4 122880 f4), ((q0 12), zi k11 120 f11), ((q0 22), zi k16 40000 (a78_ 0)), ((q0 2), zi k2 4800 f2), ((q0 3), zi k3 400 f3)] H ∧ va_D A [(h0, .inr (13, mX13 q0 (upd (upd v0 23 (u78_ 2)) 24 x2))), ((q0 7), zi k6 120 f6), ((q0 11), zi k10 120 f10), ((q0 5), zi k4 122880 f4), ((q0 12), zi k11 120 f11), ((q0 22), zi k16 40000 (a78_ 0)), ((q0 2), zi k2 4800 f2), ((q0 3), zi k3 400 f3)] ∧ va_S A s.heap H locs ∧ lv_has ls 8 [(0, .ref h0), (1, .int x1), (2, .int x2), (3, .int (u15_ 1)), (4, .int (u15_ 1)), (5, .int r38_), (6, .int (u78_ 0)), (7, .int z122)] ∧ ((-1) ≤ (u78_ 0).toInt ∧ (u78_ 0).toInt ≤ 1023) ∧ (0 ≤ z122.toInt ∧ z122.toInt ≤ 1024) ∧ (1 ≤ (u78_ 2).toInt ∧ (u78_ 2).toInt ≤ 2600021) ∧ ((u78_ 2).toInt = (u69_ 0).toInt + (zp f4 (u15_ 1).toInt x1.toInt (z122.toInt).toNat).2.1 ∧ (u78_ 0).toInt = (zp f4 (u15_ 1).toInt x1.toInt (z122.toInt).toNat).2.2) ∧ (-1 ≤ (u78_ 0).toInt ∧ (u78_ 0).toInt < z122.toInt) ∧ (z122.toInt ≤ 1024) ∧ (0 ≤ (u78_ 2).toInt) ∧ (x2.toInt = x2.toInt) ∧ (zLr2 (a78_ 0) (u78_ 2).toInt (u78_ 0).toInt x2.toInt f2 f3 (v0 4).toInt f4 f6 f10 f11 (v0 13).toInt x1.toInt (u15_ 1).toInt z122.toInt) := ⟨hP, hD, hS, lv_sub hl [1, 2, 3, 4, 5, 6, 7, 0] rfl, (by first | with_reducible assumption | exact ⟨by omega, by omega⟩), (by first | with_reducible assumption | exact ⟨by omega, by omega⟩), (by first | with_reducible assumption | exact ⟨by omega, by omega⟩), by first | exact hpl | exact zpl_0 (by omega) rfl (by omega), by omega, by omega, by omega, by omega, by first | exact hlr | exact zLr2_0 hI15_6 (by omega) (by omega) (by omega) hX38_1 (by omega) hB60_0 (by omega) hX60_0 hB69_0 hX69_0 (by decide) (by decide)⟩
                exact hJ78 H locs ls (fun i => ([(u78_ 0), z122, (u78_ 2)] : List (Int32)).getD i 0) (fun _ => 0) (fun i => ([(a78_ 0)] : List (Nat → Int32)).getD i (fun _ => 0)) (fun _ => (fun _ => 0)) hc (show (1024 - z122.toInt).toNat < (1024 - (u78_ 1).toInt).toNat from by omega)
          · skip
            have hc : va_P (dC, dI) vwCl [(h0, .inr (13, mX13 q0 (upd (upd v0 23 (u69_ 0)) 24 x2))), ((q0 7), zi k6 120 f6), ((q0 11), zi k10 120 f10), ((q0 5), zi k4 122880 f4), ((q0 12), zi k11 120 f11), ((q0 22), zi k16 40000 (a69_ 0)), ((q0 2), zi k2 4800 f2), ((q0 3), zi k3 400 f3)] H ∧ va_D A [(h0, .inr (13, mX13 q0 (upd (upd v0 23 (u69_ 0)) 24 x2))), ((q0 7), zi k6 120 f6), ((q0 11), zi k10 120 f10), ((q0 5), zi k4 122880 f4), ((q0 12), zi k11 120 f11), ((q0 22), zi k16 40000 (a69_ 0)), ((q0 2), zi k2 4800 f2), ((q0 3), zi k3 400 f3)] ∧ va_S A s.heap H locs ∧ lv_has ls 8 [(0, .ref h0), (1, .int x1), (2, .int x2), (3, .int (u15_ 1)), (4, .int (u15_ 1)), (5, .int r38_), (6, .int (-1)), (7, .int 0)] ∧ ((-1) ≤ ((-1) : Int32).toInt ∧ ((-1) : Int32).toInt ≤ 1023) ∧ (0 ≤ (0 : Int32).toInt ∧ (0 : Int32).toInt ≤ 1024) ∧ (1 ≤ (u69_ 0).toInt ∧ (u69_ 0).toInt ≤ 2600021) ∧ ((u69_ 0).toInt = (u69_ 0).toInt + (zp f4 (u15_ 1).toInt x1.toInt ((0 : Int32).toInt).toNat).2.1 ∧ ((-1) : Int32).toInt = (zp f4 (u15_ 1).toInt x1.toInt ((0 : Int32).toInt).toNat).2.2) ∧ (-1 ≤ ((-1) : Int32).toInt ∧ ((-1) : Int32).toInt < (0 : Int32).toInt) ∧ ((0 : Int32).toInt ≤ 1024) ∧ (0 ≤ (u69_ 0).toInt) ∧ (x2.toInt = x2.toInt) ∧ (zLr2 (a69_ 0) (u69_ 0).toInt ((-1) : Int32).toInt x2.toInt f2 f3 (v0 4).toInt f4 f6 f10 f11 (v0 13).toInt x1.toInt (u15_ 1).toInt (0 : Int32).toInt) := ⟨hP, hD, hS, lv_sub hl [4, 5, 6, 2, 7, 3, 1, 0] rfl, (by first | with_reducible assumption | exact ⟨by omega, by omega⟩), (by first | with_reducible assumption | exact ⟨by omega, by omega⟩), (by first | with_reducible assumption | exact ⟨by omega, by omega⟩), by first | exact hpl | exact zpl_0 (by omega) rfl (by omega), by omega, by omega, by omega, by omega, by first | exact hlr | exact zLr2_0 hI15_6 (by omega) (by omega) (by omega) hX38_1 (by omega) hB60_0 (by omega) hX60_0 hB69_0 hX69_0 (by decide) (by decide)⟩
            exact hJ78 H locs ls (fun i => ([(-1), 0, (u69_ 0)] : List (Int32)).getD i 0) (fun _ => 0) (fun i => ([(a69_ 0)] : List (Nat → Int32)).getD i (fun _ => 0)) (fun _ => (fun _ => 0)) hc
        · skip
          have b_ := zF_ne rfl zk_0 c_
          refine lv_goto (tgt := 128) hx hb dX13_layOut_52 (by decide) ?_
          obtain ⟨z128, e_z128⟩ : ∃ z : Int32, z = (u15_ 1) + Int32.ofInt 1 := ⟨_, rfl⟩
          have b_ := zadd (x := (u15_ 1)) (y := Int32.ofInt 1) rfl (show (Int32.ofInt 1).toInt = 1 from by decide) e_z128 (by omega) (by omega)
          refine lv_iinc (v := z128) (lv' := [(4, .int z128), (5, .int r38_), (0, .ref h0), (1, .int x1), (2, .int x2), (3, .int (u15_ 0))]) hx hb dX13_layOut_128 hl (k := 5) rfl e_z128.symm (by decide) rfl (fun ls hl => ?_)
          have e9 : (z128.toInt).toNat = ((u15_ 1).toInt).toNat + 1 := by omega
          have hsl : zSl (u15_ 2).toInt (u15_ 0).toInt (zB f4 f6 x1.toInt  (z128.toInt).toNat).1 (zB f4 f6 x1.toInt  (z128.toInt).toNat).2 := by rw [e9]; exact zSl_d hI15_0 (by omega)
          have hly : zLy f2 f3 (v0 4).toInt f4 f6 f10 f11 (v0 13).toInt x1.toInt z128.toInt (u15_ 2).toInt (u15_ 0).toInt := zLy_z hI15_5 (by omega) (by omega) (by omega) (by rw [← e_z30]; omega) hX38_1 (by omega) (by omega) rfl rfl
          have hlq : zLq (a15_ 0) (u15_ 2).toInt (u15_ 0).toInt x2.toInt f2 f3 (v0 4).toInt f4 f6 f10 f11 (v0 13).toInt x1.toInt z128.toInt := zLq_z hI15_6 (by omega) (by omega) (by omega) hX38_1 (by omega) (by omega) rfl rfl
          refine lv_goto (tgt := 15) hx hb dX13_layOut_131 (by decide) ?_
          have hc : va_P (dC, dI) vwCl [(h0, .inr (13, mX13 q0 (upd (upd v0 23 (u15_ 2)) 24 x2))), ((q0 7), zi k6 120 f6), ((q0 11), zi k10 120 f10), ((q0 5), zi k4 122880 f4), ((q0 12), zi k11 120 f11), ((q0 22), zi k16 40000 (a15_ 0)), ((q0 2), zi k2 4800 f2), ((q0 3), zi k3 400 f3)] H ∧ va_D A [(h0, .inr (13, mX13 q0 (upd (upd v0 23 (u15_ 2)) 24 x2))), ((q0 7), zi k6 120 f6), ((q0 11), zi k10 120 f10), ((q0 5), zi k4 122880 f4), ((q0 12), zi k11 120 f11), ((q0 22), zi k16 40000 (a15_ 0)), ((q0 2), zi k2 4800 f2), ((q0 3), zi k3 400 f3)] ∧ va_S A s.heap H locs ∧ lv_has ls 8 [(0, .ref h0), (1, .int x1), (2, .int x2), (3, .int (u15_ 0)), (4, .int z128)] ∧ ((-1) ≤ (u15_ 0).toInt ∧ (u15_ 0).toInt ≤ 119) ∧ (0 ≤ z128.toInt ∧ z128.toInt ≤ 120) ∧ (0 ≤ (u15_ 2).toInt ∧ (u15_ 2).toInt ≤ 2600021) ∧ (zSl (u15_ 2).toInt (u15_ 0).toInt (zB f4 f6 x1.toInt  (z128.toInt).toNat).1 (zB f4 f6 x1.toInt  (z128.toInt).toNat).2) ∧ (z128.toInt ≤ (v0 13).toInt) ∧ (x2.toInt = x2.toInt) ∧ (0 ≤ (u15_ 2).toInt) ∧ (-1 ≤ (u15_ 0).toInt ∧ (u15_ 0).toInt < z128.toInt) ∧ (zLy f2 f3 (v0 4).toInt f4 f6 f10 f11 (v0 13).toInt x1.toInt z128.toInt (u15_ 2).toInt (u15_ 0).toInt) ∧ (zLq (a15_ 0) (u15_ 2).toInt (u15_ 0).toInt x2.toInt f2 f3 (v0 4).toInt f4 f6 f10 f11 (v0 13).toInt x1.toInt z128.toInt) := ⟨hP, hD, hS, lv_sub hl [2, 3, 4, 5, 0] rfl, (by first | with_reducible assumption | exact ⟨by omega, by omega⟩), (by first | with_reducible assumption | exact ⟨by omega, by omega⟩), (by first | with_reducible assumption | exact ⟨by omega, by omega⟩), by first | exact hsl | (rw [zk_0, zk_m1]; exact ⟨Int.le_refl _, Int.le_refl _, Or.inl rfl⟩), by omega, by omega, by omega, by omega, by first | exact hly | exact zLy_0 (by decide) (by decide) (by decide), by first | exact hlq | exact zLq_0 (by decide) (by decide) (by decide)⟩
          exact hJ15 H locs ls (fun i => ([(u15_ 0), z128, (u15_ 2)] : List (Int32)).getD i 0) (fun _ => 0) (fun i => ([(a15_ 0)] : List (Nat → Int32)).getD i (fun _ => 0)) (fun _ => (fun _ => 0)) hc (show (120 - z128.toInt).toNat < (120 - (u15_ 1).toInt).toNat from by omega)
  · skip
    have hc : va_P (dC, dI) vwCl [(h0, .inr (13, mX13 q0 (upd (upd v0 23 0) 24 x2))), ((q0 7), zi k6 120 f6), ((q0 11), zi k10 120 f10), ((q0 5), zi k4 122880 f4), ((q0 12), zi k11 120 f11), ((q0 22), zi k16 40000 f16), ((q0 2), zi k2 4800 f2), ((q0 3), zi k3 400 f3)] H ∧ va_D A [(h0, .inr (13, mX13 q0 (upd (upd v0 23 0) 24 x2))), ((q0 7), zi k6 120 f6), ((q0 11), zi k10 120 f10), ((q0 5), zi k4 122880 f4), ((q0 12), zi k11 120 f11), ((q0 22), zi k16 40000 f16), ((q0 2), zi k2 4800 f2), ((q0 3), zi k3 400 f3)] ∧ va_S A s.heap H locs ∧ lv_has ls 8 [(0, .ref h0), (1, .int x1), (2, .int x2), (3, .int (-1)), (4, .int 0)] ∧ ((-1) ≤ ((-1) : Int32).toInt ∧ ((-1) : Int32).toInt ≤ 119) ∧ (0 ≤ (0 : Int32).toInt ∧ (0 : Int32).toInt ≤ 120) ∧ (0 ≤ (0 : Int32).toInt ∧ (0 : Int32).toInt ≤ 2600021) ∧ (zSl (0 : Int32).toInt ((-1) : Int32).toInt (zB f4 f6 x1.toInt  ((0 : Int32).toInt).toNat).1 (zB f4 f6 x1.toInt  ((0 : Int32).toInt).toNat).2) ∧ ((0 : Int32).toInt ≤ (v0 13).toInt) ∧ (x2.toInt = x2.toInt) ∧ (0 ≤ (0 : Int32).toInt) ∧ (-1 ≤ ((-1) : Int32).toInt ∧ ((-1) : Int32).toInt < (0 : Int32).toInt) ∧ (zLy f2 f3 (v0 4).toInt f4 f6 f10 f11 (v0 13).toInt x1.toInt (0 : Int32).toInt (0 : Int32).toInt ((-1) : Int32).toInt) ∧ (zLq f16 (0 : Int32).toInt ((-1) : Int32).toInt x2.toInt f2 f3 (v0 4).toInt f4 f6 f10 f11 (v0 13).toInt x1.toInt (0 : Int32).toInt) := ⟨hP, hD, hS, lv_sub hl [2, 3, 4, 1, 0] rfl, (by first | with_reducible assumption | exact ⟨by omega, by omega⟩), (by first | with_reducible assumption | exact ⟨by omega, by omega⟩), (by first | with_reducible assumption | exact ⟨by omega, by omega⟩), by first | exact hsl | (rw [zk_0, zk_m1]; exact ⟨Int.le_refl _, Int.le_refl _, Or.inl rfl⟩), by omega, by omega, by omega, by omega, by first | exact hly | exact zLy_0 (by decide) (by decide) (by decide), by first | exact hlq | exact zLq_0 (by decide) (by decide) (by decide)⟩
    exact hJ15 H locs ls (fun i => ([(-1), 0, 0] : List (Int32)).getD i 0) (fun _ => 0) (fun i => ([f16] : List (Nat → Int32)).getD i (fun _ => 0)) (fun _ => (fun _ => 0)) hc
set_option maxHeartbeats 8000000 in
set_option maxRecDepth 100000 in
theorem p12_sX13_bit_0 (l : Launch) (dC : Nat → ClassId) (dI : Nat → Nat → Nat) (adK adV : Nat → Nat) (h0 : Nat) (q0 : Nat → Nat) (k14 : ClassId) (k15 : ClassId) (k3 : ClassId) (k2 : ClassId) (k6 : ClassId) (k10 : ClassId) (k4 : ClassId) (k11 : ClassId) (k16 : ClassId) (sz : Nat) (v0 : Nat → Int32) (f14 : Nat → Int32) (f15 : Nat → Int32) (f3 : Nat → Int32) (f2 : Nat → Int32) (f6 : Nat → Int32) (f10 : Nat → Int32) (f4 : Nat → Int32) (f11 : Nat → Int32) (f16 : Nat → Int32) (x1 : Int32) (hv0 : zR rg_Model v0) (hf3 : zA 0 12 f3) (hf10 : zA 0 512 f10) (hf4 : zA 0 400 f4) (hf11 : zA 0 512 f11) (hp0_ : zJ f4 f6 (v0 4).toInt (v0 13).toInt) : Met l yX13_bit (zw yX13_bit cX13_bit 3 (some .int)) { frames := 3, cells := 0, slots := 0, locals := 72 } (zPc dC dI adK adV [.ref h0, .int x1] sz [(h0, .inr (13, mX13 q0 v0)), ((q0 17), zi k14 12 f14), ((q0 19), zi k15 12 f15), ((q0 3), zi k3 400 f3), ((q0 2), zi k2 4800 f2), ((q0 7), zi k6 120 f6), ((q0 11), zi k10 120 f10), ((q0 5), zi k4 122880 f4), ((q0 12), zi k11 120 f11), ((q0 22), zi k16 40000 f16)] [(k14, .byte), (k15, .byte), (k3, .int), (k2, .byte), (k6, .boolean), (k10, .int), (k4, .short), (k11, .int), (k16, .byte)]) (va_Qi (fun (r : Int32) (u : Nat → Int32) => (0 ≤ (u 0).toInt ∧ (u 0).toInt ≤ 12) ∧ (0 ≤ (u 1).toInt ∧ (u 1).toInt ≤ 1) ∧ (0 ≤ (u 3).toInt ∧ (u 3).toInt ≤ 1) ∧ (r.toInt = (u 4).toInt)) (fun (u : Nat → Int32) (t : State) => ∃ (ww : Nat → Int64) (aa : Nat → Nat → Int32) (bb : Nat → Nat → Int64), (zbR f14 (v0 18).toInt f2 f3 (v0 4).toInt f4 f6 f10 f11 (v0 13).toInt x1.toInt (u 1).toInt (u 4).toInt) ∧ va_P (dC, dI) vwCl [(h0, .inr (13, mX13 q0 (upd (upd (upd (upd v0 20 (u 0)) 21 (u 1)) 23 (u 2)) 24 (u 3)))), ((q0 17), zi k14 12 f14), ((q0 19), zi k15 12 (aa 0)), ((q0 3), zi k3 400 f3), ((q0 2), zi k2 4800 f2), ((q0 7), zi k6 120 f6), ((q0 11), zi k10 120 f10), ((q0 5), zi k4 122880 f4), ((q0 12), zi k11 120 f11), ((q0 22), zi k16 40000 (aa 1))] t.heap ∧ va_K (dC, dI) vwCl [(k14, .byte), (k15, .byte), (k3, .int), (k2, .byte), (k6, .boolean), (k10, .int), (k4, .short), (k11, .int), (k16, .byte)] t ∧ va_D (va_A [(h0, .inr (13, mX13 q0 v0)), ((q0 17), zi k14 12 f14), ((q0 19), zi k15 12 f15), ((q0 3), zi k3 400 f3), ((q0 2), zi k2 4800 f2), ((q0 7), zi k6 120 f6), ((q0 11), zi k10 120 f10), ((q0 5), zi k4 122880 f4), ((q0 12), zi k11 120 f11), ((q0 22), zi k16 40000 f16)] sz) [(h0, .inr (13, mX13 q0 (upd (upd (upd (upd v0 20 (u 0)) 21 (u 1)) 23 (u 2)) 24 (u 3)))), ((q0 17), zi k14 12 f14), ((q0 19), zi k15 12 (aa 0)), ((q0 3), zi k3 400 f3), ((q0 2), zi k2 4800 f2), ((q0 7), zi k6 120 f6), ((q0 11), zi k10 120 f10), ((q0 5), zi k4 122880 f4), ((q0 12), zi k11 120 f11), ((q0 22), zi k16 40000 (aa 1))]) (va_A [(h0, .inr (13, mX13 q0 v0)), ((q0 17), zi k14 12 f14), ((q0 19), zi k15 12 f15), ((q0 3), zi k3 400 f3), ((q0 2), zi k2 4800 f2), ((q0 7), zi k6 120 f6), ((q0 11), zi k10 120 f10), ((q0 5), zi k4 122880 f4), ((q0 12), zi k11 120 f11), ((q0 22), zi k16 40000 f16)] sz)) 0 0 (va_A [(h0, .inr (13, mX13 q0 v0)), ((q0 17), zi k14 12 f14), ((q0 19), zi k15 12 f15), ((q0 3), zi k3 400 f3), ((q0 2), zi k2 4800 f2), ((q0 7), zi k6 120 f6), ((q0 11), zi k10 120 f10), ((q0 5), zi k4 122880 f4), ((q0 12), zi k11 120 f11), ((q0 22), zi k16 40000 f16)] sz) := by
  refine Met.ofW (cc := cX13_bit) (maxL := 3) (ret := (some .int)) (by decide) rfl ?_
  intro p e s m args below meth c s₁ B hml hv
  obtain ⟨rfl, hsz, hP, hK, hD0, hE, hZ⟩ := hv
  have hx := B.exec
  have hb := B.bytes
  have hr := B.returns
  have hG : ∀ w ∈ zG, w.before _ s = true := fun w h => atoms_spec (ws := (zw yX13_bit cX13_bit 3 (some .int))) B.pre w (List.mem_cons_of_mem _ h)
  have hown : s.vm.findClass RX13 = some m.cls := findClass_of_methodNamed B.named
  have hlocks := B.notSynchronized

  subst hsz
  have hD := hD0.self (sz := s.heap.size)
  generalize hAe : va_A [(h0, .inr (13, mX13 q0 v0)), ((q0 17), zi k14 12 f14), ((q0 19), zi k15 12 f15), ((q0 3), zi k3 400 f3), ((q0 2), zi k2 4800 f2), ((q0 7), zi k6 120 f6), ((q0 11), zi k10 120 f10), ((q0 5), zi k4 122880 f4), ((q0 12), zi k11 120 f11), ((q0 22), zi k16 40000 f16)] s.heap.size = A at hD hZ ⊢
  have hA : ∀ q : Nat, s.heap.size ≤ q → A q := fun q h => by rw [← hAe]; exact Or.inr h
  have hS : va_S A s.heap s.heap [] := va_S.rf
  have hl := lv_entry ([.ref h0, .int x1]) (n := 3) (Nat.le_of_ble_eq_true rfl)
  rw [lg_entry_eq]
  generalize (lg_sl ([.ref h0, .int x1]) ++ List.replicate (3 - (lg_sl ([.ref h0, .int x1])).length) Slot.unset).toArray = ls at hl ⊢
  have hl : lv_has ls 3 [(0, .ref h0), (1, .int x1)] := hl
  have b_ := zk_0
  have b_ := zk_1
  have b_ : 0 ≤ (v0 4).toInt ∧ (v0 4).toInt ≤ 400 := hv0 4
  have b_ : 0 ≤ (v0 13).toInt ∧ (v0 13).toInt ≤ 120 := hv0 13
  refine lv_aload_n hx hb dX13_bit_0 rfl (lv_at hl 0 rfl) ?_
  refine lv_iconst (v := 0) hx hb dX13_bit_1 (by decide) ?_
  refine va_put (D := (dC, dI)) (ci := 13) (v := .int 0) (ty := .int) (C := RX13) (T := TX13) (N := 75) hx hb hG zuX13 tyX13 tyX13_ok nmX13 hown hK hP hD hS 0 rfl rfl 21 (by decide) (hG _ zv1625) (fun _ h9 => h9) rfl (by decide +kernel) rfl rfl (Nat.le_of_ble_eq_true rfl) dX13_bit_2 (fun H locs hP hD hS => ?_)
  have hP : va_P (dC, dI) vwCl [(h0, .inr (13, mX13 q0 (upd v0 21 0))), ((q0 17), zi k14 12 f14), ((q0 19), zi k15 12 f15), ((q0 3), zi k3 400 f3), ((q0 2), zi k2 4800 f2), ((q0 7), zi k6 120 f6), ((q0 11), zi k10 120 f10), ((q0 5), zi k4 122880 f4), ((q0 12), zi k11 120 f11), ((q0 22), zi k16 40000 f16)] H := hP
  have hD : va_D A [(h0, .inr (13, mX13 q0 (upd v0 21 0))), ((q0 17), zi k14 12 f14), ((q0 19), zi k15 12 f15), ((q0 3), zi k3 400 f3), ((q0 2), zi k2 4800 f2), ((q0 7), zi k6 120 f6), ((q0 11), zi k10 120 f10), ((q0 5), zi k4 122880 f4), ((q0 12), zi k11 120 f11), ((q0 22), zi k16 40000 f16)] := hD
  refine lv_aload_n hx hb dX13_bit_5 rfl (lv_at hl 0 rfl) ?_
  have hPc := hP.sub (ws' := [(h0, .inr (13, mX13 q0 (upd v0 21 0))), ((q0 17), zi k14 12 f14), ((q0 19), zi k15 12 f15), ((q0 3), zi k3 400 f3), ((q0 2), zi k2 4800 f2)]) [0, 1, 2, 3, 4] rfl
  have hDc := hD.sub (ws' := [(h0, .inr (13, mX13 q0 (upd v0 21 0))), ((q0 17), zi k14 12 f14), ((q0 19), zi k15 12 f15), ((q0 3), zi k3 400 f3), ((q0 2), zi k2 4800 f2)]) [0, 1, 2, 3, 4] (by decide) rfl
  have hKc := hK.sub (tys' := [(k14, .byte), (k15, .byte), (k3, .int), (k2, .byte)]) [0, 1, 2, 3] rfl
  have hFc := va_free (wc := [(h0, .inr (13, mX13 q0 (upd v0 21 0))), ((q0 17), zi k14 12 f14), ((q0 19), zi k15 12 f15), ((q0 3), zi k3 400 f3), ((q0 2), zi k2 4800 f2)]) hD hS hA [0, 1, 2, 3, 4] rfl
  refine va_calli (va_runV (As := []) (rest := []) ⟨hx, hb, hml, hown, hG⟩ (p12_sX13_lookedWord_0 l dC dI adK adV h0 q0 k14 k15 k3 k2 H.size (upd v0 21 0) f14 f15 f3 f2 (zR_updF hv0 21 rfl) hf3) (cwV 0 hG (zgV zv1983 zv1985 zv72 zv142 zv1986) rfl rfl rfl (by decide +kernel) ⟨Nat.le_of_ble_eq_true rfl, Nat.le_of_ble_eq_true rfl⟩) ⟨zPc_blind, va_recv hKc hPc (ci := 13) (q0 := 0) rfl rfl, zPc_pre hPc hKc hDc hE hS hFc hZ⟩ rfl rfl hl.1 rfl (lv_room (Nat.le_of_ble_eq_true rfl)) dX13_bit_6 ⟨Nat.le_of_ble_eq_true rfl, Nat.le_of_ble_eq_true rfl⟩) hS (fun q _ h => hFc q h) hFc (fun r6_ u6_ t H1 locs ht hvm hw hB hz1 hk1 hS => ?_)
  replace hw : ((-1) ≤ r6_.toInt ∧ r6_.toInt ≤ 399) ∧ (0 ≤ (u6_ 0).toInt ∧ (u6_ 0).toInt ≤ 12) ∧ (r6_.toInt < (v0 4).toInt) ∧ (zLw f14 (v0 18).toInt f2 f3 (v0 4).toInt r6_.toInt) := hw
  obtain ⟨b_, b_, hX6_0, hX6_1⟩ := hw
  obtain ⟨w6_, a6_, b6_, hP1, hK1, hD1⟩ := hB
  rw [ht] at hP1
  obtain ⟨hP, hD⟩ := va_join (wr := [((q0 7), zi k6 120 f6), ((q0 11), zi k10 120 f10), ((q0 5), zi k4 122880 f4), ((q0 12), zi k11 120 f11), ((q0 22), zi k16 40000 f16)]) (w1 := [(h0, .inr (13, mX13 q0 (upd (upd v0 20 (u6_ 0)) 21 0))), ((q0 17), zi k14 12 f14), ((q0 19), zi k15 12 (a6_ 0)), ((q0 3), zi k3 400 f3), ((q0 2), zi k2 4800 f2)]) hP hD [0, 1, 2, 3, 4] [5, 6, 7, 8, 9] rfl rfl (by decide) (by decide) hk1 hFc hP1 hD1
  have hP : va_P (dC, dI) vwCl [(h0, .inr (13, mX13 q0 (upd (upd v0 20 (u6_ 0)) 21 0))), ((q0 17), zi k14 12 f14), ((q0 19), zi k15 12 (a6_ 0)), ((q0 3), zi k3 400 f3), ((q0 2), zi k2 4800 f2), ((q0 7), zi k6 120 f6), ((q0 11), zi k10 120 f10), ((q0 5), zi k4 122880 f4), ((q0 12), zi k11 120 f11), ((q0 22), zi k16 40000 f16)] H1 := hP.sub [5, 6, 7, 8, 9, 0, 1, 2, 3, 4] rfl
  have hD : va_D A [(h0, .inr (13, mX13 q0 (upd (upd v0 20 (u6_ 0)) 21 0))), ((q0 17), zi k14 12 f14), ((q0 19), zi k15 12 (a6_ 0)), ((q0 3), zi k3 400 f3), ((q0 2), zi k2 4800 f2), ((q0 7), zi k6 120 f6), ((q0 11), zi k10 120 f10), ((q0 5), zi k4 122880 f4), ((q0 12), zi k11 120 f11), ((q0 22), zi k16 40000 f16)] := hD.sub [5, 6, 7, 8, 9, 0, 1, 2, 3, 4] (by decide) rfl
  generalize H1 = H at hP hS ⊢
  clear hz1
  refine lv_istore_n (lv' := [(2, .int r6_), (0, .ref h0), (1, .int x1)]) hx hb dX13_bit_9 rfl hl (by decide) rfl (fun ls hl => ?_)
  refine lv_iload_n hx hb dX13_bit_10 rfl (lv_at hl 0 rfl) ?_
  refine lv_iconst (v := (-1)) hx hb dX13_bit_11 (by decide) ?_
  refine lv_icmp_eq (tgt := 29) hx hb dX13_bit_12 (by decide) (fun c_ => ?_) (fun c_ => ?_)
  · skip
    have b_ := zT_eq rfl zk_m1 c_
    refine lv_aload_n hx hb dX13_bit_29 rfl (lv_at hl 1 rfl) ?_
    have hPc := hP.sub (ws' := [(h0, .inr (13, mX13 q0 (upd (upd v0 20 (u6_ 0)) 21 0)))]) [0] rfl
    have hDc := hD.sub (ws' := [(h0, .inr (13, mX13 q0 (upd (upd v0 20 (u6_ 0)) 21 0)))]) [0] (by decide) rfl
    have hKc := hK.sub (tys' := []) [] rfl
    have hFc := va_free (wc := [(h0, .inr (13, mX13 q0 (upd (upd v0 20 (u6_ 0)) 21 0)))]) hD hS hA [0] rfl
    refine va_calli (va_runV (As := []) (rest := []) ⟨hx, hb, hml, hown, hG⟩ (sX13_refuse_0 l dC dI adK adV h0 q0 H.size (upd (upd v0 20 (u6_ 0)) 21 0) (zR_updF (zR_up2 hv0 20 (show (0 : Int) ≤ ((u6_ 0) : Int32).toInt ∧ ((u6_ 0) : Int32).toInt ≤ (12 : Int) from (by first | with_reducible assumption | exact ⟨by omega, by omega⟩))) 21 rfl)) (cwV 0 hG (zgV zv1959 zv1961 zv68 zv142 zv1962) rfl rfl rfl (by decide +kernel) ⟨Nat.le_of_ble_eq_true rfl, Nat.le_of_ble_eq_true rfl⟩) ⟨zPc_blind, va_recv hKc hPc (ci := 13) (q0 := 0) rfl rfl, zPc_pre hPc hKc hDc hE hS hFc hZ⟩ rfl rfl hl.1 rfl (lv_room (Nat.le_of_ble_eq_true rfl)) dX13_bit_30 ⟨Nat.le_of_ble_eq_true rfl, Nat.le_of_ble_eq_true rfl⟩) hS (fun q _ h => hFc q h) hFc (fun r30_ u30_ t H1 locs ht hvm hw hB hz1 hk1 hS => ?_)
    replace hw : (0 ≤ r30_.toInt ∧ r30_.toInt ≤ 0) ∧ (1 ≤ (u30_ 0).toInt ∧ (u30_ 0).toInt ≤ 1) := hw
    obtain ⟨b_, b_⟩ := hw
    obtain rfl : r30_ = (0 : Int32) := zeqi.mpr ((show r30_.toInt = 0 from by omega).trans zk_0.symm)
    obtain ⟨w30_, a30_, b30_, hP1, hK1, hD1⟩ := hB
    rw [ht] at hP1
    obtain ⟨hP, hD⟩ := va_join (wr := [((q0 17), zi k14 12 f14), ((q0 19), zi k15 12 (a6_ 0)), ((q0 3), zi k3 400 f3), ((q0 2), zi k2 4800 f2), ((q0 7), zi k6 120 f6), ((q0 11), zi k10 120 f10), ((q0 5), zi k4 122880 f4), ((q0 12), zi k11 120 f11), ((q0 22), zi k16 40000 f16)]) (w1 := [(h0, .inr (13, mX13 q0 (upd (upd v0 20 (u6_ 0)) 21 (u30_ 0))))]) hP hD [0] [1, 2, 3, 4, 5, 6, 7, 8, 9] rfl rfl (by decide) (by decide) hk1 hFc hP1 hD1
    have hP : va_P (dC, dI) vwCl [(h0, .inr (13, mX13 q0 (upd (upd v0 20 (u6_ 0)) 21 (u30_ 0)))), ((q0 17), zi k14 12 f14), ((q0 19), zi k15 12 (a6_ 0)), ((q0 3), zi k3 400 f3), ((q0 2), zi k2 4800 f2), ((q0 7), zi k6 120 f6), ((q0 11), zi k10 120 f10), ((q0 5), zi k4 122880 f4), ((q0 12), zi k11 120 f11), ((q0 22), zi k16 40000 f16)] H1 := hP.sub [9, 0, 1, 2, 3, 4, 5, 6, 7, 8] rfl
    have hD : va_D A [(h0, .inr (13, mX13 q0 (upd (upd v0 20 (u6_ 0)) 21 (u30_ 0)))), ((q0 17), zi k14 12 f14), ((q0 19), zi k15 12 (a6_ 0)), ((q0 3), zi k3 400 f3), ((q0 2), zi k2 4800 f2), ((q0 7), zi k6 120 f6), ((q0 11), zi k10 120 f10), ((q0 5), zi k4 122880 f4), ((q0 12), zi k11 120 f11), ((q0 22), zi k16 40000 f16)] := hD.sub [9, 0, 1, 2, 3, 4, 5, 6, 7, 8] (by decide) rfl
    generalize H1 = H at hP hS ⊢
    clear hz1
    refine W.widen (k := 0) (n := 0) (by decide) (by decide) ?_
    have b_ : -2147483648 ≤ (v0 23).toInt ∧ (v0 23).toInt ≤ 2147483647 := ⟨zlo _, zhi _⟩
    have b_ : 0 ≤ (v0 24).toInt ∧ (v0 24).toInt ≤ 1 := hv0 24
    have hpost : (0 ≤ (u6_ 0).toInt ∧ (u6_ 0).toInt ≤ 12) ∧ (0 ≤ (u30_ 0).toInt ∧ (u30_ 0).toInt ≤ 1) ∧ (0 ≤ (v0 24).toInt ∧ (v0 24).toInt ≤ 1) ∧ ((0 : Int32).toInt = (0 : Int32).toInt) := ⟨(by first | with_reducible assumption | exact ⟨by omega, by omega⟩), (by first | with_reducible assumption | exact ⟨by omega, by omega⟩), (by first | with_reducible assumption | exact ⟨by omega, by omega⟩), rfl⟩
    have hP9 : va_P (dC, dI) vwCl [(h0, .inr (13, mX13 q0 (upd (upd (upd (upd v0 20 (u6_ 0)) 21 (u30_ 0)) 23 (v0 23)) 24 (v0 24)))), ((q0 17), zi k14 12 f14), ((q0 19), zi k15 12 (a6_ 0)), ((q0 3), zi k3 400 f3), ((q0 2), zi k2 4800 f2), ((q0 7), zi k6 120 f6), ((q0 11), zi k10 120 f10), ((q0 5), zi k4 122880 f4), ((q0 12), zi k11 120 f11), ((q0 22), zi k16 40000 f16)] H := hP
    have hD9 : va_D A [(h0, .inr (13, mX13 q0 (upd (upd (upd (upd v0 20 (u6_ 0)) 21 (u30_ 0)) 23 (v0 23)) 24 (v0 24)))), ((q0 17), zi k14 12 f14), ((q0 19), zi k15 12 (a6_ 0)), ((q0 3), zi k3 400 f3), ((q0 2), zi k2 4800 f2), ((q0 7), zi k6 120 f6), ((q0 11), zi k10 120 f10), ((q0 5), zi k4 122880 f4), ((q0 12), zi k11 120 f11), ((q0 22), zi k16 40000 f16)] := hD
    have hB0 : zbR f14 (v0 18).toInt f2 f3 (v0 4).toInt f4 f6 f10 f11 (v0 13).toInt x1.toInt (u30_ 0).toInt (0 : Int32).toInt := by first | exact zbR_y hX6_1 (by omega) hB23_0 (by decide) (by omega) (by omega) e_z39 rfl (by decide) | exact zbR_0 hX6_1 (by omega) (by omega) | exact zbR_n (by omega) (by omega) | exact zbR_x hX6_1 (by omega) hB23_0 (by decide) (by omega) (by omega)
    exact W.iret (v := 0) hx hb hr (fun t ht hW => ⟨⟨0, (fun i => ([(u6_ 0), (u30_ 0), (v0 23), (v0 24), 0] : List (Int32)).getD i 0), rfl, hpost, (fun _ => 0), (fun i => ([(a6_ 0), f16] : List (Nat → Int32)).getD i (fun _ => 0)), (fun _ => (fun _ => 0)), hB0, by rw [ht]; exact hP9, va_K.moved hW.alike hK, hD9⟩, hS.F ht⟩) hS.2.2 dX13_bit_33
  · skip
    have b_ := zF_eq rfl zk_m1 c_
    refine lv_iload_n hx hb dX13_bit_15 rfl (lv_at hl 2 rfl) ?_
    have b_ : -2147483648 ≤ x1.toInt ∧ x1.toInt ≤ 2147483647 := ⟨zlo _, zhi _⟩
    refine lv_if_lt (tgt := 29) hx hb dX13_bit_16 (by decide) (fun c_ => ?_) (fun c_ => ?_)
    · skip
      have b_ := zT_lt rfl zk_0 c_
      refine lv_aload_n hx hb dX13_bit_29 rfl (lv_at hl 1 rfl) ?_
      have hPc := hP.sub (ws' := [(h0, .inr (13, mX13 q0 (upd (upd v0 20 (u6_ 0)) 21 0)))]) [0] rfl
      have hDc := hD.sub (ws' := [(h0, .inr (13, mX13 q0 (upd (upd v0 20 (u6_ 0)) 21 0)))]) [0] (by decide) rfl
      have hKc := hK.sub (tys' := []) [] rfl
      have hFc := va_free (wc := [(h0, .inr (13, mX13 q0 (upd (upd v0 20 (u6_ 0)) 21 0)))]) hD hS hA [0] rfl
      refine va_calli (va_runV (As := []) (rest := []) ⟨hx, hb, hml, hown, hG⟩ (sX13_refuse_0 l dC dI adK adV h0 q0 H.size (upd (upd v0 20 (u6_ 0)) 21 0) (zR_updF (zR_up2 hv0 20 (show (0 : Int) ≤ ((u6_ 0) : Int32).toInt ∧ ((u6_ 0) : Int32).toInt ≤ (12 : Int) from (by first | with_reducible assumption | exact ⟨by omega, by omega⟩))) 21 rfl)) (cwV 0 hG (zgV zv1959 zv1961 zv68 zv142 zv1962) rfl rfl rfl (by decide +kernel) ⟨Nat.le_of_ble_eq_true rfl, Nat.le_of_ble_eq_true rfl⟩) ⟨zPc_blind, va_recv hKc hPc (ci := 13) (q0 := 0) rfl rfl, zPc_pre hPc hKc hDc hE hS hFc hZ⟩ rfl rfl hl.1 rfl (lv_room (Nat.le_of_ble_eq_true rfl)) dX13_bit_30 ⟨Nat.le_of_ble_eq_true rfl, Nat.le_of_ble_eq_true rfl⟩) hS (fun q _ h => hFc q h) hFc (fun r30_ u30_ t H1 locs ht hvm hw hB hz1 hk1 hS => ?_)
      replace hw : (0 ≤ r30_.toInt ∧ r30_.toInt ≤ 0) ∧ (1 ≤ (u30_ 0).toInt ∧ (u30_ 0).toInt ≤ 1) := hw
      obtain ⟨b_, b_⟩ := hw
      obtain rfl : r30_ = (0 : Int32) := zeqi.mpr ((show r30_.toInt = 0 from by omega).trans zk_0.symm)
      obtain ⟨w30_, a30_, b30_, hP1, hK1, hD1⟩ := hB
      rw [ht] at hP1
      obtain ⟨hP, hD⟩ := va_join (wr := [((q0 17), zi k14 12 f14), ((q0 19), zi k15 12 (a6_ 0)), ((q0 3), zi k3 400 f3), ((q0 2), zi k2 4800 f2), ((q0 7), zi k6 120 f6), ((q0 11), zi k10 120 f10), ((q0 5), zi k4 122880 f4), ((q0 12), zi k11 120 f11), ((q0 22), zi k16 40000 f16)]) (w1 := [(h0, .inr (13, mX13 q0 (upd (upd v0 20 (u6_ 0)) 21 (u30_ 0))))]) hP hD [0] [1, 2, 3, 4, 5, 6, 7, 8, 9] rfl rfl (by decide) (by decide) hk1 hFc hP1 hD1
      have hP : va_P (dC, dI) vwCl [(h0, .inr (13, mX13 q0 (upd (upd v0 20 (u6_ 0)) 21 (u30_ 0)))), ((q0 17), zi k14 12 f14), ((q0 19), zi k15 12 (a6_ 0)), ((q0 3), zi k3 400 f3), ((q0 2), zi k2 4800 f2), ((q0 7), zi k6 120 f6), ((q0 11), zi k10 120 f10), ((q0 5), zi k4 122880 f4), ((q0 12), zi k11 120 f11), ((q0 22), zi k16 40000 f16)] H1 := hP.sub [9, 0, 1, 2, 3, 4, 5, 6, 7, 8] rfl
      have hD : va_D A [(h0, .inr (13, mX13 q0 (upd (upd v0 20 (u6_ 0)) 21 (u30_ 0)))), ((q0 17), zi k14 12 f14), ((q0 19), zi k15 12 (a6_ 0)), ((q0 3), zi k3 400 f3), ((q0 2), zi k2 4800 f2), ((q0 7), zi k6 120 f6), ((q0 11), zi k10 120 f10), ((q0 5), zi k4 122880 f4), ((q0 12), zi k11 120 f11), ((q0 22), zi k16 40000 f16)] := hD.sub [9, 0, 1, 2, 3, 4, 5, 6, 7, 8] (by decide) rfl
      generalize H1 = H at hP hS ⊢
      clear hz1
      refine W.widen (k := 0) (n := 0) (by decide) (by decide) ?_
      have b_ : -2147483648 ≤ (v0 23).toInt ∧ (v0 23).toInt ≤ 2147483647 := ⟨zlo _, zhi _⟩
      have b_ : 0 ≤ (v0 24).toInt ∧ (v0 24).toInt ≤ 1 := hv0 24
      have hpost : (0 ≤ (u6_ 0).toInt ∧ (u6_ 0).toInt ≤ 12) ∧ (0 ≤ (u30_ 0).toInt ∧ (u30_ 0).toInt ≤ 1) ∧ (0 ≤ (v0 24).toInt ∧ (v0 24).toInt ≤ 1) ∧ ((0 : Int32).toInt = (0 : Int32).toInt) := ⟨(by first | with_reducible assumption | exact ⟨by omega, by omega⟩), (by first | with_reducible assumption | exact ⟨by omega, by omega⟩), (by first | with_reducible assumption | exact ⟨by omega, by omega⟩), rfl⟩
      have hP9 : va_P (dC, dI) vwCl [(h0, .inr (13, mX13 q0 (upd (upd (upd (upd v0 20 (u6_ 0)) 21 (u30_ 0)) 23 (v0 23)) 24 (v0 24)))), ((q0 17), zi k14 12 f14), ((q0 19), zi k15 12 (a6_ 0)), ((q0 3), zi k3 400 f3), ((q0 2), zi k2 4800 f2), ((q0 7), zi k6 120 f6), ((q0 11), zi k10 120 f10), ((q0 5), zi k4 122880 f4), ((q0 12), zi k11 120 f11), ((q0 22), zi k16 40000 f16)] H := hP
      have hD9 : va_D A [(h0, .inr (13, mX13 q0 (upd (upd (upd (upd v0 20 (u6_ 0)) 21 (u30_ 0)) 23 (v0 23)) 24 (v0 24)))), ((q0 17), zi k14 12 f14), ((q0 19), zi k15 12 (a6_ 0)), ((q0 3), zi k3 400 f3), ((q0 2), zi k2 4800 f2), ((q0 7), zi k6 120 f6), ((q0 11), zi k10 120 f10), ((q0 5), zi k4 122880 f4), ((q0 12), zi k11 120 f11), ((q0 22), zi k16 40000 f16)] := hD
      have hB0 : zbR f14 (v0 18).toInt f2 f3 (v0 4).toInt f4 f6 f10 f11 (v0 13).toInt x1.toInt (u30_ 0).toInt (0 : Int32).toInt := by first | exact zbR_y hX6_1 (by omega) hB23_0 (by decide) (by omega) (by omega) e_z39 rfl (by decide) | exact zbR_0 hX6_1 (by omega) (by omega) | exact zbR_n (by omega) (by omega) | exact zbR_x hX6_1 (by omega) hB23_0 (by decide) (by omega) (by omega)
      exact W.iret (v := 0) hx hb hr (fun t ht hW => ⟨⟨0, (fun i => ([(u6_ 0), (u30_ 0), (v0 23), (v0 24), 0] : List (Int32)).getD i 0), rfl, hpost, (fun _ => 0), (fun i => ([(a6_ 0), f16] : List (Nat → Int32)).getD i (fun _ => 0)), (fun _ => (fun _ => 0)), hB0, by rw [ht]; exact hP9, va_K.moved hW.alike hK, hD9⟩, hS.F ht⟩) hS.2.2 dX13_bit_33
    · skip
      have b_ := zF_lt rfl zk_0 c_
      refine lv_iload_n hx hb dX13_bit_19 rfl (lv_at hl 2 rfl) ?_
      refine lv_aload_n hx hb dX13_bit_20 rfl (lv_at hl 1 rfl) ?_
      refine lv_iload_n hx hb dX13_bit_21 rfl (lv_at hl 0 rfl) ?_
      refine lv_iconst (v := 1) hx hb dX13_bit_22 (by decide) ?_
      have hjw : (zB f4 f6 r6_.toInt ((v0 13).toInt).toNat).1 ≤ 40000 := by have q := hp0_ (r6_.toInt).toNat (by omega); rwa [show (((r6_.toInt).toNat : Nat) : Int) = r6_.toInt from by omega] at q
      have hPc := hP.sub (ws' := [(h0, .inr (13, mX13 q0 (upd (upd v0 20 (u6_ 0)) 21 0))), ((q0 7), zi k6 120 f6), ((q0 11), zi k10 120 f10), ((q0 5), zi k4 122880 f4), ((q0 12), zi k11 120 f11), ((q0 22), zi k16 40000 f16), ((q0 2), zi k2 4800 f2), ((q0 3), zi k3 400 f3)]) [0, 5, 6, 7, 8, 9, 4, 3] rfl
      have hDc := hD.sub (ws' := [(h0, .inr (13, mX13 q0 (upd (upd v0 20 (u6_ 0)) 21 0))), ((q0 7), zi k6 120 f6), ((q0 11), zi k10 120 f10), ((q0 5), zi k4 122880 f4), ((q0 12), zi k11 120 f11), ((q0 22), zi k16 40000 f16), ((q0 2), zi k2 4800 f2), ((q0 3), zi k3 400 f3)]) [0, 5, 6, 7, 8, 9, 4, 3] (by decide) rfl
      have hKc := hK.sub (tys' := [(k6, .boolean), (k10, .int), (k4, .short), (k11, .int), (k16, .byte), (k2, .byte), (k3, .int)]) [4, 5, 6, 7, 8, 3, 2] rfl
      have hFc := va_free (wc := [(h0, .inr (13, mX13 q0 (upd (upd v0 20 (u6_ 0)) 21 0))), ((q0 7), zi k6 120 f6), ((q0 11), zi k10 120 f10), ((q0 5), zi k4 122880 f4), ((q0 12), zi k11 120 f11), ((q0 22), zi k16 40000 f16), ((q0 2), zi k2 4800 f2), ((q0 3), zi k3 400 f3)]) hD hS hA [0, 5, 6, 7, 8, 9, 4, 3] rfl
      refine va_calli (va_runV (As := [.int r6_, .int 1]) (rest := [.int x1]) ⟨hx, hb, hml, hown, hG⟩ (p12_sX13_layOut_0 l dC dI adK adV h0 q0 k6 k10 k4 k11 k16 k2 k3 H.size (upd (upd v0 20 (u6_ 0)) 21 0) f6 f10 f4 f11 f16 f2 f3 r6_ 1 (zR_updF (zR_up2 hv0 20 (show (0 : Int) ≤ ((u6_ 0) : Int32).toInt ∧ ((u6_ 0) : Int32).toInt ≤ (12 : Int) from (by first | with_reducible assumption | exact ⟨by omega, by omega⟩))) 21 rfl) hf10 hf4 hf11 hf3 (show (0 : Int) ≤ (r6_ : Int32).toInt ∧ (r6_ : Int32).toInt ≤ (399 : Int) from (by first | with_reducible assumption | exact ⟨by omega, by omega⟩)) ⟨show (0 : Int) ≤ (1 : Int32).toInt from by decide, show (1 : Int32).toInt ≤ (1 : Int) from by decide⟩ (show (1 : Int32).toInt = 1 → (zB f4 f6 r6_.toInt  ((v0 13).toInt).toNat).1 ≤ 40000 from by omega)) (cwV 2 hG (zgV zv1987 zv1989 zv73 zv142 zv1990) rfl rfl rfl (by decide +kernel) ⟨Nat.le_of_ble_eq_true rfl, Nat.le_of_ble_eq_true rfl⟩) ⟨zPc_blind, va_recv hKc hPc (ci := 13) (q0 := 0) rfl rfl, zPc_pre hPc hKc hDc hE hS hFc hZ⟩ rfl rfl hl.1 rfl (lv_room (Nat.le_of_ble_eq_true rfl)) dX13_bit_23 ⟨Nat.le_of_ble_eq_true rfl, Nat.le_of_ble_eq_true rfl⟩) hS (fun q _ h => hFc q h) hFc (fun r23_ u23_ t H1 locs ht hvm hw hB hz1 hk1 hS => ?_)
      replace hw : (0 ≤ r23_.toInt ∧ r23_.toInt ≤ 2600021) ∧ (0 ≤ (u23_ 0).toInt ∧ (u23_ 0).toInt ≤ 2600021) ∧ (0 ≤ (u23_ 1).toInt ∧ (u23_ 1).toInt ≤ 1) ∧ (r23_.toInt ≤ (zB f4 f6 r6_.toInt  ((v0 13).toInt).toNat).1) ∧ (0 ≤ r23_.toInt) ∧ (zW (∀ (T : Nat → Nat → Int) (V : List Int) (x : Int), zMd f2 f3 (v0 4).toInt f4 f6 (v0 13).toInt T V → zMb f10 f11 (v0 13).toInt T → V[(r6_.toInt).toNat]? = some x → r23_.toInt = ((zPq T x ((v0 13).toInt).toNat).length : Int))) ∧ (r23_.toInt = (u23_ 2).toInt) := hw
      obtain ⟨b_, b_, b_, hX23_0, hX23_1, hX23_2, b_⟩ := hw
      obtain ⟨w23_, a23_, b23_, hB23_0, hP1, hK1, hD1⟩ := hB
      have hB23_0 : zLx (a23_ 0) (1 : Int32).toInt f2 f3 (v0 4).toInt f4 f6 f10 f11 (v0 13).toInt r6_.toInt (u23_ 2).toInt := hB23_0
      rw [ht] at hP1
      obtain ⟨hP, hD⟩ := va_join (wr := [((q0 17), zi k14 12 f14), ((q0 19), zi k15 12 (a6_ 0))]) (w1 := [(h0, .inr (13, mX13 q0 (upd (upd (upd (upd v0 20 (u6_ 0)) 21 0) 23 (u23_ 0)) 24 (u23_ 1)))), ((q0 7), zi k6 120 f6), ((q0 11), zi k10 120 f10), ((q0 5), zi k4 122880 f4), ((q0 12), zi k11 120 f11), ((q0 22), zi k16 40000 (a23_ 0)), ((q0 2), zi k2 4800 f2), ((q0 3), zi k3 400 f3)]) hP hD [0, 5, 6, 7, 8, 9, 4, 3] [1, 2] rfl rfl (by decide) (by decide) hk1 hFc hP1 hD1
      have hP : va_P (dC, dI) vwCl [(h0, .inr (13, mX13 q0 (upd (upd (upd (upd v0 20 (u6_ 0)) 21 0) 23 (u23_ 0)) 24 (u23_ 1)))), ((q0 17), zi k14 12 f14), ((q0 19), zi k15 12 (a6_ 0)), ((q0 3), zi k3 400 f3), ((q0 2), zi k2 4800 f2), ((q0 7), zi k6 120 f6), ((q0 11), zi k10 120 f10), ((q0 5), zi k4 122880 f4), ((q0 12), zi k11 120 f11), ((q0 22), zi k16 40000 (a23_ 0))] H1 := hP.sub [2, 0, 1, 9, 8, 3, 4, 5, 6, 7] rfl
      have hD : va_D A [(h0, .inr (13, mX13 q0 (upd (upd (upd (upd v0 20 (u6_ 0)) 21 0) 23 (u23_ 0)) 24 (u23_ 1)))), ((q0 17), zi k14 12 f14), ((q0 19), zi k15 12 (a6_ 0)), ((q0 3), zi k3 400 f3), ((q0 2), zi k2 4800 f2), ((q0 7), zi k6 120 f6), ((q0 11), zi k10 120 f10), ((q0 5), zi k4 122880 f4), ((q0 12), zi k11 120 f11), ((q0 22), zi k16 40000 (a23_ 0))] := hD.sub [2, 0, 1, 9, 8, 3, 4, 5, 6, 7] (by decide) rfl
      generalize H1 = H at hP hS ⊢
      clear hz1
      refine lv_icmp_lt (tgt := 34) hx hb dX13_bit_26 (by decide) (fun c_ => ?_) (fun c_ => ?_)
      · skip
        have b_ := zT_lt rfl rfl c_
        refine lv_aload_n hx hb dX13_bit_34 rfl (lv_at hl 1 rfl) ?_
        refine va_get (D := (dC, dI)) (ci := 13) (v := .ref (q0 22)) (C := RX13) (T := TX13) (N := 75) hx hb hG zuX13 hown hK hP 0 rfl rfl 22 (by decide) (hG _ zv1626) (fun _ h9 => h9) rfl dX13_bit_35 ?_
        refine lv_iload_n hx hb dX13_bit_38 rfl (lv_at hl 2 rfl) ?_
        refine va_bald hx hb hK hP 9 8 rfl rfl (zin_lit ⟨by omega, by omega⟩) dX13_bit_39 ?_
        refine lv_topi (fun z39 e_z39 => ?_)
        refine W.widen (k := 0) (n := 0) (by decide) (by decide) ?_
        have b_ : -2147483648 ≤ z39.toInt ∧ z39.toInt ≤ 2147483647 := ⟨zlo _, zhi _⟩
        have hpost : (0 ≤ (u6_ 0).toInt ∧ (u6_ 0).toInt ≤ 12) ∧ (0 ≤ (0 : Int32).toInt ∧ (0 : Int32).toInt ≤ 1) ∧ (0 ≤ (u23_ 1).toInt ∧ (u23_ 1).toInt ≤ 1) ∧ (z39.toInt = z39.toInt) := ⟨(by first | with_reducible assumption | exact ⟨by omega, by omega⟩), (by first | with_reducible assumption | exact ⟨by omega, by omega⟩), (by first | with_reducible assumption | exact ⟨by omega, by omega⟩), rfl⟩
        have hP9 : va_P (dC, dI) vwCl [(h0, .inr (13, mX13 q0 (upd (upd (upd (upd v0 20 (u6_ 0)) 21 0) 23 (u23_ 0)) 24 (u23_ 1)))), ((q0 17), zi k14 12 f14), ((q0 19), zi k15 12 (a6_ 0)), ((q0 3), zi k3 400 f3), ((q0 2), zi k2 4800 f2), ((q0 7), zi k6 120 f6), ((q0 11), zi k10 120 f10), ((q0 5), zi k4 122880 f4), ((q0 12), zi k11 120 f11), ((q0 22), zi k16 40000 (a23_ 0))] H := hP
        have hD9 : va_D A [(h0, .inr (13, mX13 q0 (upd (upd (upd (upd v0 20 (u6_ 0)) 21 0) 23 (u23_ 0)) 24 (u23_ 1)))), ((q0 17), zi k14 12 f14), ((q0 19), zi k15 12 (a6_ 0)), ((q0 3), zi k3 400 f3), ((q0 2), zi k2 4800 f2), ((q0 7), zi k6 120 f6), ((q0 11), zi k10 120 f10), ((q0 5), zi k4 122880 f4), ((q0 12), zi k11 120 f11), ((q0 22), zi k16 40000 (a23_ 0))] := hD
        have hB0 : zbR f14 (v0 18).toInt f2 f3 (v0 4).toInt f4 f6 f10 f11 (v0 13).toInt x1.toInt (0 : Int32).toInt z39.toInt := by first | exact zbR_y hX6_1 (by omega) hB23_0 (by decide) (by omega) (by omega) e_z39 rfl (by decide) | exact zbR_0 hX6_1 (by omega) (by omega) | exact zbR_n (by omega) (by omega) | exact zbR_x hX6_1 (by omega) hB23_0 (by decide) (by omega) (by omega)
        exact W.iret (v := z39) hx hb hr (fun t ht hW => ⟨⟨z39, (fun i => ([(u6_ 0), 0, (u23_ 0), (u23_ 1), z39] : List (Int32)).getD i 0), rfl, hpost, (fun _ => 0), (fun i => ([(a6_ 0), (a23_ 0)] : List (Nat → Int32)).getD i (fun _ => 0)), (fun _ => (fun _ => 0)), hB0, by rw [ht]; exact hP9, va_K.moved hW.alike hK, hD9⟩, hS.F ht⟩) hS.2.2 dX13_bit_40
      · skip
        have b_ := zF_lt rfl rfl c_
        refine lv_aload_n hx hb dX13_bit_29 rfl (lv_at hl 1 rfl) ?_
        have hPc := hP.sub (ws' := [(h0, .inr (13, mX13 q0 (upd (upd (upd (upd v0 20 (u6_ 0)) 21 0) 23 (u23_ 0)) 24 (u23_ 1))))]) [0] rfl
        have hDc := hD.sub (ws' := [(h0, .inr (13, mX13 q0 (upd (upd (upd (upd v0 20 (u6_ 0)) 21 0) 23 (u23_ 0)) 24 (u23_ 1))))]) [0] (by decide) rfl
        have hKc := hK.sub (tys' := []) [] rfl
        have hFc := va_free (wc := [(h0, .inr (13, mX13 q0 (upd (upd (upd (upd v0 20 (u6_ 0)) 21 0) 23 (u23_ 0)) 24 (u23_ 1))))]) hD hS hA [0] rfl
        refine va_calli (va_runV (As := []) (rest := []) ⟨hx, hb, hml, hown, hG⟩ (sX13_refuse_0 l dC dI adK adV h0 q0 H.size (upd (upd (upd (upd v0 20 (u6_ 0)) 21 0) 23 (u23_ 0)) 24 (u23_ 1)) (zR_up2 (zR_updF (zR_updF (zR_up2 hv0 20 (show (0 : Int) ≤ ((u6_ 0) : Int32).toInt ∧ ((u6_ 0) : Int32).toInt ≤ (12 : Int) from (by first | with_reducible assumption | exact ⟨by omega, by omega⟩))) 21 rfl) 23 rfl) 24 (show (0 : Int) ≤ ((u23_ 1) : Int32).toInt ∧ ((u23_ 1) : Int32).toInt ≤ (1 : Int) from (by first | with_reducible assumption | exact ⟨by omega, by omega⟩)))) (cwV 0 hG (zgV zv1959 zv1961 zv68 zv142 zv1962) rfl rfl rfl (by decide +kernel) ⟨Nat.le_of_ble_eq_true rfl, Nat.le_of_ble_eq_true rfl⟩) ⟨zPc_blind, va_recv hKc hPc (ci := 13) (q0 := 0) rfl rfl, zPc_pre hPc hKc hDc hE hS hFc hZ⟩ rfl rfl hl.1 rfl (lv_room (Nat.le_of_ble_eq_true rfl)) dX13_bit_30 ⟨Nat.le_of_ble_eq_true rfl, Nat.le_of_ble_eq_true rfl⟩) hS (fun q _ h => hFc q h) hFc (fun r30_ u30_ t H1 locs ht hvm hw hB hz1 hk1 hS => ?_)
        replace hw : (0 ≤ r30_.toInt ∧ r30_.toInt ≤ 0) ∧ (1 ≤ (u30_ 0).toInt ∧ (u30_ 0).toInt ≤ 1) := hw
        obtain ⟨b_, b_⟩ := hw
        obtain rfl : r30_ = (0 : Int32) := zeqi.mpr ((show r30_.toInt = 0 from by omega).trans zk_0.symm)
        obtain ⟨w30_, a30_, b30_, hP1, hK1, hD1⟩ := hB
        rw [ht] at hP1
        obtain ⟨hP, hD⟩ := va_join (wr := [((q0 17), zi k14 12 f14), ((q0 19), zi k15 12 (a6_ 0)), ((q0 3), zi k3 400 f3), ((q0 2), zi k2 4800 f2), ((q0 7), zi k6 120 f6), ((q0 11), zi k10 120 f10), ((q0 5), zi k4 122880 f4), ((q0 12), zi k11 120 f11), ((q0 22), zi k16 40000 (a23_ 0))]) (w1 := [(h0, .inr (13, mX13 q0 (upd (upd (upd (upd v0 20 (u6_ 0)) 21 (u30_ 0)) 23 (u23_ 0)) 24 (u23_ 1))))]) hP hD [0] [1, 2, 3, 4, 5, 6, 7, 8, 9] rfl rfl (by decide) (by decide) hk1 hFc hP1 hD1
        have hP : va_P (dC, dI) vwCl [(h0, .inr (13, mX13 q0 (upd (upd (upd (upd v0 20 (u6_ 0)) 21 (u30_ 0)) 23 (u23_ 0)) 24 (u23_ 1)))), ((q0 17), zi k14 12 f14), ((q0 19), zi k15 12 (a6_ 0)), ((q0 3), zi k3 400 f3), ((q0 2), zi k2 4800 f2), ((q0 7), zi k6 120 f6), ((q0 11), zi k10 120 f10), ((q0 5), zi k4 122880 f4), ((q0 12), zi k11 120 f11), ((q0 22), zi k16 40000 (a23_ 0))] H1 := hP.sub [9, 0, 1, 2, 3, 4, 5, 6, 7, 8] rfl
        have hD : va_D A [(h0, .inr (13, mX13 q0 (upd (upd (upd (upd v0 20 (u6_ 0)) 21 (u30_ 0)) 23 (u23_ 0)) 24 (u23_ 1)))), ((q0 17), zi k14 12 f14), ((q0 19), zi k15 12 (a6_ 0)), ((q0 3), zi k3 400 f3), ((q0 2), zi k2 4800 f2), ((q0 7), zi k6 120 f6), ((q0 11), zi k10 120 f10), ((q0 5), zi k4 122880 f4), ((q0 12), zi k11 120 f11), ((q0 22), zi k16 40000 (a23_ 0))] := hD.sub [9, 0, 1, 2, 3, 4, 5, 6, 7, 8] (by decide) rfl
        generalize H1 = H at hP hS ⊢
        clear hz1
        refine W.widen (k := 0) (n := 0) (by decide) (by decide) ?_
        have hpost : (0 ≤ (u6_ 0).toInt ∧ (u6_ 0).toInt ≤ 12) ∧ (0 ≤ (u30_ 0).toInt ∧ (u30_ 0).toInt ≤ 1) ∧ (0 ≤ (u23_ 1).toInt ∧ (u23_ 1).toInt ≤ 1) ∧ ((0 : Int32).toInt = (0 : Int32).toInt) := ⟨(by first | with_reducible assumption | exact ⟨by omega, by omega⟩), (by first | with_reducible assumption | exact ⟨by omega, by omega⟩), (by first | with_reducible assumption | exact ⟨by omega, by omega⟩), rfl⟩
        have hP9 : va_P (dC, dI) vwCl [(h0, .inr (13, mX13 q0 (upd (upd (upd (upd v0 20 (u6_ 0)) 21 (u30_ 0)) 23 (u23_ 0)) 24 (u23_ 1)))), ((q0 17), zi k14 12 f14), ((q0 19), zi k15 12 (a6_ 0)), ((q0 3), zi k3 400 f3), ((q0 2), zi k2 4800 f2), ((q0 7), zi k6 120 f6), ((q0 11), zi k10 120 f10), ((q0 5), zi k4 122880 f4), ((q0 12), zi k11 120 f11), ((q0 22), zi k16 40000 (a23_ 0))] H := hP
        have hD9 : va_D A [(h0, .inr (13, mX13 q0 (upd (upd (upd (upd v0 20 (u6_ 0)) 21 (u30_ 0)) 23 (u23_ 0)) 24 (u23_ 1)))), ((q0 17), zi k14 12 f14), ((q0 19), zi k15 12 (a6_ 0)), ((q0 3), zi k3 400 f3), ((q0 2), zi k2 4800 f2), ((q0 7), zi k6 120 f6), ((q0 11), zi k10 120 f10), ((q0 5), zi k4 122880 f4), ((q0 12), zi k11 120 f11), ((q0 22), zi k16 40000 (a23_ 0))] := hD
        have hB0 : zbR f14 (v0 18).toInt f2 f3 (v0 4).toInt f4 f6 f10 f11 (v0 13).toInt x1.toInt (u30_ 0).toInt (0 : Int32).toInt := by first | exact zbR_y hX6_1 (by omega) hB23_0 (by decide) (by omega) (by omega) e_z39 rfl (by decide) | exact zbR_0 hX6_1 (by omega) (by omega) | exact zbR_n (by omega) (by omega) | exact zbR_x hX6_1 (by omega) hB23_0 (by decide) (by omega) (by omega)
        exact W.iret (v := 0) hx hb hr (fun t ht hW => ⟨⟨0, (fun i => ([(u6_ 0), (u30_ 0), (u23_ 0), (u23_ 1), 0] : List (Int32)).getD i 0), rfl, hpost, (fun _ => 0), (fun i => ([(a6_ 0), (a23_ 0)] : List (Nat → Int32)).getD i (fun _ => 0)), (fun _ => (fun _ => 0)), hB0, by rw [ht]; exact hP9, va_K.moved hW.alike hK, hD9⟩, hS.F ht⟩) hS.2.2 dX13_bit_33
set_option maxHeartbeats 8000000 in
set_option maxRecDepth 100000 in
theorem p12_sX13_chunks_0 (l : Launch) (dC : Nat → ClassId) (dI : Nat → Nat → Nat) (adK adV : Nat → Nat) (sz : Nat) (x0 : Int32) : Met l yX13_chunks (zw yX13_chunks cX13_chunks 4 (some .int)) { frames := 1, cells := 0, slots := 0, locals := 40 } (zPc dC dI adK adV [.int x0] sz [] []) (va_Qi (fun (r : Int32) (u : Nat → Int32) => (0 ≤ x0.toInt → r.toInt = (znc (x0.toInt).toNat : Int))) (fun (u : Nat → Int32) (t : State) => ∃ (ww : Nat → Int64) (aa : Nat → Nat → Int32) (bb : Nat → Nat → Int64), va_P (dC, dI) vwCl [] t.heap ∧ va_K (dC, dI) vwCl [] t ∧ va_D (va_A [] sz) []) (va_A [] sz)) 0 0 (va_A [] sz) := by sorry
set_option maxHeartbeats 8000000 in
set_option maxRecDepth 100000 in
theorem p12_sX13_holders_0 (l : Launch) (dC : Nat → ClassId) (dI : Nat → Nat → Nat) (adK adV : Nat → Nat) (h0 : Nat) (q0 : Nat → Nat) (k5 : ClassId) (k10 : ClassId) (k4 : ClassId) (k11 : ClassId) (k2 : ClassId) (k3 : ClassId) (k6 : ClassId) (sz : Nat) (v0 : Nat → Int32) (f5 : Nat → Int32) (f10 : Nat → Int32) (f4 : Nat → Int32) (f11 : Nat → Int32) (f2 : Nat → Int32) (f3 : Nat → Int32) (f6 : Nat → Int32) (x1 : Int32) (hv0 : zR rg_Model v0) (hf10 : zA 0 512 f10) (hf4 : zA 0 400 f4) (hf11 : zA 0 512 f11) (hf3 : zA 0 12 f3) (hx1 : 0 ≤ x1.toInt ∧ x1.toInt ≤ 399) : Met l yX13_holders (zw yX13_holders cX13_holders 4 (some .int)) { frames := 1, cells := 0, slots := 0, locals := 24 } (zPc dC dI adK adV [.ref h0, .int x1] sz [(h0, .inr (13, mX13 q0 v0)), ((q0 6), zi k5 120 f5), ((q0 11), zi k10 120 f10), ((q0 5), zi k4 122880 f4), ((q0 12), zi k11 120 f11), ((q0 2), zi k2 4800 f2), ((q0 3), zi k3 400 f3), ((q0 7), zi k6 120 f6)] [(k5, .boolean), (k10, .int), (k4, .short), (k11, .int), (k2, .byte), (k3, .int), (k6, .boolean)]) (va_Qi (fun (r : Int32) (u : Nat → Int32) => (0 ≤ r.toInt ∧ r.toInt ≤ 120) ∧ (zKg zf1 f5 f2 f3 (v0 4).toInt f4 f6 f10 f11 (v0 13).toInt x1.toInt (v0 13).toInt r.toInt)) (fun (u : Nat → Int32) (t : State) => ∃ (ww : Nat → Int64) (aa : Nat → Nat → Int32) (bb : Nat → Nat → Int64), va_P (dC, dI) vwCl [(h0, .inr (13, mX13 q0 v0)), ((q0 6), zi k5 120 f5), ((q0 11), zi k10 120 f10), ((q0 5), zi k4 122880 f4), ((q0 12), zi k11 120 f11), ((q0 2), zi k2 4800 f2), ((q0 3), zi k3 400 f3), ((q0 7), zi k6 120 f6)] t.heap ∧ va_K (dC, dI) vwCl [(k5, .boolean), (k10, .int), (k4, .short), (k11, .int), (k2, .byte), (k3, .int), (k6, .boolean)] t ∧ va_D (va_A [(h0, .inr (13, mX13 q0 v0)), ((q0 6), zi k5 120 f5), ((q0 11), zi k10 120 f10), ((q0 5), zi k4 122880 f4), ((q0 12), zi k11 120 f11), ((q0 2), zi k2 4800 f2), ((q0 3), zi k3 400 f3), ((q0 7), zi k6 120 f6)] sz) [(h0, .inr (13, mX13 q0 v0)), ((q0 6), zi k5 120 f5), ((q0 11), zi k10 120 f10), ((q0 5), zi k4 122880 f4), ((q0 12), zi k11 120 f11), ((q0 2), zi k2 4800 f2), ((q0 3), zi k3 400 f3), ((q0 7), zi k6 120 f6)]) (va_A [(h0, .inr (13, mX13 q0 v0)), ((q0 6), zi k5 120 f5), ((q0 11), zi k10 120 f10), ((q0 5), zi k4 122880 f4), ((q0 12), zi k11 120 f11), ((q0 2), zi k2 4800 f2), ((q0 3), zi k3 400 f3), ((q0 7), zi k6 120 f6)] sz)) 0 0 (va_A [(h0, .inr (13, mX13 q0 v0)), ((q0 6), zi k5 120 f5), ((q0 11), zi k10 120 f10), ((q0 5), zi k4 122880 f4), ((q0 12), zi k11 120 f11), ((q0 2), zi k2 4800 f2), ((q0 3), zi k3 400 f3), ((q0 7), zi k6 120 f6)] sz) := by
  refine Met.ofW (cc := cX13_holders) (maxL := 4) (ret := (some .int)) (by decide) rfl ?_
  intro p e s m args below meth c s₁ B hml hv
  obtain ⟨rfl, hsz, hP, hK, hD0, hE, hZ⟩ := hv
  have hx := B.exec
  have hb := B.bytes
  have hr := B.returns
  have hG : ∀ w ∈ zG, w.before _ s = true := fun w h => atoms_spec (ws := (zw yX13_holders cX13_holders 4 (some .int))) B.pre w (List.mem_cons_of_mem _ h)
  have hown : s.vm.findClass RX13 = some m.cls := findClass_of_methodNamed B.named
  have hlocks := B.notSynchronized

  subst hsz
  have hD := hD0.self (sz := s.heap.size)
  generalize hAe : va_A [(h0, .inr (13, mX13 q0 v0)), ((q0 6), zi k5 120 f5), ((q0 11), zi k10 120 f10), ((q0 5), zi k4 122880 f4), ((q0 12), zi k11 120 f11), ((q0 2), zi k2 4800 f2), ((q0 3), zi k3 400 f3), ((q0 7), zi k6 120 f6)] s.heap.size = A at hD hZ ⊢
  have hA : ∀ q : Nat, s.heap.size ≤ q → A q := fun q h => by rw [← hAe]; exact Or.inr h
  have hS : va_S A s.heap s.heap [] := va_S.rf
  have hl := lv_entry ([.ref h0, .int x1]) (n := 4) (Nat.le_of_ble_eq_true rfl)
  rw [lg_entry_eq]
  generalize (lg_sl ([.ref h0, .int x1]) ++ List.replicate (4 - (lg_sl ([.ref h0, .int x1])).length) Slot.unset).toArray = ls at hl ⊢
  have hl : lv_has ls 4 [(0, .ref h0), (1, .int x1)] := hl
  have b_ := zk_0
  have b_ : 0 ≤ (v0 4).toInt ∧ (v0 4).toInt ≤ 400 := hv0 4
  have b_ : 0 ≤ (v0 13).toInt ∧ (v0 13).toInt ≤ 120 := hv0 13
  refine lv_iconst (v := 0) hx hb dX13_holders_0 (by decide) ?_
  refine lv_istore_n (lv' := [(2, .int 0), (0, .ref h0), (1, .int x1)]) hx hb dX13_holders_1 rfl hl (by decide) rfl (fun ls hl => ?_)
  refine lv_iconst (v := 0) hx hb dX13_holders_2 (by decide) ?_
  refine lv_istore_n (lv' := [(3, .int 0), (2, .int 0), (0, .ref h0), (1, .int x1)]) hx hb dX13_holders_3 rfl hl (by decide) rfl (fun ls hl => ?_)
  refine zcutL (fun u4_ => (120 - (u4_ 1).toInt).toNat) (fun H locs ls u4_ w4_ a4_ b4_ => va_P (dC, dI) vwCl [(h0, .inr (13, mX13 q0 v0)), ((q0 6), zi k5 120 f5), ((q0 11), zi k10 120 f10), ((q0 5), zi k4 122880 f4), ((q0 12), zi k11 120 f11), ((q0 2), zi k2 4800 f2), ((q0 3), zi k3 400 f3), ((q0 7), zi k6 120 f6)] H ∧ va_D A [(h0, .inr (13, mX13 q0 v0)), ((q0 6), zi k5 120 f5), ((q0 11), zi k10 120 f10), ((q0 5), zi k4 122880 f4), ((q0 12), zi k11 120 f11), ((q0 2), zi k2 4800 f2), ((q0 3), zi k3 400 f3), ((q0 7), zi k6 120 f6)] ∧ va_S A s.heap H locs ∧ lv_has ls 4 [(0, .ref h0), (1, .int x1), (2, .int (u4_ 0)), (3, .int (u4_ 1))] ∧ (0 ≤ (u4_ 0).toInt ∧ (u4_ 0).toInt ≤ 120) ∧ (0 ≤ (u4_ 1).toInt ∧ (u4_ 1).toInt ≤ 120) ∧ (zKg zf1 f5 f2 f3 (v0 4).toInt f4 f6 f10 f11 (v0 13).toInt x1.toInt (u4_ 1).toInt (u4_ 0).toInt) ∧ ((u4_ 1).toInt ≤ (v0 13).toInt) ∧ ((u4_ 0).toInt ≤ (u4_ 1).toInt) ∧ (0 ≤ (u4_ 0).toInt)) (fun ls u4_ w4_ => F0 m 4 ls []) 0 0 ?_ (fun hJ4 => ?_)
  · skip
    intro H locs ls u4_ w4_ a4_ b4_ hc hJ4
    obtain ⟨hP, hD, hS, hl, b_, b_, hI4_0, b_, b_, b_⟩ := hc
    refine lv_iload_n hx hb dX13_holders_4 rfl (lv_at hl 3 rfl) ?_
    refine lv_aload_n hx hb dX13_holders_5 rfl (lv_at hl 0 rfl) ?_
    refine va_get (D := (dC, dI)) (ci := 13) (v := .int (v0 13)) (C := RX13) (T := TX13) (N := 75) hx hb hG zuX13 hown hK hP 0 rfl rfl 13 (by decide) (hG _ zv1617) (fun _ h9 => h9) rfl dX13_holders_6 ?_
    refine lv_icmp_ge (tgt := 44) hx hb dX13_holders_9 (by decide) (fun c_ => ?_) (fun c_ => ?_)
    · skip
      have b_ := zT_ge rfl rfl c_
      refine lv_iload_n hx hb dX13_holders_44 rfl (lv_at hl 2 rfl) ?_
      refine W.widen (k := 0) (n := 0) (by decide) (by decide) ?_
      have hpost : (0 ≤ (u4_ 0).toInt ∧ (u4_ 0).toInt ≤ 120) ∧ (zKg zf1 f5 f2 f3 (v0 4).toInt f4 f6 f10 f11 (v0 13).toInt x1.toInt (v0 13).toInt (u4_ 0).toInt) := ⟨(by first | with_reducible assumption | exact ⟨by omega, by omega⟩), by exact zKg_e hI4_0 (by omega) (by omega) rfl⟩
      have hP9 : va_P (dC, dI) vwCl [(h0, .inr (13, mX13 q0 v0)), ((q0 6), zi k5 120 f5), ((q0 11), zi k10 120 f10), ((q0 5), zi k4 122880 f4), ((q0 12), zi k11 120 f11), ((q0 2), zi k2 4800 f2), ((q0 3), zi k3 400 f3), ((q0 7), zi k6 120 f6)] H := hP
      have hD9 : va_D A [(h0, .inr (13, mX13 q0 v0)), ((q0 6), zi k5 120 f5), ((q0 11), zi k10 120 f10), ((q0 5), zi k4 122880 f4), ((q0 12), zi k11 120 f11), ((q0 2), zi k2 4800 f2), ((q0 3), zi k3 400 f3), ((q0 7), zi k6 120 f6)] := hD
      exact W.iret (v := (u4_ 0)) hx hb hr (fun t ht hW => ⟨⟨(u4_ 0), (fun _ => 0), rfl, hpost, (fun _ => 0), (fun _ => (fun _ => 0)), (fun _ => (fun _ => 0)), by rw [ht]; exact hP9, va_K.moved hW.alike hK, hD9⟩, hS.F ht⟩) hS.2.2 dX13_holders_45
    · skip
      have b_ := zF_ge rfl rfl c_
      refine lv_iload_n hx hb dX13_holders_12 rfl (lv_at hl 2 rfl) ?_
      refine lv_aload_n hx hb dX13_holders_13 rfl (lv_at hl 0 rfl) ?_
      refine va_get (D := (dC, dI)) (ci := 13) (v := .ref (q0 6)) (C := RX13) (T := TX13) (N := 75) hx hb hG zuX13 hown hK hP 0 rfl rfl 6 (by decide) (hG _ zv1610) (fun _ h9 => h9) rfl dX13_holders_14 ?_
      refine lv_iload_n hx hb dX13_holders_17 rfl (lv_at hl 3 rfl) ?_
      refine va_zald hx hb hK hP 1 0 rfl rfl (zin_lit ⟨by omega, by omega⟩) dX13_holders_18 ?_
      refine lv_topi (fun z18 e_z18 => ?_)
      have b_ : -2147483648 ≤ z18.toInt ∧ z18.toInt ≤ 2147483647 := ⟨zlo _, zhi _⟩
      refine lv_if_eq (tgt := 35) hx hb dX13_holders_19 (by decide) (fun c_ => ?_) (fun c_ => ?_)
      · skip
        have b_ := zT_eq rfl zk_0 c_
        refine lv_iconst (v := 0) hx hb dX13_holders_35 (by decide) ?_
        refine lv_iadd hx hb dX13_holders_36 ?_
        refine lv_topi (fun z36 e_z36 => ?_)
        have b_ := zadd rfl zk_0 e_z36 (by omega) (by omega)
        refine lv_istore_n (lv' := [(2, .int z36), (0, .ref h0), (1, .int x1), (3, .int (u4_ 1))]) hx hb dX13_holders_37 rfl hl (by decide) rfl (fun ls hl => ?_)
        obtain ⟨z38, e_z38⟩ : ∃ z : Int32, z = (u4_ 1) + Int32.ofInt 1 := ⟨_, rfl⟩
        have b_ := zadd (x := (u4_ 1)) (y := Int32.ofInt 1) rfl (show (Int32.ofInt 1).toInt = 1 from by decide) e_z38 (by omega) (by omega)
        refine lv_iinc (v := z38) (lv' := [(3, .int z38), (2, .int z36), (0, .ref h0), (1, .int x1)]) hx hb dX13_holders_38 hl (k := 3) rfl e_z38.symm (by decide) rfl (fun ls hl => ?_)
        have hkg : zKg zf1 f5 f2 f3 (v0 4).toInt f4 f6 f10 f11 (v0 13).toInt x1.toInt z38.toInt z36.toInt := zKg_n zf1_b hI4_0 (by omega) (by rw [← e_z18]; omega) (by omega) (by omega)
        refine lv_goto (tgt := 4) hx hb dX13_holders_41 (by decide) ?_
        have hc : va_P (dC, dI) vwCl [(h0, .inr (13, mX13 q0 v0)), ((q0 6), zi k5 120 f5), ((q0 11), zi k10 120 f10), ((q0 5), zi k4 122880 f4), ((q0 12), zi k11 120 f11), ((q0 2), zi k2 4800 f2), ((q0 3), zi k3 400 f3), ((q0 7), zi k6 120 f6)] H ∧ va_D A [(h0, .inr (13, mX13 q0 v0)), ((q0 6), zi k5 120 f5), ((q0 11), zi k10 120 f10), ((q0 5), zi k4 122880 f4), ((q0 12), zi k11 120 f11), ((q0 2), zi k2 4800 f2), ((q0 3), zi k3 400 f3), ((q0 7), zi k6 120 f6)] ∧ va_S A s.heap H locs ∧ lv_has ls 4 [(0, .ref h0), (1, .int x1), (2, .int z36), (3, .int z38)] ∧ (0 ≤ z36.toInt ∧ z36.toInt ≤ 120) ∧ (0 ≤ z38.toInt ∧ z38.toInt ≤ 120) ∧ (zKg zf1 f5 f2 f3 (v0 4).toInt f4 f6 f10 f11 (v0 13).toInt x1.toInt z38.toInt z36.toInt) ∧ (z38.toInt ≤ (v0 13).toInt) ∧ (z36.toInt ≤ z38.toInt) ∧ (0 ≤ z36.toInt) := ⟨hP, hD, hS, lv_sub hl [2, 3, 1, 0] rfl, (by first | with_reducible assumption | exact ⟨by omega, by omega⟩), (by first | with_reducible assumption | exact ⟨by omega, by omega⟩), by first | exact hkg | exact zKg_0 (by decide) (by decide), by omega, by omega, by omega⟩
        exact hJ4 H locs ls (fun i => ([z36, z38] : List (Int32)).getD i 0) (fun _ => 0) (fun _ => (fun _ => 0)) (fun _ => (fun _ => 0)) hc (show (120 - z38.toInt).toNat < (120 - (u4_ 1).toInt).toNat from by omega)
      · skip
        have b_ := zF_eq rfl zk_0 c_
        refine lv_aload_n hx hb dX13_holders_22 rfl (lv_at hl 0 rfl) ?_
        refine lv_iload_n hx hb dX13_holders_23 rfl (lv_at hl 3 rfl) ?_
        refine lv_iload_n hx hb dX13_holders_24 rfl (lv_at hl 1 rfl) ?_
        have hPc := hP.sub (ws' := [(h0, .inr (13, mX13 q0 v0)), ((q0 11), zi k10 120 f10), ((q0 5), zi k4 122880 f4), ((q0 12), zi k11 120 f11)]) [0, 2, 3, 4] rfl
        have hDc := hD.sub (ws' := [(h0, .inr (13, mX13 q0 v0)), ((q0 11), zi k10 120 f10), ((q0 5), zi k4 122880 f4), ((q0 12), zi k11 120 f11)]) [0, 2, 3, 4] (by decide) rfl
        have hKc := hK.sub (tys' := [(k10, .int), (k4, .short), (k11, .int)]) [1, 2, 3] rfl
        have hFc := va_free (wc := [(h0, .inr (13, mX13 q0 v0)), ((q0 11), zi k10 120 f10), ((q0 5), zi k4 122880 f4), ((q0 12), zi k11 120 f11)]) hD hS hA [0, 2, 3, 4] rfl
        refine va_calli (va_runV (As := [.int (u4_ 1), .int x1]) (rest := [.int (u4_ 0)]) ⟨hx, hb, hml, hown, hG⟩ (p12_sX13_timesOf_0 l dC dI adK adV h0 q0 k10 k4 k11 H.size v0 f10 f4 f11 (u4_ 1) x1 hv0 hf10 hf4 hf11 (show (0 : Int) ≤ ((u4_ 1) : Int32).toInt ∧ ((u4_ 1) : Int32).toInt ≤ (119 : Int) from (by first | with_reducible assumption | exact ⟨by omega, by omega⟩)) (show (0 : Int) ≤ (x1 : Int32).toInt ∧ (x1 : Int32).toInt ≤ (399 : Int) from (by first | with_reducible assumption | exact ⟨by omega, by omega⟩))) (cwV 2 hG (zgV zv1975 zv1977 zv71 zv142 zv1978) rfl rfl rfl (by decide +kernel) ⟨Nat.le_of_ble_eq_true rfl, Nat.le_of_ble_eq_true rfl⟩) ⟨zPc_blind, va_recv hKc hPc (ci := 13) (q0 := 0) rfl rfl, zPc_pre hPc hKc hDc hE hS hFc hZ⟩ rfl rfl hl.1 rfl (lv_room (Nat.le_of_ble_eq_true rfl)) dX13_holders_25 ⟨Nat.le_of_ble_eq_true rfl, Nat.le_of_ble_eq_true rfl⟩) hS (fun q _ h => hFc q h) hFc (fun r25_ u25_ t H1 locs ht hvm hw hB hz1 hk1 hS => ?_)
        replace hw : (0 ≤ r25_.toInt ∧ r25_.toInt ≤ 1024) ∧ (r25_.toInt ≤ (zp f4 (u4_ 1).toInt x1.toInt 1024).1) ∧ (zTf f4 f10 f11 ((u4_ 1) : Int32) x1.toInt r25_.toInt) := hw
        obtain ⟨b_, hX25_0, hX25_1⟩ := hw
        obtain ⟨w25_, a25_, b25_, hP1, hK1, hD1⟩ := hB
        rw [ht] at hP1
        obtain ⟨hP, hD⟩ := va_join (wr := [((q0 6), zi k5 120 f5), ((q0 2), zi k2 4800 f2), ((q0 3), zi k3 400 f3), ((q0 7), zi k6 120 f6)]) (w1 := [(h0, .inr (13, mX13 q0 v0)), ((q0 11), zi k10 120 f10), ((q0 5), zi k4 122880 f4), ((q0 12), zi k11 120 f11)]) hP hD [0, 2, 3, 4] [1, 5, 6, 7] rfl rfl (by decide) (by decide) hk1 hFc hP1 hD1
        have hP : va_P (dC, dI) vwCl [(h0, .inr (13, mX13 q0 v0)), ((q0 6), zi k5 120 f5), ((q0 11), zi k10 120 f10), ((q0 5), zi k4 122880 f4), ((q0 12), zi k11 120 f11), ((q0 2), zi k2 4800 f2), ((q0 3), zi k3 400 f3), ((q0 7), zi k6 120 f6)] H1 := hP.sub [4, 0, 5, 6, 7, 1, 2, 3] rfl
        have hD : va_D A [(h0, .inr (13, mX13 q0 v0)), ((q0 6), zi k5 120 f5), ((q0 11), zi k10 120 f10), ((q0 5), zi k4 122880 f4), ((q0 12), zi k11 120 f11), ((q0 2), zi k2 4800 f2), ((q0 3), zi k3 400 f3), ((q0 7), zi k6 120 f6)] := hD.sub [4, 0, 5, 6, 7, 1, 2, 3] (by decide) rfl
        generalize H1 = H at hP hS ⊢
        clear hz1
        refine lv_if_le (tgt := 35) hx hb dX13_holders_28 (by decide) (fun c_ => ?_) (fun c_ => ?_)
        · skip
          have b_ := zT_le rfl zk_0 c_
          refine lv_iconst (v := 0) hx hb dX13_holders_35 (by decide) ?_
          refine lv_iadd hx hb dX13_holders_36 ?_
          refine lv_topi (fun z36 e_z36 => ?_)
          have b_ := zadd rfl zk_0 e_z36 (by omega) (by omega)
          refine lv_istore_n (lv' := [(2, .int z36), (0, .ref h0), (1, .int x1), (3, .int (u4_ 1))]) hx hb dX13_holders_37 rfl hl (by decide) rfl (fun ls hl => ?_)
          obtain ⟨z38, e_z38⟩ : ∃ z : Int32, z = (u4_ 1) + Int32.ofInt 1 := ⟨_, rfl⟩
          have b_ := zadd (x := (u4_ 1)) (y := Int32.ofInt 1) rfl (show (Int32.ofInt 1).toInt = 1 from by decide) e_z38 (by omega) (by omega)
          refine lv_iinc (v := z38) (lv' := [(3, .int z38), (2, .int z36), (0, .ref h0), (1, .int x1)]) hx hb dX13_holders_38 hl (k := 3) rfl e_z38.symm (by decide) rfl (fun ls hl => ?_)
          have hkg : zKg zf1 f5 f2 f3 (v0 4).toInt f4 f6 f10 f11 (v0 13).toInt x1.toInt z38.toInt z36.toInt := zKg_t zf1_b hI4_0 (by omega) (by omega) (by omega) (by omega) (by rw [← e_z18]; omega) hX25_1 (by omega) (fun q1 q2 q3 q4 => by have f := zf1_b (r25_.toInt).toNat; omega)
          refine lv_goto (tgt := 4) hx hb dX13_holders_41 (by decide) ?_
          have hc : va_P (dC, dI) vwCl [(h0, .inr (13, mX13 q0 v0)), ((q0 6), zi k5 120 f5), ((q0 11), zi k10 120 f10), ((q0 5), zi k4 122880 f4), ((q0 12), zi k11 120 f11), ((q0 2), zi k2 4800 f2), ((q0 3), zi k3 400 f3), ((q0 7), zi k6 120 f6)] H ∧ va_D A [(h0, .inr (13, mX13 q0 v0)), ((q0 6), zi k5 120 f5), ((q0 11), zi k10 120 f10), ((q0 5), zi k4 122880 f4), ((q0 12), zi k11 120 f11), ((q0 2), zi k2 4800 f2), ((q0 3), zi k3 400 f3), ((q0 7), zi k6 120 f6)] ∧ va_S A s.heap H locs ∧ lv_has ls 4 [(0, .ref h0), (1, .int x1), (2, .int z36), (3, .int z38)] ∧ (0 ≤ z36.toInt ∧ z36.toInt ≤ 120) ∧ (0 ≤ z38.toInt ∧ z38.toInt ≤ 120) ∧ (zKg zf1 f5 f2 f3 (v0 4).toInt f4 f6 f10 f11 (v0 13).toInt x1.toInt z38.toInt z36.toInt) ∧ (z38.toInt ≤ (v0 13).toInt) ∧ (z36.toInt ≤ z38.toInt) ∧ (0 ≤ z36.toInt) := ⟨hP, hD, hS, lv_sub hl [2, 3, 1, 0] rfl, (by first | with_reducible assumption | exact ⟨by omega, by omega⟩), (by first | with_reducible assumption | exact ⟨by omega, by omega⟩), by first | exact hkg | exact zKg_0 (by decide) (by decide), by omega, by omega, by omega⟩
          exact hJ4 H locs ls (fun i => ([z36, z38] : List (Int32)).getD i 0) (fun _ => 0) (fun _ => (fun _ => 0)) (fun _ => (fun _ => 0)) hc (show (120 - z38.toInt).toNat < (120 - (u4_ 1).toInt).toNat from by omega)
        · skip
          have b_ := zF_le rfl zk_0 c_
          refine lv_iconst (v := 1) hx hb dX13_holders_31 (by decide) ?_
          refine lv_goto (tgt := 36) hx hb dX13_holders_32 (by decide) ?_
          refine lv_iadd hx hb dX13_holders_36 ?_
          refine lv_topi (fun z36 e_z36 => ?_)
          have b_ := zadd rfl zk_1 e_z36 (by omega) (by omega)
          refine lv_istore_n (lv' := [(2, .int z36), (0, .ref h0), (1, .int x1), (3, .int (u4_ 1))]) hx hb dX13_holders_37 rfl hl (by decide) rfl (fun ls hl => ?_)
          obtain ⟨z38, e_z38⟩ : ∃ z : Int32, z = (u4_ 1) + Int32.ofInt 1 := ⟨_, rfl⟩
          have b_ := zadd (x := (u4_ 1)) (y := Int32.ofInt 1) rfl (show (Int32.ofInt 1).toInt = 1 from by decide) e_z38 (by omega) (by omega)
          refine lv_iinc (v := z38) (lv' := [(3, .int z38), (2, .int z36), (0, .ref h0), (1, .int x1)]) hx hb dX13_holders_38 hl (k := 3) rfl e_z38.symm (by decide) rfl (fun ls hl => ?_)
          have hkg : zKg zf1 f5 f2 f3 (v0 4).toInt f4 f6 f10 f11 (v0 13).toInt x1.toInt z38.toInt z36.toInt := zKg_t zf1_b hI4_0 (by omega) (by omega) (by omega) (by omega) (by rw [← e_z18]; omega) hX25_1 (by omega) (fun q1 q2 q3 q4 => by rw [zf1_p (by omega)]; omega)
          refine lv_goto (tgt := 4) hx hb dX13_holders_41 (by decide) ?_
          have hc : va_P (dC, dI) vwCl [(h0, .inr (13, mX13 q0 v0)), ((q0 6), zi k5 120 f5), ((q0 11), zi k10 120 f10), ((q0 5), zi k4 122880 f4), ((q0 12), zi k11 120 f11), ((q0 2), zi k2 4800 f2), ((q0 3), zi k3 400 f3), ((q0 7), zi k6 120 f6)] H ∧ va_D A [(h0, .inr (13, mX13 q0 v0)), ((q0 6), zi k5 120 f5), ((q0 11), zi k10 120 f10), ((q0 5), zi k4 122880 f4), ((q0 12), zi k11 120 f11), ((q0 2), zi k2 4800 f2), ((q0 3), zi k3 400 f3), ((q0 7), zi k6 120 f6)] ∧ va_S A s.heap H locs ∧ lv_has ls 4 [(0, .ref h0), (1, .int x1), (2, .int z36), (3, .int z38)] ∧ (0 ≤ z36.toInt ∧ z36.toInt ≤ 120) ∧ (0 ≤ z38.toInt ∧ z38.toInt ≤ 120) ∧ (zKg zf1 f5 f2 f3 (v0 4).toInt f4 f6 f10 f11 (v0 13).toInt x1.toInt z38.toInt z36.toInt) ∧ (z38.toInt ≤ (v0 13).toInt) ∧ (z36.toInt ≤ z38.toInt) ∧ (0 ≤ z36.toInt) := ⟨hP, hD, hS, lv_sub hl [2, 3, 1, 0] rfl, (by first | with_reducible assumption | exact ⟨by omega, by omega⟩), (by first | with_reducible assumption | exact ⟨by omega, by omega⟩), by first | exact hkg | exact zKg_0 (by decide) (by decide), by omega, by omega, by omega⟩
          exact hJ4 H locs ls (fun i => ([z36, z38] : List (Int32)).getD i 0) (fun _ => 0) (fun _ => (fun _ => 0)) (fun _ => (fun _ => 0)) hc (show (120 - z38.toInt).toNat < (120 - (u4_ 1).toInt).toNat from by omega)
  · skip
    have hc : va_P (dC, dI) vwCl [(h0, .inr (13, mX13 q0 v0)), ((q0 6), zi k5 120 f5), ((q0 11), zi k10 120 f10), ((q0 5), zi k4 122880 f4), ((q0 12), zi k11 120 f11), ((q0 2), zi k2 4800 f2), ((q0 3), zi k3 400 f3), ((q0 7), zi k6 120 f6)] s.heap ∧ va_D A [(h0, .inr (13, mX13 q0 v0)), ((q0 6), zi k5 120 f5), ((q0 11), zi k10 120 f10), ((q0 5), zi k4 122880 f4), ((q0 12), zi k11 120 f11), ((q0 2), zi k2 4800 f2), ((q0 3), zi k3 400 f3), ((q0 7), zi k6 120 f6)] ∧ va_S A s.heap s.heap [] ∧ lv_has ls 4 [(0, .ref h0), (1, .int x1), (2, .int 0), (3, .int 0)] ∧ (0 ≤ (0 : Int32).toInt ∧ (0 : Int32).toInt ≤ 120) ∧ (0 ≤ (0 : Int32).toInt ∧ (0 : Int32).toInt ≤ 120) ∧ (zKg zf1 f5 f2 f3 (v0 4).toInt f4 f6 f10 f11 (v0 13).toInt x1.toInt (0 : Int32).toInt (0 : Int32).toInt) ∧ ((0 : Int32).toInt ≤ (v0 13).toInt) ∧ ((0 : Int32).toInt ≤ (0 : Int32).toInt) ∧ (0 ≤ (0 : Int32).toInt) := ⟨hP, hD, hS, lv_sub hl [2, 3, 1, 0] rfl, (by first | with_reducible assumption | exact ⟨by omega, by omega⟩), (by first | with_reducible assumption | exact ⟨by omega, by omega⟩), by first | exact hkg | exact zKg_0 (by decide) (by decide), by omega, by omega, by omega⟩
    exact hJ4 s.heap [] ls (fun i => ([0, 0] : List (Int32)).getD i 0) (fun _ => 0) (fun _ => (fun _ => 0)) (fun _ => (fun _ => 0)) hc
set_option maxHeartbeats 8000000 in
set_option maxRecDepth 100000 in
theorem p12_sX13_order_0 (l : Launch) (dC : Nat → ClassId) (dI : Nat → Nat → Nat) (adK adV : Nat → Nat) (h0 : Nat) (q0 : Nat → Nat) (k3 : ClassId) (k2 : ClassId) (sz : Nat) (v0 : Nat → Int32) (f3 : Nat → Int32) (f2 : Nat → Int32) (x1 : Int32) (x2 : Int32) (hv0 : zR rg_Model v0) (hf3 : zA 0 12 f3) (hx1 : 0 ≤ x1.toInt ∧ x1.toInt ≤ 399) (hx2 : 0 ≤ x2.toInt ∧ x2.toInt ≤ 399) : Met l yX13_order (zw yX13_order cX13_order 4 (some .int)) { frames := 0, cells := 0, slots := 0, locals := 0 } (zPc dC dI adK adV [.ref h0, .int x1, .int x2] sz [(h0, .inr (13, mX13 q0 v0)), ((q0 3), zi k3 400 f3), ((q0 2), zi k2 4800 f2)] [(k3, .int), (k2, .byte)]) (va_Qi (fun (r : Int32) (u : Nat → Int32) => (zOr f2 f3 (v0 4).toInt x1.toInt x2.toInt r.toInt)) (fun (u : Nat → Int32) (t : State) => ∃ (ww : Nat → Int64) (aa : Nat → Nat → Int32) (bb : Nat → Nat → Int64), va_P (dC, dI) vwCl [(h0, .inr (13, mX13 q0 v0)), ((q0 3), zi k3 400 f3), ((q0 2), zi k2 4800 f2)] t.heap ∧ va_K (dC, dI) vwCl [(k3, .int), (k2, .byte)] t ∧ va_D (va_A [(h0, .inr (13, mX13 q0 v0)), ((q0 3), zi k3 400 f3), ((q0 2), zi k2 4800 f2)] sz) [(h0, .inr (13, mX13 q0 v0)), ((q0 3), zi k3 400 f3), ((q0 2), zi k2 4800 f2)]) (va_A [(h0, .inr (13, mX13 q0 v0)), ((q0 3), zi k3 400 f3), ((q0 2), zi k2 4800 f2)] sz)) 0 0 (va_A [(h0, .inr (13, mX13 q0 v0)), ((q0 3), zi k3 400 f3), ((q0 2), zi k2 4800 f2)] sz) := by
  sorry
set_option maxHeartbeats 8000000 in
set_option maxRecDepth 100000 in
theorem p12_sX13_ahead_0 (l : Launch) (dC : Nat → ClassId) (dI : Nat → Nat → Nat) (adK adV : Nat → Nat) (h0 : Nat) (q0 : Nat → Nat) (k3 : ClassId) (k2 : ClassId) (sz : Nat) (v0 : Nat → Int32) (f3 : Nat → Int32) (f2 : Nat → Int32) (x1 : Int32) (hv0 : zR rg_Model v0) (hf3 : zA 0 12 f3) (hx1 : 0 ≤ x1.toInt ∧ x1.toInt ≤ 399) : Met l yX13_ahead (zw yX13_ahead cX13_ahead 4 (some .int)) { frames := 1, cells := 0, slots := 0, locals := 23 } (zPc dC dI adK adV [.ref h0, .int x1] sz [(h0, .inr (13, mX13 q0 v0)), ((q0 3), zi k3 400 f3), ((q0 2), zi k2 4800 f2)] [(k3, .int), (k2, .byte)]) (va_Qi (fun (r : Int32) (u : Nat → Int32) => (0 ≤ r.toInt ∧ r.toInt ≤ 400) ∧ (zAh f2 f3 (v0 4).toInt x1.toInt (v0 4).toInt r.toInt)) (fun (u : Nat → Int32) (t : State) => ∃ (ww : Nat → Int64) (aa : Nat → Nat → Int32) (bb : Nat → Nat → Int64), va_P (dC, dI) vwCl [(h0, .inr (13, mX13 q0 v0)), ((q0 3), zi k3 400 f3), ((q0 2), zi k2 4800 f2)] t.heap ∧ va_K (dC, dI) vwCl [(k3, .int), (k2, .byte)] t ∧ va_D (va_A [(h0, .inr (13, mX13 q0 v0)), ((q0 3), zi k3 400 f3), ((q0 2), zi k2 4800 f2)] sz) [(h0, .inr (13, mX13 q0 v0)), ((q0 3), zi k3 400 f3), ((q0 2), zi k2 4800 f2)]) (va_A [(h0, .inr (13, mX13 q0 v0)), ((q0 3), zi k3 400 f3), ((q0 2), zi k2 4800 f2)] sz)) 0 0 (va_A [(h0, .inr (13, mX13 q0 v0)), ((q0 3), zi k3 400 f3), ((q0 2), zi k2 4800 f2)] sz) := by
  refine Met.ofW (cc := cX13_ahead) (maxL := 4) (ret := (some .int)) (by decide) rfl ?_
  intro p e s m args below meth c s₁ B hml hv
  obtain ⟨rfl, hsz, hP, hK, hD0, hE, hZ⟩ := hv
  have hx := B.exec
  have hb := B.bytes
  have hr := B.returns
  have hG : ∀ w ∈ zG, w.before _ s = true := fun w h => atoms_spec (ws := (zw yX13_ahead cX13_ahead 4 (some .int))) B.pre w (List.mem_cons_of_mem _ h)
  have hown : s.vm.findClass RX13 = some m.cls := findClass_of_methodNamed B.named
  have hlocks := B.notSynchronized

  subst hsz
  have hD := hD0.self (sz := s.heap.size)
  generalize hAe : va_A [(h0, .inr (13, mX13 q0 v0)), ((q0 3), zi k3 400 f3), ((q0 2), zi k2 4800 f2)] s.heap.size = A at hD hZ ⊢
  have hA : ∀ q : Nat, s.heap.size ≤ q → A q := fun q h => by rw [← hAe]; exact Or.inr h
  have hS : va_S A s.heap s.heap [] := va_S.rf
  have hl := lv_entry ([.ref h0, .int x1]) (n := 4) (Nat.le_of_ble_eq_true rfl)
  rw [lg_entry_eq]
  generalize (lg_sl ([.ref h0, .int x1]) ++ List.replicate (4 - (lg_sl ([.ref h0, .int x1])).length) Slot.unset).toArray = ls at hl ⊢
  have hl : lv_has ls 4 [(0, .ref h0), (1, .int x1)] := hl
  have b_ := zk_0
  have b_ : 0 ≤ (v0 4).toInt ∧ (v0 4).toInt ≤ 400 := hv0 4
  refine lv_iconst (v := 0) hx hb dX13_ahead_0 (by decide) ?_
  refine lv_istore_n (lv' := [(2, .int 0), (0, .ref h0), (1, .int x1)]) hx hb dX13_ahead_1 rfl hl (by decide) rfl (fun ls hl => ?_)
  refine lv_iconst (v := 0) hx hb dX13_ahead_2 (by decide) ?_
  refine lv_istore_n (lv' := [(3, .int 0), (2, .int 0), (0, .ref h0), (1, .int x1)]) hx hb dX13_ahead_3 rfl hl (by decide) rfl (fun ls hl => ?_)
  refine zcutL (fun u4_ => (400 - (u4_ 1).toInt).toNat) (fun H locs ls u4_ w4_ a4_ b4_ => va_P (dC, dI) vwCl [(h0, .inr (13, mX13 q0 v0)), ((q0 3), zi k3 400 f3), ((q0 2), zi k2 4800 f2)] H ∧ va_D A [(h0, .inr (13, mX13 q0 v0)), ((q0 3), zi k3 400 f3), ((q0 2), zi k2 4800 f2)] ∧ va_S A s.heap H locs ∧ lv_has ls 4 [(0, .ref h0), (1, .int x1), (2, .int (u4_ 0)), (3, .int (u4_ 1))] ∧ (0 ≤ (u4_ 0).toInt ∧ (u4_ 0).toInt ≤ 400) ∧ (0 ≤ (u4_ 1).toInt ∧ (u4_ 1).toInt ≤ 400) ∧ (zAh f2 f3 (v0 4).toInt x1.toInt (u4_ 1).toInt (u4_ 0).toInt) ∧ ((u4_ 1).toInt ≤ (v0 4).toInt) ∧ ((u4_ 0).toInt ≤ (u4_ 1).toInt) ∧ (0 ≤ (u4_ 0).toInt)) (fun ls u4_ w4_ => F0 m 4 ls []) 0 0 ?_ (fun hJ4 => ?_)
  · skip
    intro H locs ls u4_ w4_ a4_ b4_ hc hJ4
    obtain ⟨hP, hD, hS, hl, b_, b_, hI4_0, b_, b_, b_⟩ := hc
    refine lv_iload_n hx hb dX13_ahead_4 rfl (lv_at hl 3 rfl) ?_
    refine lv_aload_n hx hb dX13_ahead_5 rfl (lv_at hl 0 rfl) ?_
    refine va_get (D := (dC, dI)) (ci := 13) (v := .int (v0 4)) (C := RX13) (T := TX13) (N := 75) hx hb hG zuX13 hown hK hP 0 rfl rfl 4 (by decide) (hG _ zv1608) (fun _ h9 => h9) rfl dX13_ahead_6 ?_
    refine lv_icmp_ge (tgt := 35) hx hb dX13_ahead_9 (by decide) (fun c_ => ?_) (fun c_ => ?_)
    · skip
      have b_ := zT_ge rfl rfl c_
      refine lv_iload_n hx hb dX13_ahead_35 rfl (lv_at hl 2 rfl) ?_
      refine W.widen (k := 0) (n := 0) (by decide) (by decide) ?_
      have hpost : (0 ≤ (u4_ 0).toInt ∧ (u4_ 0).toInt ≤ 400) ∧ (zAh f2 f3 (v0 4).toInt x1.toInt (v0 4).toInt (u4_ 0).toInt) := ⟨(by first | with_reducible assumption | exact ⟨by omega, by omega⟩), by exact zAh_e hI4_0 (by omega) (by omega) rfl⟩
      have hP9 : va_P (dC, dI) vwCl [(h0, .inr (13, mX13 q0 v0)), ((q0 3), zi k3 400 f3), ((q0 2), zi k2 4800 f2)] H := hP
      have hD9 : va_D A [(h0, .inr (13, mX13 q0 v0)), ((q0 3), zi k3 400 f3), ((q0 2), zi k2 4800 f2)] := hD
      exact W.iret (v := (u4_ 0)) hx hb hr (fun t ht hW => ⟨⟨(u4_ 0), (fun _ => 0), rfl, hpost, (fun _ => 0), (fun _ => (fun _ => 0)), (fun _ => (fun _ => 0)), by rw [ht]; exact hP9, va_K.moved hW.alike hK, hD9⟩, hS.F ht⟩) hS.2.2 dX13_ahead_36
    · skip
      have b_ := zF_ge rfl rfl c_
      refine lv_iload_n hx hb dX13_ahead_12 rfl (lv_at hl 2 rfl) ?_
      refine lv_aload_n hx hb dX13_ahead_13 rfl (lv_at hl 0 rfl) ?_
      refine lv_iload_n hx hb dX13_ahead_14 rfl (lv_at hl 3 rfl) ?_
      refine lv_iload_n hx hb dX13_ahead_15 rfl (lv_at hl 1 rfl) ?_
      have hPc := hP.sub (ws' := [(h0, .inr (13, mX13 q0 v0)), ((q0 3), zi k3 400 f3), ((q0 2), zi k2 4800 f2)]) [0, 1, 2] rfl
      have hDc := hD.sub (ws' := [(h0, .inr (13, mX13 q0 v0)), ((q0 3), zi k3 400 f3), ((q0 2), zi k2 4800 f2)]) [0, 1, 2] (by decide) rfl
      have hKc := hK.sub (tys' := [(k3, .int), (k2, .byte)]) [0, 1] rfl
      have hFc := va_free (wc := [(h0, .inr (13, mX13 q0 v0)), ((q0 3), zi k3 400 f3), ((q0 2), zi k2 4800 f2)]) hD hS hA [0, 1, 2] rfl
      refine va_calli (va_runV (As := [.int (u4_ 1), .int x1]) (rest := [.int (u4_ 0)]) ⟨hx, hb, hml, hown, hG⟩ (p12_sX13_order_0 l dC dI adK adV h0 q0 k3 k2 H.size v0 f3 f2 (u4_ 1) x1 hv0 hf3 (show (0 : Int) ≤ ((u4_ 1) : Int32).toInt ∧ ((u4_ 1) : Int32).toInt ≤ (399 : Int) from (by first | with_reducible assumption | exact ⟨by omega, by omega⟩)) (show (0 : Int) ≤ (x1 : Int32).toInt ∧ (x1 : Int32).toInt ≤ (399 : Int) from (by first | with_reducible assumption | exact ⟨by omega, by omega⟩))) (cwV 2 hG (zgV zv2006 zv2008 zv77 zv142 zv2009) rfl rfl rfl (by decide +kernel) ⟨Nat.le_of_ble_eq_true rfl, Nat.le_of_ble_eq_true rfl⟩) ⟨zPc_blind, va_recv hKc hPc (ci := 13) (q0 := 0) rfl rfl, zPc_pre hPc hKc hDc hE hS hFc hZ⟩ rfl rfl hl.1 rfl (lv_room (Nat.le_of_ble_eq_true rfl)) dX13_ahead_16 ⟨Nat.le_of_ble_eq_true rfl, Nat.le_of_ble_eq_true rfl⟩) hS (fun q _ h => hFc q h) hFc (fun r16_ u16_ t H1 locs ht hvm hw hB hz1 hk1 hS => ?_)
      replace hw : (zOr f2 f3 (v0 4).toInt (u4_ 1).toInt x1.toInt r16_.toInt) := hw
      have hX16_0 := hw
      obtain ⟨w16_, a16_, b16_, hP1, hK1, hD1⟩ := hB
      rw [ht] at hP1
      obtain ⟨hP, hD⟩ := va_join (wr := []) (w1 := [(h0, .inr (13, mX13 q0 v0)), ((q0 3), zi k3 400 f3), ((q0 2), zi k2 4800 f2)]) hP hD [0, 1, 2] [] rfl rfl (by decide) (by decide) hk1 hFc hP1 hD1
      have hP : va_P (dC, dI) vwCl [(h0, .inr (13, mX13 q0 v0)), ((q0 3), zi k3 400 f3), ((q0 2), zi k2 4800 f2)] H1 := hP.sub [0, 1, 2] rfl
      have hD : va_D A [(h0, .inr (13, mX13 q0 v0)), ((q0 3), zi k3 400 f3), ((q0 2), zi k2 4800 f2)] := hD.sub [0, 1, 2] (by decide) rfl
      generalize H1 = H at hP hS ⊢
      clear hz1
      have b_ : -2147483648 ≤ r16_.toInt ∧ r16_.toInt ≤ 2147483647 := ⟨zlo _, zhi _⟩
      refine lv_if_ge (tgt := 26) hx hb dX13_ahead_19 (by decide) (fun c_ => ?_) (fun c_ => ?_)
      · skip
        have b_ := zT_ge rfl zk_0 c_
        refine lv_iconst (v := 0) hx hb dX13_ahead_26 (by decide) ?_
        refine lv_iadd hx hb dX13_ahead_27 ?_
        refine lv_topi (fun z27 e_z27 => ?_)
        have b_ := zadd rfl zk_0 e_z27 (by omega) (by omega)
        refine lv_istore_n (lv' := [(2, .int z27), (0, .ref h0), (1, .int x1), (3, .int (u4_ 1))]) hx hb dX13_ahead_28 rfl hl (by decide) rfl (fun ls hl => ?_)
        obtain ⟨z29, e_z29⟩ : ∃ z : Int32, z = (u4_ 1) + Int32.ofInt 1 := ⟨_, rfl⟩
        have b_ := zadd (x := (u4_ 1)) (y := Int32.ofInt 1) rfl (show (Int32.ofInt 1).toInt = 1 from by decide) e_z29 (by omega) (by omega)
        refine lv_iinc (v := z29) (lv' := [(3, .int z29), (2, .int z27), (0, .ref h0), (1, .int x1)]) hx hb dX13_ahead_29 hl (k := 3) rfl e_z29.symm (by decide) rfl (fun ls hl => ?_)
        have hah : zAh f2 f3 (v0 4).toInt x1.toInt z29.toInt z27.toInt := zAh_s hI4_0 hX16_0 (by omega) (by omega) (by omega) (by omega)
        refine lv_goto (tgt := 4) hx hb dX13_ahead_32 (by decide) ?_
        have hc : va_P (dC, dI) vwCl [(h0, .inr (13, mX13 q0 v0)), ((q0 3), zi k3 400 f3), ((q0 2), zi k2 4800 f2)] H ∧ va_D A [(h0, .inr (13, mX13 q0 v0)), ((q0 3), zi k3 400 f3), ((q0 2), zi k2 4800 f2)] ∧ va_S A s.heap H locs ∧ lv_has ls 4 [(0, .ref h0), (1, .int x1), (2, .int z27), (3, .int z29)] ∧ (0 ≤ z27.toInt ∧ z27.toInt ≤ 400) ∧ (0 ≤ z29.toInt ∧ z29.toInt ≤ 400) ∧ (zAh f2 f3 (v0 4).toInt x1.toInt z29.toInt z27.toInt) ∧ (z29.toInt ≤ (v0 4).toInt) ∧ (z27.toInt ≤ z29.toInt) ∧ (0 ≤ z27.toInt) := ⟨hP, hD, hS, lv_sub hl [2, 3, 1, 0] rfl, (by first | with_reducible assumption | exact ⟨by omega, by omega⟩), (by first | with_reducible assumption | exact ⟨by omega, by omega⟩), by first | exact hah | exact zAh_0 (by decide) (by decide), by omega, by omega, by omega⟩
        exact hJ4 H locs ls (fun i => ([z27, z29] : List (Int32)).getD i 0) (fun _ => 0) (fun _ => (fun _ => 0)) (fun _ => (fun _ => 0)) hc (show (400 - z29.toInt).toNat < (400 - (u4_ 1).toInt).toNat from by omega)
      · skip
        have b_ := zF_ge rfl zk_0 c_
        refine lv_iconst (v := 1) hx hb dX13_ahead_22 (by decide) ?_
        refine lv_goto (tgt := 27) hx hb dX13_ahead_23 (by decide) ?_
        refine lv_iadd hx hb dX13_ahead_27 ?_
        refine lv_topi (fun z27 e_z27 => ?_)
        have b_ := zadd rfl zk_1 e_z27 (by omega) (by omega)
        refine lv_istore_n (lv' := [(2, .int z27), (0, .ref h0), (1, .int x1), (3, .int (u4_ 1))]) hx hb dX13_ahead_28 rfl hl (by decide) rfl (fun ls hl => ?_)
        obtain ⟨z29, e_z29⟩ : ∃ z : Int32, z = (u4_ 1) + Int32.ofInt 1 := ⟨_, rfl⟩
        have b_ := zadd (x := (u4_ 1)) (y := Int32.ofInt 1) rfl (show (Int32.ofInt 1).toInt = 1 from by decide) e_z29 (by omega) (by omega)
        refine lv_iinc (v := z29) (lv' := [(3, .int z29), (2, .int z27), (0, .ref h0), (1, .int x1)]) hx hb dX13_ahead_29 hl (k := 3) rfl e_z29.symm (by decide) rfl (fun ls hl => ?_)
        have hah : zAh f2 f3 (v0 4).toInt x1.toInt z29.toInt z27.toInt := zAh_s hI4_0 hX16_0 (by omega) (by omega) (by omega) (by omega)
        refine lv_goto (tgt := 4) hx hb dX13_ahead_32 (by decide) ?_
        have hc : va_P (dC, dI) vwCl [(h0, .inr (13, mX13 q0 v0)), ((q0 3), zi k3 400 f3), ((q0 2), zi k2 4800 f2)] H ∧ va_D A [(h0, .inr (13, mX13 q0 v0)), ((q0 3), zi k3 400 f3), ((q0 2), zi k2 4800 f2)] ∧ va_S A s.heap H locs ∧ lv_has ls 4 [(0, .ref h0), (1, .int x1), (2, .int z27), (3, .int z29)] ∧ (0 ≤ z27.toInt ∧ z27.toInt ≤ 400) ∧ (0 ≤ z29.toInt ∧ z29.toInt ≤ 400) ∧ (zAh f2 f3 (v0 4).toInt x1.toInt z29.toInt z27.toInt) ∧ (z29.toInt ≤ (v0 4).toInt) ∧ (z27.toInt ≤ z29.toInt) ∧ (0 ≤ z27.toInt) := ⟨hP, hD, hS, lv_sub hl [2, 3, 1, 0] rfl, (by first | with_reducible assumption | exact ⟨by omega, by omega⟩), (by first | with_reducible assumption | exact ⟨by omega, by omega⟩), by first | exact hah | exact zAh_0 (by decide) (by decide), by omega, by omega, by omega⟩
        exact hJ4 H locs ls (fun i => ([z27, z29] : List (Int32)).getD i 0) (fun _ => 0) (fun _ => (fun _ => 0)) (fun _ => (fun _ => 0)) hc (show (400 - z29.toInt).toNat < (400 - (u4_ 1).toInt).toNat from by omega)
  · skip
    have hc : va_P (dC, dI) vwCl [(h0, .inr (13, mX13 q0 v0)), ((q0 3), zi k3 400 f3), ((q0 2), zi k2 4800 f2)] s.heap ∧ va_D A [(h0, .inr (13, mX13 q0 v0)), ((q0 3), zi k3 400 f3), ((q0 2), zi k2 4800 f2)] ∧ va_S A s.heap s.heap [] ∧ lv_has ls 4 [(0, .ref h0), (1, .int x1), (2, .int 0), (3, .int 0)] ∧ (0 ≤ (0 : Int32).toInt ∧ (0 : Int32).toInt ≤ 400) ∧ (0 ≤ (0 : Int32).toInt ∧ (0 : Int32).toInt ≤ 400) ∧ (zAh f2 f3 (v0 4).toInt x1.toInt (0 : Int32).toInt (0 : Int32).toInt) ∧ ((0 : Int32).toInt ≤ (v0 4).toInt) ∧ ((0 : Int32).toInt ≤ (0 : Int32).toInt) ∧ (0 ≤ (0 : Int32).toInt) := ⟨hP, hD, hS, lv_sub hl [2, 3, 1, 0] rfl, (by first | with_reducible assumption | exact ⟨by omega, by omega⟩), (by first | with_reducible assumption | exact ⟨by omega, by omega⟩), by first | exact hah | exact zAh_0 (by decide) (by decide), by omega, by omega, by omega⟩
    exact hJ4 s.heap [] ls (fun i => ([0, 0] : List (Int32)).getD i 0) (fun _ => 0) (fun _ => (fun _ => 0)) (fun _ => (fun _ => 0)) hc
set_option maxHeartbeats 8000000 in
set_option maxRecDepth 100000 in
theorem p12_sX13_posting_0 (l : Launch) (dC : Nat → ClassId) (dI : Nat → Nat → Nat) (adK adV : Nat → Nat) (h0 : Nat) (q0 : Nat → Nat) (k14 : ClassId) (k15 : ClassId) (k3 : ClassId) (k2 : ClassId) (k6 : ClassId) (k10 : ClassId) (k4 : ClassId) (k11 : ClassId) (k16 : ClassId) (k5 : ClassId) (sz : Nat) (v0 : Nat → Int32) (f14 : Nat → Int32) (f15 : Nat → Int32) (f3 : Nat → Int32) (f2 : Nat → Int32) (f6 : Nat → Int32) (f10 : Nat → Int32) (f4 : Nat → Int32) (f11 : Nat → Int32) (f16 : Nat → Int32) (f5 : Nat → Int32) (x1 : Int32) (hv0 : zR rg_Model v0) (hf3 : zA 0 12 f3) (hf10 : zA 0 512 f10) (hf4 : zA 0 400 f4) (hf11 : zA 0 512 f11) : Met l yX13_posting (zw yX13_posting cX13_posting 5 (some .int)) { frames := 3, cells := 0, slots := 0, locals := 72 } (zPc dC dI adK adV [.ref h0, .int x1] sz [(h0, .inr (13, mX13 q0 v0)), ((q0 17), zi k14 12 f14), ((q0 19), zi k15 12 f15), ((q0 3), zi k3 400 f3), ((q0 2), zi k2 4800 f2), ((q0 7), zi k6 120 f6), ((q0 11), zi k10 120 f10), ((q0 5), zi k4 122880 f4), ((q0 12), zi k11 120 f11), ((q0 22), zi k16 40000 f16), ((q0 6), zi k5 120 f5)] [(k14, .byte), (k15, .byte), (k3, .int), (k2, .byte), (k6, .boolean), (k10, .int), (k4, .short), (k11, .int), (k16, .byte), (k5, .boolean)]) (va_Qi (fun (r : Int32) (u : Nat → Int32) => (0 ≤ (u 0).toInt ∧ (u 0).toInt ≤ 12) ∧ (0 ≤ (u 1).toInt ∧ (u 1).toInt ≤ 0) ∧ (0 ≤ (u 3).toInt ∧ (u 3).toInt ≤ 1) ∧ (zPr f14 (v0 18).toInt f2 f3 (v0 4).toInt f4 f6 f10 f11 (v0 13).toInt f5 x1.toInt r.toInt)) (fun (u : Nat → Int32) (t : State) => ∃ (ww : Nat → Int64) (aa : Nat → Nat → Int32) (bb : Nat → Nat → Int64), va_P (dC, dI) vwCl [(h0, .inr (13, mX13 q0 (upd (upd (upd (upd v0 20 (u 0)) 21 (u 1)) 23 (u 2)) 24 (u 3)))), ((q0 17), zi k14 12 f14), ((q0 19), zi k15 12 (aa 0)), ((q0 3), zi k3 400 f3), ((q0 2), zi k2 4800 f2), ((q0 7), zi k6 120 f6), ((q0 11), zi k10 120 f10), ((q0 5), zi k4 122880 f4), ((q0 12), zi k11 120 f11), ((q0 22), zi k16 40000 (aa 1)), ((q0 6), zi k5 120 f5)] t.heap ∧ va_K (dC, dI) vwCl [(k14, .byte), (k15, .byte), (k3, .int), (k2, .byte), (k6, .boolean), (k10, .int), (k4, .short), (k11, .int), (k16, .byte), (k5, .boolean)] t ∧ va_D (va_A [(h0, .inr (13, mX13 q0 v0)), ((q0 17), zi k14 12 f14), ((q0 19), zi k15 12 f15), ((q0 3), zi k3 400 f3), ((q0 2), zi k2 4800 f2), ((q0 7), zi k6 120 f6), ((q0 11), zi k10 120 f10), ((q0 5), zi k4 122880 f4), ((q0 12), zi k11 120 f11), ((q0 22), zi k16 40000 f16), ((q0 6), zi k5 120 f5)] sz) [(h0, .inr (13, mX13 q0 (upd (upd (upd (upd v0 20 (u 0)) 21 (u 1)) 23 (u 2)) 24 (u 3)))), ((q0 17), zi k14 12 f14), ((q0 19), zi k15 12 (aa 0)), ((q0 3), zi k3 400 f3), ((q0 2), zi k2 4800 f2), ((q0 7), zi k6 120 f6), ((q0 11), zi k10 120 f10), ((q0 5), zi k4 122880 f4), ((q0 12), zi k11 120 f11), ((q0 22), zi k16 40000 (aa 1)), ((q0 6), zi k5 120 f5)]) (va_A [(h0, .inr (13, mX13 q0 v0)), ((q0 17), zi k14 12 f14), ((q0 19), zi k15 12 f15), ((q0 3), zi k3 400 f3), ((q0 2), zi k2 4800 f2), ((q0 7), zi k6 120 f6), ((q0 11), zi k10 120 f10), ((q0 5), zi k4 122880 f4), ((q0 12), zi k11 120 f11), ((q0 22), zi k16 40000 f16), ((q0 6), zi k5 120 f5)] sz)) 0 0 (va_A [(h0, .inr (13, mX13 q0 v0)), ((q0 17), zi k14 12 f14), ((q0 19), zi k15 12 f15), ((q0 3), zi k3 400 f3), ((q0 2), zi k2 4800 f2), ((q0 7), zi k6 120 f6), ((q0 11), zi k10 120 f10), ((q0 5), zi k4 122880 f4), ((q0 12), zi k11 120 f11), ((q0 22), zi k16 40000 f16), ((q0 6), zi k5 120 f5)] sz) := by
  refine Met.ofW (cc := cX13_posting) (maxL := 5) (ret := (some .int)) (by decide) rfl ?_
  intro p e s m args below meth c s₁ B hml hv
  obtain ⟨rfl, hsz, hP, hK, hD0, hE, hZ⟩ := hv
  have hx := B.exec
  have hb := B.bytes
  have hr := B.returns
  have hG : ∀ w ∈ zG, w.before _ s = true := fun w h => atoms_spec (ws := (zw yX13_posting cX13_posting 5 (some .int))) B.pre w (List.mem_cons_of_mem _ h)
  have hown : s.vm.findClass RX13 = some m.cls := findClass_of_methodNamed B.named
  have hlocks := B.notSynchronized

  subst hsz
  have hD := hD0.self (sz := s.heap.size)
  generalize hAe : va_A [(h0, .inr (13, mX13 q0 v0)), ((q0 17), zi k14 12 f14), ((q0 19), zi k15 12 f15), ((q0 3), zi k3 400 f3), ((q0 2), zi k2 4800 f2), ((q0 7), zi k6 120 f6), ((q0 11), zi k10 120 f10), ((q0 5), zi k4 122880 f4), ((q0 12), zi k11 120 f11), ((q0 22), zi k16 40000 f16), ((q0 6), zi k5 120 f5)] s.heap.size = A at hD hZ ⊢
  have hA : ∀ q : Nat, s.heap.size ≤ q → A q := fun q h => by rw [← hAe]; exact Or.inr h
  have hS : va_S A s.heap s.heap [] := va_S.rf
  have hl := lv_entry ([.ref h0, .int x1]) (n := 5) (Nat.le_of_ble_eq_true rfl)
  rw [lg_entry_eq]
  generalize (lg_sl ([.ref h0, .int x1]) ++ List.replicate (5 - (lg_sl ([.ref h0, .int x1])).length) Slot.unset).toArray = ls at hl ⊢
  have hl : lv_has ls 5 [(0, .ref h0), (1, .int x1)] := hl
  have b_ := zk_m1
  have b_ := zk_0
  have b_ := zk_1
  have b_ := zk_2
  have b_ := zk_3
  have b_ : (-1) ≤ (v0 18).toInt ∧ (v0 18).toInt ≤ 12 := hv0 18
  have b_ : 0 ≤ (v0 4).toInt ∧ (v0 4).toInt ≤ 400 := hv0 4
  have b_ : 0 ≤ (v0 13).toInt ∧ (v0 13).toInt ≤ 120 := hv0 13
  refine lv_aload_n hx hb dX13_posting_0 rfl (lv_at hl 0 rfl) ?_
  refine lv_iconst (v := 0) hx hb dX13_posting_1 (by decide) ?_
  refine va_put (D := (dC, dI)) (ci := 13) (v := .int 0) (ty := .int) (C := RX13) (T := TX13) (N := 75) hx hb hG zuX13 tyX13 tyX13_ok nmX13 hown hK hP hD hS 0 rfl rfl 21 (by decide) (hG _ zv1625) (fun _ h9 => h9) rfl (by decide +kernel) rfl rfl (Nat.le_of_ble_eq_true rfl) dX13_posting_2 (fun H locs hP hD hS => ?_)
  have hP : va_P (dC, dI) vwCl [(h0, .inr (13, mX13 q0 (upd v0 21 0))), ((q0 17), zi k14 12 f14), ((q0 19), zi k15 12 f15), ((q0 3), zi k3 400 f3), ((q0 2), zi k2 4800 f2), ((q0 7), zi k6 120 f6), ((q0 11), zi k10 120 f10), ((q0 5), zi k4 122880 f4), ((q0 12), zi k11 120 f11), ((q0 22), zi k16 40000 f16), ((q0 6), zi k5 120 f5)] H := hP
  have hD : va_D A [(h0, .inr (13, mX13 q0 (upd v0 21 0))), ((q0 17), zi k14 12 f14), ((q0 19), zi k15 12 f15), ((q0 3), zi k3 400 f3), ((q0 2), zi k2 4800 f2), ((q0 7), zi k6 120 f6), ((q0 11), zi k10 120 f10), ((q0 5), zi k4 122880 f4), ((q0 12), zi k11 120 f11), ((q0 22), zi k16 40000 f16), ((q0 6), zi k5 120 f5)] := hD
  refine lv_aload_n hx hb dX13_posting_5 rfl (lv_at hl 0 rfl) ?_
  refine va_get (D := (dC, dI)) (ci := 13) (v := .int (v0 18)) (C := RX13) (T := TX13) (N := 75) hx hb hG zuX13 hown hK hP 0 rfl rfl 18 (by decide) (hG _ zv1622) (fun _ h9 => h9) rfl dX13_posting_6 ?_
  refine lv_iconst (v := (-1)) hx hb dX13_posting_9 (by decide) ?_
  refine lv_icmp_eq (tgt := 22) hx hb dX13_posting_10 (by decide) (fun c_ => ?_) (fun c_ => ?_)
  · skip
    have b_ := zT_eq rfl zk_m1 c_
    refine lv_iconst (v := (-1)) hx hb dX13_posting_22 (by decide) ?_
    refine W.widen (k := 0) (n := 0) (by decide) (by decide) ?_
    have b_ : 0 ≤ (v0 20).toInt ∧ (v0 20).toInt ≤ 12 := hv0 20
    have b_ : -2147483648 ≤ (v0 23).toInt ∧ (v0 23).toInt ≤ 2147483647 := ⟨zlo _, zhi _⟩
    have b_ : 0 ≤ (v0 24).toInt ∧ (v0 24).toInt ≤ 1 := hv0 24
    have hpost : (0 ≤ (v0 20).toInt ∧ (v0 20).toInt ≤ 12) ∧ (0 ≤ (0 : Int32).toInt ∧ (0 : Int32).toInt ≤ 0) ∧ (0 ≤ (v0 24).toInt ∧ (v0 24).toInt ≤ 1) ∧ (zPr f14 (v0 18).toInt f2 f3 (v0 4).toInt f4 f6 f10 f11 (v0 13).toInt f5 x1.toInt ((-1) : Int32).toInt) := ⟨(by first | with_reducible assumption | exact ⟨by omega, by omega⟩), (by first | with_reducible assumption | exact ⟨by omega, by omega⟩), (by first | with_reducible assumption | exact ⟨by omega, by omega⟩), by first | exact zPr_y hX25_1 (by omega) (fun T V x hm hb hv => Or.inl ⟨by omega, hX71_2 T V x hm hb hv⟩) | exact zPr_y hX25_1 (by omega) (fun T V x hm hb hv => Or.inr (Or.inl ⟨by omega, by have e := hX78_2 T V x hm hb hv; have c := hX81_0 (by omega); rw [c, e, Int.toNat_natCast]⟩)) | exact zPr_y hX25_1 (by omega) (fun T V x hm hb hv => Or.inr (Or.inr (Or.inl ⟨by omega, hX87_0 T V x hm hb hv⟩))) | exact zPr_y hX25_1 (by omega) (fun T V x hm hb hv => Or.inr (Or.inr (Or.inr (Or.inl ⟨by omega, zKg_e hI96_0 (by omega) (by omega) rfl T V x hm hb hv⟩)))) | exact zPr_y hX25_1 (by omega) (fun T V x hm hb hv => Or.inr (Or.inr (Or.inr (Or.inr ⟨by omega, zAh_V hm.1 hX139_0 (by omega) hv⟩)))) | exact zPr_0 (by omega) (by omega) (by omega) hX25_1 (by omega) (by decide) | exact zPr_n (by omega) (by decide)⟩
    have hP9 : va_P (dC, dI) vwCl [(h0, .inr (13, mX13 q0 (upd (upd (upd (upd v0 20 (v0 20)) 21 0) 23 (v0 23)) 24 (v0 24)))), ((q0 17), zi k14 12 f14), ((q0 19), zi k15 12 f15), ((q0 3), zi k3 400 f3), ((q0 2), zi k2 4800 f2), ((q0 7), zi k6 120 f6), ((q0 11), zi k10 120 f10), ((q0 5), zi k4 122880 f4), ((q0 12), zi k11 120 f11), ((q0 22), zi k16 40000 f16), ((q0 6), zi k5 120 f5)] H := hP
    have hD9 : va_D A [(h0, .inr (13, mX13 q0 (upd (upd (upd (upd v0 20 (v0 20)) 21 0) 23 (v0 23)) 24 (v0 24)))), ((q0 17), zi k14 12 f14), ((q0 19), zi k15 12 f15), ((q0 3), zi k3 400 f3), ((q0 2), zi k2 4800 f2), ((q0 7), zi k6 120 f6), ((q0 11), zi k10 120 f10), ((q0 5), zi k4 122880 f4), ((q0 12), zi k11 120 f11), ((q0 22), zi k16 40000 f16), ((q0 6), zi k5 120 f5)] := hD
    exact W.iret (v := (-1)) hx hb hr (fun t ht hW => ⟨⟨(-1), (fun i => ([(v0 20), 0, (v0 23), (v0 24)] : List (Int32)).getD i 0), rfl, hpost, (fun _ => 0), (fun i => ([f15, f16] : List (Nat → Int32)).getD i (fun _ => 0)), (fun _ => (fun _ => 0)), by rw [ht]; exact hP9, va_K.moved hW.alike hK, hD9⟩, hS.F ht⟩) hS.2.2 dX13_posting_23
  · skip
    have b_ := zF_eq rfl zk_m1 c_
    refine lv_iload_n hx hb dX13_posting_13 rfl (lv_at hl 1 rfl) ?_
    have b_ : -2147483648 ≤ x1.toInt ∧ x1.toInt ≤ 2147483647 := ⟨zlo _, zhi _⟩
    refine lv_if_lt (tgt := 22) hx hb dX13_posting_14 (by decide) (fun c_ => ?_) (fun c_ => ?_)
    · skip
      have b_ := zT_lt rfl zk_0 c_
      refine lv_iconst (v := (-1)) hx hb dX13_posting_22 (by decide) ?_
      refine W.widen (k := 0) (n := 0) (by decide) (by decide) ?_
      have b_ : 0 ≤ (v0 20).toInt ∧ (v0 20).toInt ≤ 12 := hv0 20
      have b_ : -2147483648 ≤ (v0 23).toInt ∧ (v0 23).toInt ≤ 2147483647 := ⟨zlo _, zhi _⟩
      have b_ : 0 ≤ (v0 24).toInt ∧ (v0 24).toInt ≤ 1 := hv0 24
      have hpost : (0 ≤ (v0 20).toInt ∧ (v0 20).toInt ≤ 12) ∧ (0 ≤ (0 : Int32).toInt ∧ (0 : Int32).toInt ≤ 0) ∧ (0 ≤ (v0 24).toInt ∧ (v0 24).toInt ≤ 1) ∧ (zPr f14 (v0 18).toInt f2 f3 (v0 4).toInt f4 f6 f10 f11 (v0 13).toInt f5 x1.toInt ((-1) : Int32).toInt) := ⟨(by first | with_reducible assumption | exact ⟨by omega, by omega⟩), (by first | with_reducible assumption | exact ⟨by omega, by omega⟩), (by first | with_reducible assumption | exact ⟨by omega, by omega⟩), by first | exact zPr_y hX25_1 (by omega) (fun T V x hm hb hv => Or.inl ⟨by omega, hX71_2 T V x hm hb hv⟩) | exact zPr_y hX25_1 (by omega) (fun T V x hm hb hv => Or.inr (Or.inl ⟨by omega, by have e := hX78_2 T V x hm hb hv; have c := hX81_0 (by omega); rw [c, e, Int.toNat_natCast]⟩)) | exact zPr_y hX25_1 (by omega) (fun T V x hm hb hv => Or.inr (Or.inr (Or.inl ⟨by omega, hX87_0 T V x hm hb hv⟩))) | exact zPr_y hX25_1 (by omega) (fun T V x hm hb hv => Or.inr (Or.inr (Or.inr (Or.inl ⟨by omega, zKg_e hI96_0 (by omega) (by omega) rfl T V x hm hb hv⟩)))) | exact zPr_y hX25_1 (by omega) (fun T V x hm hb hv => Or.inr (Or.inr (Or.inr (Or.inr ⟨by omega, zAh_V hm.1 hX139_0 (by omega) hv⟩)))) | exact zPr_0 (by omega) (by omega) (by omega) hX25_1 (by omega) (by decide) | exact zPr_n (by omega) (by decide)⟩
      have hP9 : va_P (dC, dI) vwCl [(h0, .inr (13, mX13 q0 (upd (upd (upd (upd v0 20 (v0 20)) 21 0) 23 (v0 23)) 24 (v0 24)))), ((q0 17), zi k14 12 f14), ((q0 19), zi k15 12 f15), ((q0 3), zi k3 400 f3), ((q0 2), zi k2 4800 f2), ((q0 7), zi k6 120 f6), ((q0 11), zi k10 120 f10), ((q0 5), zi k4 122880 f4), ((q0 12), zi k11 120 f11), ((q0 22), zi k16 40000 f16), ((q0 6), zi k5 120 f5)] H := hP
      have hD9 : va_D A [(h0, .inr (13, mX13 q0 (upd (upd (upd (upd v0 20 (v0 20)) 21 0) 23 (v0 23)) 24 (v0 24)))), ((q0 17), zi k14 12 f14), ((q0 19), zi k15 12 f15), ((q0 3), zi k3 400 f3), ((q0 2), zi k2 4800 f2), ((q0 7), zi k6 120 f6), ((q0 11), zi k10 120 f10), ((q0 5), zi k4 122880 f4), ((q0 12), zi k11 120 f11), ((q0 22), zi k16 40000 f16), ((q0 6), zi k5 120 f5)] := hD
      exact W.iret (v := (-1)) hx hb hr (fun t ht hW => ⟨⟨(-1), (fun i => ([(v0 20), 0, (v0 23), (v0 24)] : List (Int32)).getD i 0), rfl, hpost, (fun _ => 0), (fun i => ([f15, f16] : List (Nat → Int32)).getD i (fun _ => 0)), (fun _ => (fun _ => 0)), by rw [ht]; exact hP9, va_K.moved hW.alike hK, hD9⟩, hS.F ht⟩) hS.2.2 dX13_posting_23
    · skip
      have b_ := zF_lt rfl zk_0 c_
      refine lv_iload_n hx hb dX13_posting_17 rfl (lv_at hl 1 rfl) ?_
      refine lv_iconst (v := 4) hx hb dX13_posting_18 (by decide) ?_
      refine lv_icmp_le (tgt := 24) hx hb dX13_posting_19 (by decide) (fun c_ => ?_) (fun c_ => ?_)
      · skip
        have b_ := zT_le rfl zk_4 c_
        refine lv_aload_n hx hb dX13_posting_24 rfl (lv_at hl 0 rfl) ?_
        have hPc := hP.sub (ws' := [(h0, .inr (13, mX13 q0 (upd v0 21 0))), ((q0 17), zi k14 12 f14), ((q0 19), zi k15 12 f15), ((q0 3), zi k3 400 f3), ((q0 2), zi k2 4800 f2)]) [0, 1, 2, 3, 4] rfl
        have hDc := hD.sub (ws' := [(h0, .inr (13, mX13 q0 (upd v0 21 0))), ((q0 17), zi k14 12 f14), ((q0 19), zi k15 12 f15), ((q0 3), zi k3 400 f3), ((q0 2), zi k2 4800 f2)]) [0, 1, 2, 3, 4] (by decide) rfl
        have hKc := hK.sub (tys' := [(k14, .byte), (k15, .byte), (k3, .int), (k2, .byte)]) [0, 1, 2, 3] rfl
        have hFc := va_free (wc := [(h0, .inr (13, mX13 q0 (upd v0 21 0))), ((q0 17), zi k14 12 f14), ((q0 19), zi k15 12 f15), ((q0 3), zi k3 400 f3), ((q0 2), zi k2 4800 f2)]) hD hS hA [0, 1, 2, 3, 4] rfl
        refine va_calli (va_runV (As := []) (rest := []) ⟨hx, hb, hml, hown, hG⟩ (p12_sX13_lookedWord_0 l dC dI adK adV h0 q0 k14 k15 k3 k2 H.size (upd v0 21 0) f14 f15 f3 f2 (zR_updF hv0 21 rfl) hf3) (cwV 0 hG (zgV zv1983 zv1985 zv72 zv142 zv1986) rfl rfl rfl (by decide +kernel) ⟨Nat.le_of_ble_eq_true rfl, Nat.le_of_ble_eq_true rfl⟩) ⟨zPc_blind, va_recv hKc hPc (ci := 13) (q0 := 0) rfl rfl, zPc_pre hPc hKc hDc hE hS hFc hZ⟩ rfl rfl hl.1 rfl (lv_room (Nat.le_of_ble_eq_true rfl)) dX13_posting_25 ⟨Nat.le_of_ble_eq_true rfl, Nat.le_of_ble_eq_true rfl⟩) hS (fun q _ h => hFc q h) hFc (fun r25_ u25_ t H1 locs ht hvm hw hB hz1 hk1 hS => ?_)
        replace hw : ((-1) ≤ r25_.toInt ∧ r25_.toInt ≤ 399) ∧ (0 ≤ (u25_ 0).toInt ∧ (u25_ 0).toInt ≤ 12) ∧ (r25_.toInt < (v0 4).toInt) ∧ (zLw f14 (v0 18).toInt f2 f3 (v0 4).toInt r25_.toInt) := hw
        obtain ⟨b_, b_, hX25_0, hX25_1⟩ := hw
        obtain ⟨w25_, a25_, b25_, hP1, hK1, hD1⟩ := hB
        rw [ht] at hP1
        obtain ⟨hP, hD⟩ := va_join (wr := [((q0 7), zi k6 120 f6), ((q0 11), zi k10 120 f10), ((q0 5), zi k4 122880 f4), ((q0 12), zi k11 120 f11), ((q0 22), zi k16 40000 f16), ((q0 6), zi k5 120 f5)]) (w1 := [(h0, .inr (13, mX13 q0 (upd (upd v0 20 (u25_ 0)) 21 0))), ((q0 17), zi k14 12 f14), ((q0 19), zi k15 12 (a25_ 0)), ((q0 3), zi k3 400 f3), ((q0 2), zi k2 4800 f2)]) hP hD [0, 1, 2, 3, 4] [5, 6, 7, 8, 9, 10] rfl rfl (by decide) (by decide) hk1 hFc hP1 hD1
        have hP : va_P (dC, dI) vwCl [(h0, .inr (13, mX13 q0 (upd (upd v0 20 (u25_ 0)) 21 0))), ((q0 17), zi k14 12 f14), ((q0 19), zi k15 12 (a25_ 0)), ((q0 3), zi k3 400 f3), ((q0 2), zi k2 4800 f2), ((q0 7), zi k6 120 f6), ((q0 11), zi k10 120 f10), ((q0 5), zi k4 122880 f4), ((q0 12), zi k11 120 f11), ((q0 22), zi k16 40000 f16), ((q0 6), zi k5 120 f5)] H1 := hP.sub [6, 7, 8, 9, 10, 0, 1, 2, 3, 4, 5] rfl
        have hD : va_D A [(h0, .inr (13, mX13 q0 (upd (upd v0 20 (u25_ 0)) 21 0))), ((q0 17), zi k14 12 f14), ((q0 19), zi k15 12 (a25_ 0)), ((q0 3), zi k3 400 f3), ((q0 2), zi k2 4800 f2), ((q0 7), zi k6 120 f6), ((q0 11), zi k10 120 f10), ((q0 5), zi k4 122880 f4), ((q0 12), zi k11 120 f11), ((q0 22), zi k16 40000 f16), ((q0 6), zi k5 120 f5)] := hD.sub [6, 7, 8, 9, 10, 0, 1, 2, 3, 4, 5] (by decide) rfl
        generalize H1 = H at hP hS ⊢
        clear hz1
        refine lv_istore_n (lv' := [(2, .int r25_), (0, .ref h0), (1, .int x1)]) hx hb dX13_posting_28 rfl hl (by decide) rfl (fun ls hl => ?_)
        refine lv_iload_n hx hb dX13_posting_29 rfl (lv_at hl 0 rfl) ?_
        refine lv_iconst (v := (-1)) hx hb dX13_posting_30 (by decide) ?_
        refine lv_icmp_ne (tgt := 36) hx hb dX13_posting_31 (by decide) (fun c_ => ?_) (fun c_ => ?_)
        · skip
          have b_ := zT_ne rfl zk_m1 c_
          refine lv_iload_n hx hb dX13_posting_36 rfl (lv_at hl 2 rfl) ?_
          rcases Classical.em (x1 = (0 : Int32)) with c_ | c_
          · skip
            have b_ : x1.toInt = 0 := by rw [c_]; exact zk_0
            refine lv_tableIn (off := 31) (tgt := 68) hx hb dX13_posting_37 (by omega) (by omega) (by rw [b_]; decide) (by decide) ?_
            refine lv_aload_n hx hb dX13_posting_68 rfl (lv_at hl 1 rfl) ?_
            refine lv_iload_n hx hb dX13_posting_69 rfl (lv_at hl 0 rfl) ?_
            refine lv_iconst (v := 0) hx hb dX13_posting_70 (by decide) ?_
            have hPc := hP.sub (ws' := [(h0, .inr (13, mX13 q0 (upd (upd v0 20 (u25_ 0)) 21 0))), ((q0 7), zi k6 120 f6), ((q0 11), zi k10 120 f10), ((q0 5), zi k4 122880 f4), ((q0 12), zi k11 120 f11), ((q0 22), zi k16 40000 f16), ((q0 2), zi k2 4800 f2), ((q0 3), zi k3 400 f3)]) [0, 5, 6, 7, 8, 9, 4, 3] rfl
            have hDc := hD.sub (ws' := [(h0, .inr (13, mX13 q0 (upd (upd v0 20 (u25_ 0)) 21 0))), ((q0 7), zi k6 120 f6), ((q0 11), zi k10 120 f10), ((q0 5), zi k4 122880 f4), ((q0 12), zi k11 120 f11), ((q0 22), zi k16 40000 f16), ((q0 2), zi k2 4800 f2), ((q0 3), zi k3 400 f3)]) [0, 5, 6, 7, 8, 9, 4, 3] (by decide) rfl
            have hKc := hK.sub (tys' := [(k6, .boolean), (k10, .int), (k4, .short), (k11, .int), (k16, .byte), (k2, .byte), (k3, .int)]) [4, 5, 6, 7, 8, 3, 2] rfl
            have hFc := va_free (wc := [(h0, .inr (13, mX13 q0 (upd (upd v0 20 (u25_ 0)) 21 0))), ((q0 7), zi k6 120 f6), ((q0 11), zi k10 120 f10), ((q0 5), zi k4 122880 f4), ((q0 12), zi k11 120 f11), ((q0 22), zi k16 40000 f16), ((q0 2), zi k2 4800 f2), ((q0 3), zi k3 400 f3)]) hD hS hA [0, 5, 6, 7, 8, 9, 4, 3] rfl
            refine va_calli (va_runV (As := [.int r25_, .int 0]) (rest := []) ⟨hx, hb, hml, hown, hG⟩ (p12_sX13_layOut_0 l dC dI adK adV h0 q0 k6 k10 k4 k11 k16 k2 k3 H.size (upd (upd v0 20 (u25_ 0)) 21 0) f6 f10 f4 f11 f16 f2 f3 r25_ 0 (zR_updF (zR_up2 hv0 20 (show (0 : Int) ≤ ((u25_ 0) : Int32).toInt ∧ ((u25_ 0) : Int32).toInt ≤ (12 : Int) from (by first | with_reducible assumption | exact ⟨by omega, by omega⟩))) 21 rfl) hf10 hf4 hf11 hf3 (show (0 : Int) ≤ (r25_ : Int32).toInt ∧ (r25_ : Int32).toInt ≤ (399 : Int) from (by first | with_reducible assumption | exact ⟨by omega, by omega⟩)) ⟨show (0 : Int) ≤ (0 : Int32).toInt from by decide, show (0 : Int32).toInt ≤ (1 : Int) from by decide⟩ (show (0 : Int32).toInt = 1 → (zB f4 f6 r25_.toInt  ((v0 13).toInt).toNat).1 ≤ 40000 from by omega)) (cwV 2 hG (zgV zv1987 zv1989 zv73 zv142 zv1990) rfl rfl rfl (by decide +kernel) ⟨Nat.le_of_ble_eq_true rfl, Nat.le_of_ble_eq_true rfl⟩) ⟨zPc_blind, va_recv hKc hPc (ci := 13) (q0 := 0) rfl rfl, zPc_pre hPc hKc hDc hE hS hFc hZ⟩ rfl rfl hl.1 rfl (lv_room (Nat.le_of_ble_eq_true rfl)) dX13_posting_71 ⟨Nat.le_of_ble_eq_true rfl, Nat.le_of_ble_eq_true rfl⟩) hS (fun q _ h => hFc q h) hFc (fun r71_ u71_ t H1 locs ht hvm hw hB hz1 hk1 hS => ?_)
            replace hw : (0 ≤ r71_.toInt ∧ r71_.toInt ≤ 2600021) ∧ (0 ≤ (u71_ 0).toInt ∧ (u71_ 0).toInt ≤ 2600021) ∧ (0 ≤ (u71_ 1).toInt ∧ (u71_ 1).toInt ≤ 1) ∧ (r71_.toInt ≤ (zB f4 f6 r25_.toInt  ((v0 13).toInt).toNat).1) ∧ (0 ≤ r71_.toInt) ∧ (zW (∀ (T : Nat → Nat → Int) (V : List Int) (x : Int), zMd f2 f3 (v0 4).toInt f4 f6 (v0 13).toInt T V → zMb f10 f11 (v0 13).toInt T → V[(r25_.toInt).toNat]? = some x → r71_.toInt = ((zPq T x ((v0 13).toInt).toNat).length : Int))) ∧ (r71_.toInt = (u71_ 2).toInt) := hw
            obtain ⟨b_, b_, b_, hX71_0, hX71_1, hX71_2, b_⟩ := hw
            obtain ⟨w71_, a71_, b71_, hB71_0, hP1, hK1, hD1⟩ := hB
            have hB71_0 : zLx (a71_ 0) (0 : Int32).toInt f2 f3 (v0 4).toInt f4 f6 f10 f11 (v0 13).toInt r25_.toInt (u71_ 2).toInt := hB71_0
            rw [ht] at hP1
            obtain ⟨hP, hD⟩ := va_join (wr := [((q0 17), zi k14 12 f14), ((q0 19), zi k15 12 (a25_ 0)), ((q0 6), zi k5 120 f5)]) (w1 := [(h0, .inr (13, mX13 q0 (upd (upd (upd (upd v0 20 (u25_ 0)) 21 0) 23 (u71_ 0)) 24 (u71_ 1)))), ((q0 7), zi k6 120 f6), ((q0 11), zi k10 120 f10), ((q0 5), zi k4 122880 f4), ((q0 12), zi k11 120 f11), ((q0 22), zi k16 40000 (a71_ 0)), ((q0 2), zi k2 4800 f2), ((q0 3), zi k3 400 f3)]) hP hD [0, 5, 6, 7, 8, 9, 4, 3] [1, 2, 10] rfl rfl (by decide) (by decide) hk1 hFc hP1 hD1
            have hP : va_P (dC, dI) vwCl [(h0, .inr (13, mX13 q0 (upd (upd (upd (upd v0 20 (u25_ 0)) 21 0) 23 (u71_ 0)) 24 (u71_ 1)))), ((q0 17), zi k14 12 f14), ((q0 19), zi k15 12 (a25_ 0)), ((q0 3), zi k3 400 f3), ((q0 2), zi k2 4800 f2), ((q0 7), zi k6 120 f6), ((q0 11), zi k10 120 f10), ((q0 5), zi k4 122880 f4), ((q0 12), zi k11 120 f11), ((q0 22), zi k16 40000 (a71_ 0)), ((q0 6), zi k5 120 f5)] H1 := hP.sub [3, 0, 1, 10, 9, 4, 5, 6, 7, 8, 2] rfl
            have hD : va_D A [(h0, .inr (13, mX13 q0 (upd (upd (upd (upd v0 20 (u25_ 0)) 21 0) 23 (u71_ 0)) 24 (u71_ 1)))), ((q0 17), zi k14 12 f14), ((q0 19), zi k15 12 (a25_ 0)), ((q0 3), zi k3 400 f3), ((q0 2), zi k2 4800 f2), ((q0 7), zi k6 120 f6), ((q0 11), zi k10 120 f10), ((q0 5), zi k4 122880 f4), ((q0 12), zi k11 120 f11), ((q0 22), zi k16 40000 (a71_ 0)), ((q0 6), zi k5 120 f5)] := hD.sub [3, 0, 1, 10, 9, 4, 5, 6, 7, 8, 2] (by decide) rfl
            generalize H1 = H at hP hS ⊢
            clear hz1
            refine W.widen (k := 0) (n := 0) (by decide) (by decide) ?_
            have hpost : (0 ≤ (u25_ 0).toInt ∧ (u25_ 0).toInt ≤ 12) ∧ (0 ≤ (0 : Int32).toInt ∧ (0 : Int32).toInt ≤ 0) ∧ (0 ≤ (u71_ 1).toInt ∧ (u71_ 1).toInt ≤ 1) ∧ (zPr f14 (v0 18).toInt f2 f3 (v0 4).toInt f4 f6 f10 f11 (v0 13).toInt f5 x1.toInt r71_.toInt) := ⟨(by first | with_reducible assumption | exact ⟨by omega, by omega⟩), (by first | with_reducible assumption | exact ⟨by omega, by omega⟩), (by first | with_reducible assumption | exact ⟨by omega, by omega⟩), by first | exact zPr_y hX25_1 (by omega) (fun T V x hm hb hv => Or.inl ⟨by omega, hX71_2 T V x hm hb hv⟩) | exact zPr_y hX25_1 (by omega) (fun T V x hm hb hv => Or.inr (Or.inl ⟨by omega, by have e := hX78_2 T V x hm hb hv; have c := hX81_0 (by omega); rw [c, e, Int.toNat_natCast]⟩)) | exact zPr_y hX25_1 (by omega) (fun T V x hm hb hv => Or.inr (Or.inr (Or.inl ⟨by omega, hX87_0 T V x hm hb hv⟩))) | exact zPr_y hX25_1 (by omega) (fun T V x hm hb hv => Or.inr (Or.inr (Or.inr (Or.inl ⟨by omega, zKg_e hI96_0 (by omega) (by omega) rfl T V x hm hb hv⟩)))) | exact zPr_y hX25_1 (by omega) (fun T V x hm hb hv => Or.inr (Or.inr (Or.inr (Or.inr ⟨by omega, zAh_V hm.1 hX139_0 (by omega) hv⟩)))) | exact zPr_0 (by omega) (by omega) (by omega) hX25_1 (by omega) (by decide) | exact zPr_n (by omega) (by decide)⟩
            have hP9 : va_P (dC, dI) vwCl [(h0, .inr (13, mX13 q0 (upd (upd (upd (upd v0 20 (u25_ 0)) 21 0) 23 (u71_ 0)) 24 (u71_ 1)))), ((q0 17), zi k14 12 f14), ((q0 19), zi k15 12 (a25_ 0)), ((q0 3), zi k3 400 f3), ((q0 2), zi k2 4800 f2), ((q0 7), zi k6 120 f6), ((q0 11), zi k10 120 f10), ((q0 5), zi k4 122880 f4), ((q0 12), zi k11 120 f11), ((q0 22), zi k16 40000 (a71_ 0)), ((q0 6), zi k5 120 f5)] H := hP
            have hD9 : va_D A [(h0, .inr (13, mX13 q0 (upd (upd (upd (upd v0 20 (u25_ 0)) 21 0) 23 (u71_ 0)) 24 (u71_ 1)))), ((q0 17), zi k14 12 f14), ((q0 19), zi k15 12 (a25_ 0)), ((q0 3), zi k3 400 f3), ((q0 2), zi k2 4800 f2), ((q0 7), zi k6 120 f6), ((q0 11), zi k10 120 f10), ((q0 5), zi k4 122880 f4), ((q0 12), zi k11 120 f11), ((q0 22), zi k16 40000 (a71_ 0)), ((q0 6), zi k5 120 f5)] := hD
            exact W.iret (v := r71_) hx hb hr (fun t ht hW => ⟨⟨r71_, (fun i => ([(u25_ 0), 0, (u71_ 0), (u71_ 1)] : List (Int32)).getD i 0), rfl, hpost, (fun _ => 0), (fun i => ([(a25_ 0), (a71_ 0)] : List (Nat → Int32)).getD i (fun _ => 0)), (fun _ => (fun _ => 0)), by rw [ht]; exact hP9, va_K.moved hW.alike hK, hD9⟩, hS.F ht⟩) hS.2.2 dX13_posting_74
          · skip
            have b_ : x1.toInt ≠ 0 := fun h => c_ (zeqi.mpr (h.trans zk_0.symm))
            rcases Classical.em (x1 = (1 : Int32)) with c_ | c_
            · skip
              have b_ : x1.toInt = 1 := by rw [c_]; exact zk_1
              refine lv_tableIn (off := 38) (tgt := 75) hx hb dX13_posting_37 (by omega) (by omega) (by rw [b_]; decide) (by decide) ?_
              refine lv_aload_n hx hb dX13_posting_75 rfl (lv_at hl 1 rfl) ?_
              refine lv_iload_n hx hb dX13_posting_76 rfl (lv_at hl 0 rfl) ?_
              refine lv_iconst (v := 0) hx hb dX13_posting_77 (by decide) ?_
              have hPc := hP.sub (ws' := [(h0, .inr (13, mX13 q0 (upd (upd v0 20 (u25_ 0)) 21 0))), ((q0 7), zi k6 120 f6), ((q0 11), zi k10 120 f10), ((q0 5), zi k4 122880 f4), ((q0 12), zi k11 120 f11), ((q0 22), zi k16 40000 f16), ((q0 2), zi k2 4800 f2), ((q0 3), zi k3 400 f3)]) [0, 5, 6, 7, 8, 9, 4, 3] rfl
              have hDc := hD.sub (ws' := [(h0, .inr (13, mX13 q0 (upd (upd v0 20 (u25_ 0)) 21 0))), ((q0 7), zi k6 120 f6), ((q0 11), zi k10 120 f10), ((q0 5), zi k4 122880 f4), ((q0 12), zi k11 120 f11), ((q0 22), zi k16 40000 f16), ((q0 2), zi k2 4800 f2), ((q0 3), zi k3 400 f3)]) [0, 5, 6, 7, 8, 9, 4, 3] (by decide) rfl
              have hKc := hK.sub (tys' := [(k6, .boolean), (k10, .int), (k4, .short), (k11, .int), (k16, .byte), (k2, .byte), (k3, .int)]) [4, 5, 6, 7, 8, 3, 2] rfl
              have hFc := va_free (wc := [(h0, .inr (13, mX13 q0 (upd (upd v0 20 (u25_ 0)) 21 0))), ((q0 7), zi k6 120 f6), ((q0 11), zi k10 120 f10), ((q0 5), zi k4 122880 f4), ((q0 12), zi k11 120 f11), ((q0 22), zi k16 40000 f16), ((q0 2), zi k2 4800 f2), ((q0 3), zi k3 400 f3)]) hD hS hA [0, 5, 6, 7, 8, 9, 4, 3] rfl
              refine va_calli (va_runV (As := [.int r25_, .int 0]) (rest := []) ⟨hx, hb, hml, hown, hG⟩ (p12_sX13_layOut_0 l dC dI adK adV h0 q0 k6 k10 k4 k11 k16 k2 k3 H.size (upd (upd v0 20 (u25_ 0)) 21 0) f6 f10 f4 f11 f16 f2 f3 r25_ 0 (zR_updF (zR_up2 hv0 20 (show (0 : Int) ≤ ((u25_ 0) : Int32).toInt ∧ ((u25_ 0) : Int32).toInt ≤ (12 : Int) from (by first | with_reducible assumption | exact ⟨by omega, by omega⟩))) 21 rfl) hf10 hf4 hf11 hf3 (show (0 : Int) ≤ (r25_ : Int32).toInt ∧ (r25_ : Int32).toInt ≤ (399 : Int) from (by first | with_reducible assumption | exact ⟨by omega, by omega⟩)) ⟨show (0 : Int) ≤ (0 : Int32).toInt from by decide, show (0 : Int32).toInt ≤ (1 : Int) from by decide⟩ (show (0 : Int32).toInt = 1 → (zB f4 f6 r25_.toInt  ((v0 13).toInt).toNat).1 ≤ 40000 from by omega)) (cwV 2 hG (zgV zv1987 zv1989 zv73 zv142 zv1990) rfl rfl rfl (by decide +kernel) ⟨Nat.le_of_ble_eq_true rfl, Nat.le_of_ble_eq_true rfl⟩) ⟨zPc_blind, va_recv hKc hPc (ci := 13) (q0 := 0) rfl rfl, zPc_pre hPc hKc hDc hE hS hFc hZ⟩ rfl rfl hl.1 rfl (lv_room (Nat.le_of_ble_eq_true rfl)) dX13_posting_78 ⟨Nat.le_of_ble_eq_true rfl, Nat.le_of_ble_eq_true rfl⟩) hS (fun q _ h => hFc q h) hFc (fun r78_ u78_ t H1 locs ht hvm hw hB hz1 hk1 hS => ?_)
              replace hw : (0 ≤ r78_.toInt ∧ r78_.toInt ≤ 2600021) ∧ (0 ≤ (u78_ 0).toInt ∧ (u78_ 0).toInt ≤ 2600021) ∧ (0 ≤ (u78_ 1).toInt ∧ (u78_ 1).toInt ≤ 1) ∧ (r78_.toInt ≤ (zB f4 f6 r25_.toInt  ((v0 13).toInt).toNat).1) ∧ (0 ≤ r78_.toInt) ∧ (zW (∀ (T : Nat → Nat → Int) (V : List Int) (x : Int), zMd f2 f3 (v0 4).toInt f4 f6 (v0 13).toInt T V → zMb f10 f11 (v0 13).toInt T → V[(r25_.toInt).toNat]? = some x → r78_.toInt = ((zPq T x ((v0 13).toInt).toNat).length : Int))) ∧ (r78_.toInt = (u78_ 2).toInt) := hw
              obtain ⟨b_, b_, b_, hX78_0, hX78_1, hX78_2, b_⟩ := hw
              obtain ⟨w78_, a78_, b78_, hB78_0, hP1, hK1, hD1⟩ := hB
              have hB78_0 : zLx (a78_ 0) (0 : Int32).toInt f2 f3 (v0 4).toInt f4 f6 f10 f11 (v0 13).toInt r25_.toInt (u78_ 2).toInt := hB78_0
              rw [ht] at hP1
              obtain ⟨hP, hD⟩ := va_join (wr := [((q0 17), zi k14 12 f14), ((q0 19), zi k15 12 (a25_ 0)), ((q0 6), zi k5 120 f5)]) (w1 := [(h0, .inr (13, mX13 q0 (upd (upd (upd (upd v0 20 (u25_ 0)) 21 0) 23 (u78_ 0)) 24 (u78_ 1)))), ((q0 7), zi k6 120 f6), ((q0 11), zi k10 120 f10), ((q0 5), zi k4 122880 f4), ((q0 12), zi k11 120 f11), ((q0 22), zi k16 40000 (a78_ 0)), ((q0 2), zi k2 4800 f2), ((q0 3), zi k3 400 f3)]) hP hD [0, 5, 6, 7, 8, 9, 4, 3] [1, 2, 10] rfl rfl (by decide) (by decide) hk1 hFc hP1 hD1
              have hP : va_P (dC, dI) vwCl [(h0, .inr (13, mX13 q0 (upd (upd (upd (upd v0 20 (u25_ 0)) 21 0) 23 (u78_ 0)) 24 (u78_ 1)))), ((q0 17), zi k14 12 f14), ((q0 19), zi k15 12 (a25_ 0)), ((q0 3), zi k3 400 f3), ((q0 2), zi k2 4800 f2), ((q0 7), zi k6 120 f6), ((q0 11), zi k10 120 f10), ((q0 5), zi k4 122880 f4), ((q0 12), zi k11 120 f11), ((q0 22), zi k16 40000 (a78_ 0)), ((q0 6), zi k5 120 f5)] H1 := hP.sub [3, 0, 1, 10, 9, 4, 5, 6, 7, 8, 2] rfl
              have hD : va_D A [(h0, .inr (13, mX13 q0 (upd (upd (upd (upd v0 20 (u25_ 0)) 21 0) 23 (u78_ 0)) 24 (u78_ 1)))), ((q0 17), zi k14 12 f14), ((q0 19), zi k15 12 (a25_ 0)), ((q0 3), zi k3 400 f3), ((q0 2), zi k2 4800 f2), ((q0 7), zi k6 120 f6), ((q0 11), zi k10 120 f10), ((q0 5), zi k4 122880 f4), ((q0 12), zi k11 120 f11), ((q0 22), zi k16 40000 (a78_ 0)), ((q0 6), zi k5 120 f5)] := hD.sub [3, 0, 1, 10, 9, 4, 5, 6, 7, 8, 2] (by decide) rfl
              generalize H1 = H at hP hS ⊢
              clear hz1
              have hPc := hP.sub (ws' := []) [] rfl
              have hDc := hD.sub (ws' := []) [] (by decide) rfl
              have hKc := hK.sub (tys' := []) [] rfl
              have hFc := va_free (wc := []) hD hS hA [] rfl
              refine va_calli (va_runS (As := [.int r78_]) (rest := []) ⟨hx, hb, hml, hown, hG⟩ (p12_sX13_chunks_0 l dC dI adK adV H.size r78_) (va_cwS 1 hG (zgS zv1995 zv1996 zv142 zv1997) rfl rfl rfl (by decide +kernel) ⟨Nat.le_of_ble_eq_true rfl, Nat.le_of_ble_eq_true rfl⟩) ⟨zPc_blind, zPc_pre hPc hKc hDc hE hS hFc hZ⟩ rfl rfl hl.1 rfl (lv_room (Nat.le_of_ble_eq_true rfl)) dX13_posting_81 ⟨Nat.le_of_ble_eq_true rfl, Nat.le_of_ble_eq_true rfl⟩) hS (fun q _ h => hFc q h) hFc (fun r81_ u81_ t H1 locs ht hvm hw hB hz1 hk1 hS => ?_)
              replace hw : (0 ≤ r78_.toInt → r81_.toInt = (znc (r78_.toInt).toNat : Int)) := hw
              have hX81_0 := hw
              obtain ⟨w81_, a81_, b81_, hP1, hK1, hD1⟩ := hB
              rw [ht] at hP1
              obtain ⟨hP, hD⟩ := va_join (wr := [(h0, .inr (13, mX13 q0 (upd (upd (upd (upd v0 20 (u25_ 0)) 21 0) 23 (u78_ 0)) 24 (u78_ 1)))), ((q0 17), zi k14 12 f14), ((q0 19), zi k15 12 (a25_ 0)), ((q0 3), zi k3 400 f3), ((q0 2), zi k2 4800 f2), ((q0 7), zi k6 120 f6), ((q0 11), zi k10 120 f10), ((q0 5), zi k4 122880 f4), ((q0 12), zi k11 120 f11), ((q0 22), zi k16 40000 (a78_ 0)), ((q0 6), zi k5 120 f5)]) (w1 := []) hP hD [] [0, 1, 2, 3, 4, 5, 6, 7, 8, 9, 10] rfl rfl (by decide) (by decide) hk1 hFc hP1 hD1
              have hP : va_P (dC, dI) vwCl [(h0, .inr (13, mX13 q0 (upd (upd (upd (upd v0 20 (u25_ 0)) 21 0) 23 (u78_ 0)) 24 (u78_ 1)))), ((q0 17), zi k14 12 f14), ((q0 19), zi k15 12 (a25_ 0)), ((q0 3), zi k3 400 f3), ((q0 2), zi k2 4800 f2), ((q0 7), zi k6 120 f6), ((q0 11), zi k10 120 f10), ((q0 5), zi k4 122880 f4), ((q0 12), zi k11 120 f11), ((q0 22), zi k16 40000 (a78_ 0)), ((q0 6), zi k5 120 f5)] H1 := hP.sub [0, 1, 2, 3, 4, 5, 6, 7, 8, 9, 10] rfl
              have hD : va_D A [(h0, .inr (13, mX13 q0 (upd (upd (upd (upd v0 20 (u25_ 0)) 21 0) 23 (u78_ 0)) 24 (u78_ 1)))), ((q0 17), zi k14 12 f14), ((q0 19), zi k15 12 (a25_ 0)), ((q0 3), zi k3 400 f3), ((q0 2), zi k2 4800 f2), ((q0 7), zi k6 120 f6), ((q0 11), zi k10 120 f10), ((q0 5), zi k4 122880 f4), ((q0 12), zi k11 120 f11), ((q0 22), zi k16 40000 (a78_ 0)), ((q0 6), zi k5 120 f5)] := hD.sub [0, 1, 2, 3, 4, 5, 6, 7, 8, 9, 10] (by decide) rfl
              generalize H1 = H at hP hS ⊢
              clear hz1
              refine W.widen (k := 0) (n := 0) (by decide) (by decide) ?_
              have b_ : -2147483648 ≤ r81_.toInt ∧ r81_.toInt ≤ 2147483647 := ⟨zlo _, zhi _⟩
              have hpost : (0 ≤ (u25_ 0).toInt ∧ (u25_ 0).toInt ≤ 12) ∧ (0 ≤ (0 : Int32).toInt ∧ (0 : Int32).toInt ≤ 0) ∧ (0 ≤ (u78_ 1).toInt ∧ (u78_ 1).toInt ≤ 1) ∧ (zPr f14 (v0 18).toInt f2 f3 (v0 4).toInt f4 f6 f10 f11 (v0 13).toInt f5 x1.toInt r81_.toInt) := ⟨(by first | with_reducible assumption | exact ⟨by omega, by omega⟩), (by first | with_reducible assumption | exact ⟨by omega, by omega⟩), (by first | with_reducible assumption | exact ⟨by omega, by omega⟩), by first | exact zPr_y hX25_1 (by omega) (fun T V x hm hb hv => Or.inl ⟨by omega, hX71_2 T V x hm hb hv⟩) | exact zPr_y hX25_1 (by omega) (fun T V x hm hb hv => Or.inr (Or.inl ⟨by omega, by have e := hX78_2 T V x hm hb hv; have c := hX81_0 (by omega); rw [c, e, Int.toNat_natCast]⟩)) | exact zPr_y hX25_1 (by omega) (fun T V x hm hb hv => Or.inr (Or.inr (Or.inl ⟨by omega, hX87_0 T V x hm hb hv⟩))) | exact zPr_y hX25_1 (by omega) (fun T V x hm hb hv => Or.inr (Or.inr (Or.inr (Or.inl ⟨by omega, zKg_e hI96_0 (by omega) (by omega) rfl T V x hm hb hv⟩)))) | exact zPr_y hX25_1 (by omega) (fun T V x hm hb hv => Or.inr (Or.inr (Or.inr (Or.inr ⟨by omega, zAh_V hm.1 hX139_0 (by omega) hv⟩)))) | exact zPr_0 (by omega) (by omega) (by omega) hX25_1 (by omega) (by decide) | exact zPr_n (by omega) (by decide)⟩
              have hP9 : va_P (dC, dI) vwCl [(h0, .inr (13, mX13 q0 (upd (upd (upd (upd v0 20 (u25_ 0)) 21 0) 23 (u78_ 0)) 24 (u78_ 1)))), ((q0 17), zi k14 12 f14), ((q0 19), zi k15 12 (a25_ 0)), ((q0 3), zi k3 400 f3), ((q0 2), zi k2 4800 f2), ((q0 7), zi k6 120 f6), ((q0 11), zi k10 120 f10), ((q0 5), zi k4 122880 f4), ((q0 12), zi k11 120 f11), ((q0 22), zi k16 40000 (a78_ 0)), ((q0 6), zi k5 120 f5)] H := hP
              have hD9 : va_D A [(h0, .inr (13, mX13 q0 (upd (upd (upd (upd v0 20 (u25_ 0)) 21 0) 23 (u78_ 0)) 24 (u78_ 1)))), ((q0 17), zi k14 12 f14), ((q0 19), zi k15 12 (a25_ 0)), ((q0 3), zi k3 400 f3), ((q0 2), zi k2 4800 f2), ((q0 7), zi k6 120 f6), ((q0 11), zi k10 120 f10), ((q0 5), zi k4 122880 f4), ((q0 12), zi k11 120 f11), ((q0 22), zi k16 40000 (a78_ 0)), ((q0 6), zi k5 120 f5)] := hD
              exact W.iret (v := r81_) hx hb hr (fun t ht hW => ⟨⟨r81_, (fun i => ([(u25_ 0), 0, (u78_ 0), (u78_ 1)] : List (Int32)).getD i 0), rfl, hpost, (fun _ => 0), (fun i => ([(a25_ 0), (a78_ 0)] : List (Nat → Int32)).getD i (fun _ => 0)), (fun _ => (fun _ => 0)), by rw [ht]; exact hP9, va_K.moved hW.alike hK, hD9⟩, hS.F ht⟩) hS.2.2 dX13_posting_84
            · skip
              have b_ : x1.toInt ≠ 1 := fun h => c_ (zeqi.mpr (h.trans zk_1.symm))
              rcases Classical.em (x1 = (2 : Int32)) with c_ | c_
              · skip
                have b_ : x1.toInt = 2 := by rw [c_]; exact zk_2
                refine lv_tableIn (off := 48) (tgt := 85) hx hb dX13_posting_37 (by omega) (by omega) (by rw [b_]; decide) (by decide) ?_
                refine lv_aload_n hx hb dX13_posting_85 rfl (lv_at hl 1 rfl) ?_
                refine lv_iload_n hx hb dX13_posting_86 rfl (lv_at hl 0 rfl) ?_
                have hPc := hP.sub (ws' := [(h0, .inr (13, mX13 q0 (upd (upd v0 20 (u25_ 0)) 21 0))), ((q0 6), zi k5 120 f5), ((q0 11), zi k10 120 f10), ((q0 5), zi k4 122880 f4), ((q0 12), zi k11 120 f11), ((q0 2), zi k2 4800 f2), ((q0 3), zi k3 400 f3), ((q0 7), zi k6 120 f6)]) [0, 10, 6, 7, 8, 4, 3, 5] rfl
                have hDc := hD.sub (ws' := [(h0, .inr (13, mX13 q0 (upd (upd v0 20 (u25_ 0)) 21 0))), ((q0 6), zi k5 120 f5), ((q0 11), zi k10 120 f10), ((q0 5), zi k4 122880 f4), ((q0 12), zi k11 120 f11), ((q0 2), zi k2 4800 f2), ((q0 3), zi k3 400 f3), ((q0 7), zi k6 120 f6)]) [0, 10, 6, 7, 8, 4, 3, 5] (by decide) rfl
                have hKc := hK.sub (tys' := [(k5, .boolean), (k10, .int), (k4, .short), (k11, .int), (k2, .byte), (k3, .int), (k6, .boolean)]) [9, 5, 6, 7, 3, 2, 4] rfl
                have hFc := va_free (wc := [(h0, .inr (13, mX13 q0 (upd (upd v0 20 (u25_ 0)) 21 0))), ((q0 6), zi k5 120 f5), ((q0 11), zi k10 120 f10), ((q0 5), zi k4 122880 f4), ((q0 12), zi k11 120 f11), ((q0 2), zi k2 4800 f2), ((q0 3), zi k3 400 f3), ((q0 7), zi k6 120 f6)]) hD hS hA [0, 10, 6, 7, 8, 4, 3, 5] rfl
                refine va_calli (va_runV (As := [.int r25_]) (rest := []) ⟨hx, hb, hml, hown, hG⟩ (p12_sX13_holders_0 l dC dI adK adV h0 q0 k5 k10 k4 k11 k2 k3 k6 H.size (upd (upd v0 20 (u25_ 0)) 21 0) f5 f10 f4 f11 f2 f3 f6 r25_ (zR_updF (zR_up2 hv0 20 (show (0 : Int) ≤ ((u25_ 0) : Int32).toInt ∧ ((u25_ 0) : Int32).toInt ≤ (12 : Int) from (by first | with_reducible assumption | exact ⟨by omega, by omega⟩))) 21 rfl) hf10 hf4 hf11 hf3 (show (0 : Int) ≤ (r25_ : Int32).toInt ∧ (r25_ : Int32).toInt ≤ (399 : Int) from (by first | with_reducible assumption | exact ⟨by omega, by omega⟩))) (cwV 1 hG (zgV zv1998 zv2000 zv75 zv142 zv2001) rfl rfl rfl (by decide +kernel) ⟨Nat.le_of_ble_eq_true rfl, Nat.le_of_ble_eq_true rfl⟩) ⟨zPc_blind, va_recv hKc hPc (ci := 13) (q0 := 0) rfl rfl, zPc_pre hPc hKc hDc hE hS hFc hZ⟩ rfl rfl hl.1 rfl (lv_room (Nat.le_of_ble_eq_true rfl)) dX13_posting_87 ⟨Nat.le_of_ble_eq_true rfl, Nat.le_of_ble_eq_true rfl⟩) hS (fun q _ h => hFc q h) hFc (fun r87_ u87_ t H1 locs ht hvm hw hB hz1 hk1 hS => ?_)
                replace hw : (0 ≤ r87_.toInt ∧ r87_.toInt ≤ 120) ∧ (zKg zf1 f5 f2 f3 (v0 4).toInt f4 f6 f10 f11 (v0 13).toInt r25_.toInt (v0 13).toInt r87_.toInt) := hw
                obtain ⟨b_, hX87_0⟩ := hw
                obtain ⟨w87_, a87_, b87_, hP1, hK1, hD1⟩ := hB
                rw [ht] at hP1
                obtain ⟨hP, hD⟩ := va_join (wr := [((q0 17), zi k14 12 f14), ((q0 19), zi k15 12 (a25_ 0)), ((q0 22), zi k16 40000 f16)]) (w1 := [(h0, .inr (13, mX13 q0 (upd (upd v0 20 (u25_ 0)) 21 0))), ((q0 6), zi k5 120 f5), ((q0 11), zi k10 120 f10), ((q0 5), zi k4 122880 f4), ((q0 12), zi k11 120 f11), ((q0 2), zi k2 4800 f2), ((q0 3), zi k3 400 f3), ((q0 7), zi k6 120 f6)]) hP hD [0, 10, 6, 7, 8, 4, 3, 5] [1, 2, 9] rfl rfl (by decide) (by decide) hk1 hFc hP1 hD1
                have hP : va_P (dC, dI) vwCl [(h0, .inr (13, mX13 q0 (upd (upd v0 20 (u25_ 0)) 21 0))), ((q0 17), zi k14 12 f14), ((q0 19), zi k15 12 (a25_ 0)), ((q0 3), zi k3 400 f3), ((q0 2), zi k2 4800 f2), ((q0 7), zi k6 120 f6), ((q0 11), zi k10 120 f10), ((q0 5), zi k4 122880 f4), ((q0 12), zi k11 120 f11), ((q0 22), zi k16 40000 f16), ((q0 6), zi k5 120 f5)] H1 := hP.sub [3, 0, 1, 9, 8, 10, 5, 6, 7, 2, 4] rfl
                have hD : va_D A [(h0, .inr (13, mX13 q0 (upd (upd v0 20 (u25_ 0)) 21 0))), ((q0 17), zi k14 12 f14), ((q0 19), zi k15 12 (a25_ 0)), ((q0 3), zi k3 400 f3), ((q0 2), zi k2 4800 f2), ((q0 7), zi k6 120 f6), ((q0 11), zi k10 120 f10), ((q0 5), zi k4 122880 f4), ((q0 12), zi k11 120 f11), ((q0 22), zi k16 40000 f16), ((q0 6), zi k5 120 f5)] := hD.sub [3, 0, 1, 9, 8, 10, 5, 6, 7, 2, 4] (by decide) rfl
                generalize H1 = H at hP hS ⊢
                clear hz1
                refine W.widen (k := 0) (n := 0) (by decide) (by decide) ?_
                have b_ : -2147483648 ≤ (v0 23).toInt ∧ (v0 23).toInt ≤ 2147483647 := ⟨zlo _, zhi _⟩
                have b_ : 0 ≤ (v0 24).toInt ∧ (v0 24).toInt ≤ 1 := hv0 24
                have hpost : (0 ≤ (u25_ 0).toInt ∧ (u25_ 0).toInt ≤ 12) ∧ (0 ≤ (0 : Int32).toInt ∧ (0 : Int32).toInt ≤ 0) ∧ (0 ≤ (v0 24).toInt ∧ (v0 24).toInt ≤ 1) ∧ (zPr f14 (v0 18).toInt f2 f3 (v0 4).toInt f4 f6 f10 f11 (v0 13).toInt f5 x1.toInt r87_.toInt) := ⟨(by first | with_reducible assumption | exact ⟨by omega, by omega⟩), (by first | with_reducible assumption | exact ⟨by omega, by omega⟩), (by first | with_reducible assumption | exact ⟨by omega, by omega⟩), by first | exact zPr_y hX25_1 (by omega) (fun T V x hm hb hv => Or.inl ⟨by omega, hX71_2 T V x hm hb hv⟩) | exact zPr_y hX25_1 (by omega) (fun T V x hm hb hv => Or.inr (Or.inl ⟨by omega, by have e := hX78_2 T V x hm hb hv; have c := hX81_0 (by omega); rw [c, e, Int.toNat_natCast]⟩)) | exact zPr_y hX25_1 (by omega) (fun T V x hm hb hv => Or.inr (Or.inr (Or.inl ⟨by omega, hX87_0 T V x hm hb hv⟩))) | exact zPr_y hX25_1 (by omega) (fun T V x hm hb hv => Or.inr (Or.inr (Or.inr (Or.inl ⟨by omega, zKg_e hI96_0 (by omega) (by omega) rfl T V x hm hb hv⟩)))) | exact zPr_y hX25_1 (by omega) (fun T V x hm hb hv => Or.inr (Or.inr (Or.inr (Or.inr ⟨by omega, zAh_V hm.1 hX139_0 (by omega) hv⟩)))) | exact zPr_0 (by omega) (by omega) (by omega) hX25_1 (by omega) (by decide) | exact zPr_n (by omega) (by decide)⟩
                have hP9 : va_P (dC, dI) vwCl [(h0, .inr (13, mX13 q0 (upd (upd (upd (upd v0 20 (u25_ 0)) 21 0) 23 (v0 23)) 24 (v0 24)))), ((q0 17), zi k14 12 f14), ((q0 19), zi k15 12 (a25_ 0)), ((q0 3), zi k3 400 f3), ((q0 2), zi k2 4800 f2), ((q0 7), zi k6 120 f6), ((q0 11), zi k10 120 f10), ((q0 5), zi k4 122880 f4), ((q0 12), zi k11 120 f11), ((q0 22), zi k16 40000 f16), ((q0 6), zi k5 120 f5)] H := hP
                have hD9 : va_D A [(h0, .inr (13, mX13 q0 (upd (upd (upd (upd v0 20 (u25_ 0)) 21 0) 23 (v0 23)) 24 (v0 24)))), ((q0 17), zi k14 12 f14), ((q0 19), zi k15 12 (a25_ 0)), ((q0 3), zi k3 400 f3), ((q0 2), zi k2 4800 f2), ((q0 7), zi k6 120 f6), ((q0 11), zi k10 120 f10), ((q0 5), zi k4 122880 f4), ((q0 12), zi k11 120 f11), ((q0 22), zi k16 40000 f16), ((q0 6), zi k5 120 f5)] := hD
                exact W.iret (v := r87_) hx hb hr (fun t ht hW => ⟨⟨r87_, (fun i => ([(u25_ 0), 0, (v0 23), (v0 24)] : List (Int32)).getD i 0), rfl, hpost, (fun _ => 0), (fun i => ([(a25_ 0), f16] : List (Nat → Int32)).getD i (fun _ => 0)), (fun _ => (fun _ => 0)), by rw [ht]; exact hP9, va_K.moved hW.alike hK, hD9⟩, hS.F ht⟩) hS.2.2 dX13_posting_90
              · skip
                have b_ : x1.toInt ≠ 2 := fun h => c_ (zeqi.mpr (h.trans zk_2.symm))
                rcases Classical.em (x1 = (3 : Int32)) with c_ | c_
                · skip
                  have b_ : x1.toInt = 3 := by rw [c_]; exact zk_3
                  refine lv_tableIn (off := 54) (tgt := 91) hx hb dX13_posting_37 (by omega) (by omega) (by rw [b_]; decide) (by decide) ?_
                  refine lv_iconst (v := 0) hx hb dX13_posting_91 (by decide) ?_
                  refine lv_istore_n (lv' := [(3, .int 0), (2, .int r25_), (0, .ref h0), (1, .int x1)]) hx hb dX13_posting_92 rfl hl (by decide) rfl (fun ls hl => ?_)
                  refine lv_iconst (v := 0) hx hb dX13_posting_93 (by decide) ?_
                  refine lv_istore (lv' := [(4, .int 0), (3, .int 0), (2, .int r25_), (0, .ref h0), (1, .int x1)]) hx hb dX13_posting_94 hl (by decide) rfl (fun ls hl => ?_)
                  refine zcutL (fun u96_ => (120 - (u96_ 1).toInt).toNat) (fun H locs ls u96_ w96_ a96_ b96_ => va_P (dC, dI) vwCl [(h0, .inr (13, mX13 q0 (upd (upd v0 20 (u25_ 0)) 21 0))), ((q0 17), zi k14 12 f14), ((q0 19), zi k15 12 (a25_ 0)), ((q0 3), zi k3 400 f3), ((q0 2), zi k2 4800 f2), ((q0 7), zi k6 120 f6), ((q0 11), zi k10 120 f10), ((q0 5), zi k4 122880 f4), ((q0 12), zi k11 120 f11), ((q0 22), zi k16 40000 f16), ((q0 6), zi k5 120 f5)] H ∧ va_D A [(h0, .inr (13, mX13 q0 (upd (upd v0 20 (u25_ 0)) 21 0))), ((q0 17), zi k14 12 f14), ((q0 19), zi k15 12 (a25_ 0)), ((q0 3), zi k3 400 f3), ((q0 2), zi k2 4800 f2), ((q0 7), zi k6 120 f6), ((q0 11), zi k10 120 f10), ((q0 5), zi k4 122880 f4), ((q0 12), zi k11 120 f11), ((q0 22), zi k16 40000 f16), ((q0 6), zi k5 120 f5)] ∧ va_S A s.heap H locs ∧ lv_has ls 5 [(0, .ref h0), (1, .int x1), (2, .int r25_), (3, .int (u96_ 0)), (4, .int (u96_ 1))] ∧ (0 ≤ (u96_ 0).toInt ∧ (u96_ 0).toInt ≤ 122880) ∧ (0 ≤ (u96_ 1).toInt ∧ (u96_ 1).toInt ≤ 120) ∧ (zKg zf2 f5 f2 f3 (v0 4).toInt f4 f6 f10 f11 (v0 13).toInt r25_.toInt (u96_ 1).toInt (u96_ 0).toInt) ∧ ((u96_ 1).toInt ≤ (v0 13).toInt) ∧ ((u96_ 0).toInt ≤ 1024 * (u96_ 1).toInt) ∧ (0 ≤ (u96_ 0).toInt)) (fun ls u96_ w96_ => F0 m 96 ls []) 0 0 ?_ (fun hJ96 => ?_)
                  · skip
                    intro H locs ls u96_ w96_ a96_ b96_ hc hJ96
                    obtain ⟨hP, hD, hS, hl, b_, b_, hI96_0, b_, b_, b_⟩ := hc
                    refine lv_iload hx hb dX13_posting_96 (lv_at hl 4 rfl) ?_
                    refine lv_aload_n hx hb dX13_posting_98 rfl (lv_at hl 0 rfl) ?_
                    refine va_get (D := (dC, dI)) (ci := 13) (v := .int (v0 13)) (C := RX13) (T := TX13) (N := 75) hx hb hG zuX13 hown hK hP 0 rfl rfl 13 (by decide) (hG _ zv1617) (fun _ h9 => h9) rfl dX13_posting_99 ?_
                    refine lv_icmp_ge (tgt := 135) hx hb dX13_posting_102 (by decide) (fun c_ => ?_) (fun c_ => ?_)
                    · skip
                      have b_ := zT_ge rfl rfl c_
                      refine lv_iload_n hx hb dX13_posting_135 rfl (lv_at hl 3 rfl) ?_
                      refine W.widen (k := 0) (n := 0) (by decide) (by decide) ?_
                      have b_ : -2147483648 ≤ (v0 23).toInt ∧ (v0 23).toInt ≤ 2147483647 := ⟨zlo _, zhi _⟩
                      have b_ : 0 ≤ (v0 24).toInt ∧ (v0 24).toInt ≤ 1 := hv0 24
                      have hpost : (0 ≤ (u25_ 0).toInt ∧ (u25_ 0).toInt ≤ 12) ∧ (0 ≤ (0 : Int32).toInt ∧ (0 : Int32).toInt ≤ 0) ∧ (0 ≤ (v0 24).toInt ∧ (v0 24).toInt ≤ 1) ∧ (zPr f14 (v0 18).toInt f2 f3 (v0 4).toInt f4 f6 f10 f11 (v0 13).toInt f5 x1.toInt (u96_ 0).toInt) := ⟨(by first | with_reducible assumption | exact ⟨by omega, by omega⟩), (by first | with_reducible assumption | exact ⟨by omega, by omega⟩), (by first | with_reducible assumption | exact ⟨by omega, by omega⟩), by first | exact zPr_y hX25_1 (by omega) (fun T V x hm hb hv => Or.inl ⟨by omega, hX71_2 T V x hm hb hv⟩) | exact zPr_y hX25_1 (by omega) (fun T V x hm hb hv => Or.inr (Or.inl ⟨by omega, by have e := hX78_2 T V x hm hb hv; have c := hX81_0 (by omega); rw [c, e, Int.toNat_natCast]⟩)) | exact zPr_y hX25_1 (by omega) (fun T V x hm hb hv => Or.inr (Or.inr (Or.inl ⟨by omega, hX87_0 T V x hm hb hv⟩))) | exact zPr_y hX25_1 (by omega) (fun T V x hm hb hv => Or.inr (Or.inr (Or.inr (Or.inl ⟨by omega, zKg_e hI96_0 (by omega) (by omega) rfl T V x hm hb hv⟩)))) | exact zPr_y hX25_1 (by omega) (fun T V x hm hb hv => Or.inr (Or.inr (Or.inr (Or.inr ⟨by omega, zAh_V hm.1 hX139_0 (by omega) hv⟩)))) | exact zPr_0 (by omega) (by omega) (by omega) hX25_1 (by omega) (by decide) | exact zPr_n (by omega) (by decide)⟩
                      have hP9 : va_P (dC, dI) vwCl [(h0, .inr (13, mX13 q0 (upd (upd (upd (upd v0 20 (u25_ 0)) 21 0) 23 (v0 23)) 24 (v0 24)))), ((q0 17), zi k14 12 f14), ((q0 19), zi k15 12 (a25_ 0)), ((q0 3), zi k3 400 f3), ((q0 2), zi k2 4800 f2), ((q0 7), zi k6 120 f6), ((q0 11), zi k10 120 f10), ((q0 5), zi k4 122880 f4), ((q0 12), zi k11 120 f11), ((q0 22), zi k16 40000 f16), ((q0 6), zi k5 120 f5)] H := hP
                      have hD9 : va_D A [(h0, .inr (13, mX13 q0 (upd (upd (upd (upd v0 20 (u25_ 0)) 21 0) 23 (v0 23)) 24 (v0 24)))), ((q0 17), zi k14 12 f14), ((q0 19), zi k15 12 (a25_ 0)), ((q0 3), zi k3 400 f3), ((q0 2), zi k2 4800 f2), ((q0 7), zi k6 120 f6), ((q0 11), zi k10 120 f10), ((q0 5), zi k4 122880 f4), ((q0 12), zi k11 120 f11), ((q0 22), zi k16 40000 f16), ((q0 6), zi k5 120 f5)] := hD
                      exact W.iret (v := (u96_ 0)) hx hb hr (fun t ht hW => ⟨⟨(u96_ 0), (fun i => ([(u25_ 0), 0, (v0 23), (v0 24)] : List (Int32)).getD i 0), rfl, hpost, (fun _ => 0), (fun i => ([(a25_ 0), f16] : List (Nat → Int32)).getD i (fun _ => 0)), (fun _ => (fun _ => 0)), by rw [ht]; exact hP9, va_K.moved hW.alike hK, hD9⟩, hS.F ht⟩) hS.2.2 dX13_posting_136
                    · skip
                      have b_ := zF_ge rfl rfl c_
                      refine lv_iload_n hx hb dX13_posting_105 rfl (lv_at hl 3 rfl) ?_
                      refine lv_aload_n hx hb dX13_posting_106 rfl (lv_at hl 0 rfl) ?_
                      refine va_get (D := (dC, dI)) (ci := 13) (v := .ref (q0 6)) (C := RX13) (T := TX13) (N := 75) hx hb hG zuX13 hown hK hP 0 rfl rfl 6 (by decide) (hG _ zv1610) (fun _ h9 => h9) rfl dX13_posting_107 ?_
                      refine lv_iload hx hb dX13_posting_110 (lv_at hl 4 rfl) ?_
                      refine va_zald hx hb hK hP 10 9 rfl rfl (zin_lit ⟨by omega, by omega⟩) dX13_posting_112 ?_
                      refine lv_topi (fun z112 e_z112 => ?_)
                      have b_ : -2147483648 ≤ z112.toInt ∧ z112.toInt ≤ 2147483647 := ⟨zlo _, zhi _⟩
                      refine lv_if_eq (tgt := 126) hx hb dX13_posting_113 (by decide) (fun c_ => ?_) (fun c_ => ?_)
                      · skip
                        have b_ := zT_eq rfl zk_0 c_
                        refine lv_iconst (v := 0) hx hb dX13_posting_126 (by decide) ?_
                        refine lv_iadd hx hb dX13_posting_127 ?_
                        refine lv_topi (fun z127 e_z127 => ?_)
                        have b_ := zadd rfl zk_0 e_z127 (by omega) (by omega)
                        refine lv_istore_n (lv' := [(3, .int z127), (0, .ref h0), (1, .int x1), (2, .int r25_), (4, .int (u96_ 1))]) hx hb dX13_posting_128 rfl hl (by decide) rfl (fun ls hl => ?_)
                        obtain ⟨z129, e_z129⟩ : ∃ z : Int32, z = (u96_ 1) + Int32.ofInt 1 := ⟨_, rfl⟩
                        have b_ := zadd (x := (u96_ 1)) (y := Int32.ofInt 1) rfl (show (Int32.ofInt 1).toInt = 1 from by decide) e_z129 (by omega) (by omega)
                        refine lv_iinc (v := z129) (lv' := [(4, .int z129), (3, .int z127), (0, .ref h0), (1, .int x1), (2, .int r25_)]) hx hb dX13_posting_129 hl (k := 4) rfl e_z129.symm (by decide) rfl (fun ls hl => ?_)
                        have hkg : zKg zf2 f5 f2 f3 (v0 4).toInt f4 f6 f10 f11 (v0 13).toInt r25_.toInt z129.toInt z127.toInt := zKg_n zf2_b hI96_0 (by omega) (by rw [← e_z112]; omega) (by omega) (by omega)
                        refine lv_goto (tgt := 96) hx hb dX13_posting_132 (by decide) ?_
                        have hc : va_P (dC, dI) vwCl [(h0, .inr (13, mX13 q0 (upd (upd v0 20 (u25_ 0)) 21 0))), ((q0 17), zi k14 12 f14), ((q0 19), zi k15 12 (a25_ 0)), ((q0 3), zi k3 400 f3), ((q0 2), zi k2 4800 f2), ((q0 7), zi k6 120 f6), ((q0 11), zi k10 120 f10), ((q0 5), zi k4 122880 f4), ((q0 12), zi k11 120 f11), ((q0 22), zi k16 40000 f16), ((q0 6), zi k5 120 f5)] H ∧ va_D A [(h0, .inr (13, mX13 q0 (upd (upd v0 20 (u25_ 0)) 21 0))), ((q0 17), zi k14 12 f14), ((q0 19), zi k15 12 (a25_ 0)), ((q0 3), zi k3 400 f3), ((q0 2), zi k2 4800 f2), ((q0 7), zi k6 120 f6), ((q0 11), zi k10 120 f10), ((q0 5), zi k4 122880 f4), ((q0 12), zi k11 120 f11), ((q0 22), zi k16 40000 f16), ((q0 6), zi k5 120 f5)] ∧ va_S A s.heap H locs ∧ lv_has ls 5 [(0, .ref h0), (1, .int x1), (2, .int r25_), (3, .int z127), (4, .int z129)] ∧ (0 ≤ z127.toInt ∧ z127.toInt ≤ 122880) ∧ (0 ≤ z129.toInt ∧ z129.toInt ≤ 120) ∧ (zKg zf2 f5 f2 f3 (v0 4).toInt f4 f6 f10 f11 (v0 13).toInt r25_.toInt z129.toInt z127.toInt) ∧ (z129.toInt ≤ (v0 13).toInt) ∧ (z127.toInt ≤ 1024 * z129.toInt) ∧ (0 ≤ z127.toInt) := ⟨hP, hD, hS, lv_sub hl [2, 3, 4, 1, 0] rfl, (by first | with_reducible assumption | exact ⟨by omega, by omega⟩), (by first | with_reducible assumption | exact ⟨by omega, by omega⟩), by first | exact hkg | exact zKg_0 (by decide) (by decide), by omega, by omega, by omega⟩
                        exact hJ96 H locs ls (fun i => ([z127, z129] : List (Int32)).getD i 0) (fun _ => 0) (fun _ => (fun _ => 0)) (fun _ => (fun _ => 0)) hc (show (120 - z129.toInt).toNat < (120 - (u96_ 1).toInt).toNat from by omega)
                      · skip
                        have b_ := zF_eq rfl zk_0 c_
                        refine lv_aload_n hx hb dX13_posting_116 rfl (lv_at hl 0 rfl) ?_
                        refine lv_iload hx hb dX13_posting_117 (lv_at hl 4 rfl) ?_
                        refine lv_iload_n hx hb dX13_posting_119 rfl (lv_at hl 2 rfl) ?_
                        have hPc := hP.sub (ws' := [(h0, .inr (13, mX13 q0 (upd (upd v0 20 (u25_ 0)) 21 0))), ((q0 11), zi k10 120 f10), ((q0 5), zi k4 122880 f4), ((q0 12), zi k11 120 f11)]) [0, 6, 7, 8] rfl
                        have hDc := hD.sub (ws' := [(h0, .inr (13, mX13 q0 (upd (upd v0 20 (u25_ 0)) 21 0))), ((q0 11), zi k10 120 f10), ((q0 5), zi k4 122880 f4), ((q0 12), zi k11 120 f11)]) [0, 6, 7, 8] (by decide) rfl
                        have hKc := hK.sub (tys' := [(k10, .int), (k4, .short), (k11, .int)]) [5, 6, 7] rfl
                        have hFc := va_free (wc := [(h0, .inr (13, mX13 q0 (upd (upd v0 20 (u25_ 0)) 21 0))), ((q0 11), zi k10 120 f10), ((q0 5), zi k4 122880 f4), ((q0 12), zi k11 120 f11)]) hD hS hA [0, 6, 7, 8] rfl
                        refine va_calli (va_runV (As := [.int (u96_ 1), .int r25_]) (rest := [.int (u96_ 0)]) ⟨hx, hb, hml, hown, hG⟩ (p12_sX13_timesOf_0 l dC dI adK adV h0 q0 k10 k4 k11 H.size (upd (upd v0 20 (u25_ 0)) 21 0) f10 f4 f11 (u96_ 1) r25_ (zR_updF (zR_up2 hv0 20 (show (0 : Int) ≤ ((u25_ 0) : Int32).toInt ∧ ((u25_ 0) : Int32).toInt ≤ (12 : Int) from (by first | with_reducible assumption | exact ⟨by omega, by omega⟩))) 21 rfl) hf10 hf4 hf11 (show (0 : Int) ≤ ((u96_ 1) : Int32).toInt ∧ ((u96_ 1) : Int32).toInt ≤ (119 : Int) from (by first | with_reducible assumption | exact ⟨by omega, by omega⟩)) (show (0 : Int) ≤ (r25_ : Int32).toInt ∧ (r25_ : Int32).toInt ≤ (399 : Int) from (by first | with_reducible assumption | exact ⟨by omega, by omega⟩))) (cwV 2 hG (zgV zv1975 zv1977 zv71 zv142 zv1978) rfl rfl rfl (by decide +kernel) ⟨Nat.le_of_ble_eq_true rfl, Nat.le_of_ble_eq_true rfl⟩) ⟨zPc_blind, va_recv hKc hPc (ci := 13) (q0 := 0) rfl rfl, zPc_pre hPc hKc hDc hE hS hFc hZ⟩ rfl rfl hl.1 rfl (lv_room (Nat.le_of_ble_eq_true rfl)) dX13_posting_120 ⟨Nat.le_of_ble_eq_true rfl, Nat.le_of_ble_eq_true rfl⟩) hS (fun q _ h => hFc q h) hFc (fun r120_ u120_ t H1 locs ht hvm hw hB hz1 hk1 hS => ?_)
                        replace hw : (0 ≤ r120_.toInt ∧ r120_.toInt ≤ 1024) ∧ (r120_.toInt ≤ (zp f4 (u96_ 1).toInt r25_.toInt 1024).1) ∧ (zTf f4 f10 f11 ((u96_ 1) : Int32) r25_.toInt r120_.toInt) := hw
                        obtain ⟨b_, hX120_0, hX120_1⟩ := hw
                        obtain ⟨w120_, a120_, b120_, hP1, hK1, hD1⟩ := hB
                        rw [ht] at hP1
                        obtain ⟨hP, hD⟩ := va_join (wr := [((q0 17), zi k14 12 f14), ((q0 19), zi k15 12 (a25_ 0)), ((q0 3), zi k3 400 f3), ((q0 2), zi k2 4800 f2), ((q0 7), zi k6 120 f6), ((q0 22), zi k16 40000 f16), ((q0 6), zi k5 120 f5)]) (w1 := [(h0, .inr (13, mX13 q0 (upd (upd v0 20 (u25_ 0)) 21 0))), ((q0 11), zi k10 120 f10), ((q0 5), zi k4 122880 f4), ((q0 12), zi k11 120 f11)]) hP hD [0, 6, 7, 8] [1, 2, 3, 4, 5, 9, 10] rfl rfl (by decide) (by decide) hk1 hFc hP1 hD1
                        have hP : va_P (dC, dI) vwCl [(h0, .inr (13, mX13 q0 (upd (upd v0 20 (u25_ 0)) 21 0))), ((q0 17), zi k14 12 f14), ((q0 19), zi k15 12 (a25_ 0)), ((q0 3), zi k3 400 f3), ((q0 2), zi k2 4800 f2), ((q0 7), zi k6 120 f6), ((q0 11), zi k10 120 f10), ((q0 5), zi k4 122880 f4), ((q0 12), zi k11 120 f11), ((q0 22), zi k16 40000 f16), ((q0 6), zi k5 120 f5)] H1 := hP.sub [7, 0, 1, 2, 3, 4, 8, 9, 10, 5, 6] rfl
                        have hD : va_D A [(h0, .inr (13, mX13 q0 (upd (upd v0 20 (u25_ 0)) 21 0))), ((q0 17), zi k14 12 f14), ((q0 19), zi k15 12 (a25_ 0)), ((q0 3), zi k3 400 f3), ((q0 2), zi k2 4800 f2), ((q0 7), zi k6 120 f6), ((q0 11), zi k10 120 f10), ((q0 5), zi k4 122880 f4), ((q0 12), zi k11 120 f11), ((q0 22), zi k16 40000 f16), ((q0 6), zi k5 120 f5)] := hD.sub [7, 0, 1, 2, 3, 4, 8, 9, 10, 5, 6] (by decide) rfl
                        generalize H1 = H at hP hS ⊢
                        clear hz1
                        refine lv_goto (tgt := 127) hx hb dX13_posting_123 (by decide) ?_
                        refine lv_iadd hx hb dX13_posting_127 ?_
                        refine lv_topi (fun z127 e_z127 => ?_)
                        have b_ := zadd rfl rfl e_z127 (by omega) (by omega)
                        refine lv_istore_n (lv' := [(3, .int z127), (0, .ref h0), (1, .int x1), (2, .int r25_), (4, .int (u96_ 1))]) hx hb dX13_posting_128 rfl hl (by decide) rfl (fun ls hl => ?_)
                        obtain ⟨z129, e_z129⟩ : ∃ z : Int32, z = (u96_ 1) + Int32.ofInt 1 := ⟨_, rfl⟩
                        have b_ := zadd (x := (u96_ 1)) (y := Int32.ofInt 1) rfl (show (Int32.ofInt 1).toInt = 1 from by decide) e_z129 (by omega) (by omega)
                        refine lv_iinc (v := z129) (lv' := [(4, .int z129), (3, .int z127), (0, .ref h0), (1, .int x1), (2, .int r25_)]) hx hb dX13_posting_129 hl (k := 4) rfl e_z129.symm (by decide) rfl (fun ls hl => ?_)
                        have hkg : zKg zf2 f5 f2 f3 (v0 4).toInt f4 f6 f10 f11 (v0 13).toInt r25_.toInt z129.toInt z127.toInt := zKg_t zf2_b hI96_0 (by omega) (by omega) (by omega) (by omega) (by rw [← e_z112]; omega) hX120_1 (by omega) (fun q1 q2 q3 q4 => by unfold zf2; omega)
                        refine lv_goto (tgt := 96) hx hb dX13_posting_132 (by decide) ?_
                        have hc : va_P (dC, dI) vwCl [(h0, .inr (13, mX13 q0 (upd (upd v0 20 (u25_ 0)) 21 0))), ((q0 17), zi k14 12 f14), ((q0 19), zi k15 12 (a25_ 0)), ((q0 3), zi k3 400 f3), ((q0 2), zi k2 4800 f2), ((q0 7), zi k6 120 f6), ((q0 11), zi k10 120 f10), ((q0 5), zi k4 122880 f4), ((q0 12), zi k11 120 f11), ((q0 22), zi k16 40000 f16), ((q0 6), zi k5 120 f5)] H ∧ va_D A [(h0, .inr (13, mX13 q0 (upd (upd v0 20 (u25_ 0)) 21 0))), ((q0 17), zi k14 12 f14), ((q0 19), zi k15 12 (a25_ 0)), ((q0 3), zi k3 400 f3), ((q0 2), zi k2 4800 f2), ((q0 7), zi k6 120 f6), ((q0 11), zi k10 120 f10), ((q0 5), zi k4 122880 f4), ((q0 12), zi k11 120 f11), ((q0 22), zi k16 40000 f16), ((q0 6), zi k5 120 f5)] ∧ va_S A s.heap H locs ∧ lv_has ls 5 [(0, .ref h0), (1, .int x1), (2, .int r25_), (3, .int z127), (4, .int z129)] ∧ (0 ≤ z127.toInt ∧ z127.toInt ≤ 122880) ∧ (0 ≤ z129.toInt ∧ z129.toInt ≤ 120) ∧ (zKg zf2 f5 f2 f3 (v0 4).toInt f4 f6 f10 f11 (v0 13).toInt r25_.toInt z129.toInt z127.toInt) ∧ (z129.toInt ≤ (v0 13).toInt) ∧ (z127.toInt ≤ 1024 * z129.toInt) ∧ (0 ≤ z127.toInt) := ⟨hP, hD, hS, lv_sub hl [2, 3, 4, 1, 0] rfl, (by first | with_reducible assumption | exact ⟨by omega, by omega⟩), (by first | with_reducible assumption | exact ⟨by omega, by omega⟩), by first | exact hkg | exact zKg_0 (by decide) (by decide), by omega, by omega, by omega⟩
                        exact hJ96 H locs ls (fun i => ([z127, z129] : List (Int32)).getD i 0) (fun _ => 0) (fun _ => (fun _ => 0)) (fun _ => (fun _ => 0)) hc (show (120 - z129.toInt).toNat < (120 - (u96_ 1).toInt).toNat from by omega)
                  · skip
                    have hc : va_P (dC, dI) vwCl [(h0, .inr (13, mX13 q0 (upd (upd v0 20 (u25_ 0)) 21 0))), ((q0 17), zi k14 12 f14), ((q0 19), zi k15 12 (a25_ 0)), ((q0 3), zi k3 400 f3), ((q0 2), zi k2 4800 f2), ((q0 7), zi k6 120 f6), ((q0 11), zi k10 120 f10), ((q0 5), zi k4 122880 f4), ((q0 12), zi k11 120 f11), ((q0 22), zi k16 40000 f16), ((q0 6), zi k5 120 f5)] H ∧ va_D A [(h0, .inr (13, mX13 q0 (upd (upd v0 20 (u25_ 0)) 21 0))), ((q0 17), zi k14 12 f14), ((q0 19), zi k15 12 (a25_ 0)), ((q0 3), zi k3 400 f3), ((q0 2), zi k2 4800 f2), ((q0 7), zi k6 120 f6), ((q0 11), zi k10 120 f10), ((q0 5), zi k4 122880 f4), ((q0 12), zi k11 120 f11), ((q0 22), zi k16 40000 f16), ((q0 6), zi k5 120 f5)] ∧ va_S A s.heap H locs ∧ lv_has ls 5 [(0, .ref h0), (1, .int x1), (2, .int r25_), (3, .int 0), (4, .int 0)] ∧ (0 ≤ (0 : Int32).toInt ∧ (0 : Int32).toInt ≤ 122880) ∧ (0 ≤ (0 : Int32).toInt ∧ (0 : Int32).toInt ≤ 120) ∧ (zKg zf2 f5 f2 f3 (v0 4).toInt f4 f6 f10 f11 (v0 13).toInt r25_.toInt (0 : Int32).toInt (0 : Int32).toInt) ∧ ((0 : Int32).toInt ≤ (v0 13).toInt) ∧ ((0 : Int32).toInt ≤ 1024 * (0 : Int32).toInt) ∧ (0 ≤ (0 : Int32).toInt) := ⟨hP, hD, hS, lv_sub hl [3, 4, 2, 1, 0] rfl, (by first | with_reducible assumption | exact ⟨by omega, by omega⟩), (by first | with_reducible assumption | exact ⟨by omega, by omega⟩), by first | exact hkg | exact zKg_0 (by decide) (by decide), by omega, by omega, by omega⟩
                    exact hJ96 H locs ls (fun i => ([0, 0] : List (Int32)).getD i 0) (fun _ => 0) (fun _ => (fun _ => 0)) (fun _ => (fun _ => 0)) hc
                · skip
                  have b_ : x1.toInt ≠ 3 := fun h => c_ (zeqi.mpr (h.trans zk_3.symm))
                  refine lv_tableOut (tgt := 137) hx hb dX13_posting_37 (by omega) (by decide) ?_
                  refine lv_aload_n hx hb dX13_posting_137 rfl (lv_at hl 1 rfl) ?_
                  refine lv_iload_n hx hb dX13_posting_138 rfl (lv_at hl 0 rfl) ?_
                  have hPc := hP.sub (ws' := [(h0, .inr (13, mX13 q0 (upd (upd v0 20 (u25_ 0)) 21 0))), ((q0 3), zi k3 400 f3), ((q0 2), zi k2 4800 f2)]) [0, 3, 4] rfl
                  have hDc := hD.sub (ws' := [(h0, .inr (13, mX13 q0 (upd (upd v0 20 (u25_ 0)) 21 0))), ((q0 3), zi k3 400 f3), ((q0 2), zi k2 4800 f2)]) [0, 3, 4] (by decide) rfl
                  have hKc := hK.sub (tys' := [(k3, .int), (k2, .byte)]) [2, 3] rfl
                  have hFc := va_free (wc := [(h0, .inr (13, mX13 q0 (upd (upd v0 20 (u25_ 0)) 21 0))), ((q0 3), zi k3 400 f3), ((q0 2), zi k2 4800 f2)]) hD hS hA [0, 3, 4] rfl
                  refine va_calli (va_runV (As := [.int r25_]) (rest := []) ⟨hx, hb, hml, hown, hG⟩ (p12_sX13_ahead_0 l dC dI adK adV h0 q0 k3 k2 H.size (upd (upd v0 20 (u25_ 0)) 21 0) f3 f2 r25_ (zR_updF (zR_up2 hv0 20 (show (0 : Int) ≤ ((u25_ 0) : Int32).toInt ∧ ((u25_ 0) : Int32).toInt ≤ (12 : Int) from (by first | with_reducible assumption | exact ⟨by omega, by omega⟩))) 21 rfl) hf3 (show (0 : Int) ≤ (r25_ : Int32).toInt ∧ (r25_ : Int32).toInt ≤ (399 : Int) from (by first | with_reducible assumption | exact ⟨by omega, by omega⟩))) (cwV 1 hG (zgV zv2002 zv2004 zv76 zv142 zv2005) rfl rfl rfl (by decide +kernel) ⟨Nat.le_of_ble_eq_true rfl, Nat.le_of_ble_eq_true rfl⟩) ⟨zPc_blind, va_recv hKc hPc (ci := 13) (q0 := 0) rfl rfl, zPc_pre hPc hKc hDc hE hS hFc hZ⟩ rfl rfl hl.1 rfl (lv_room (Nat.le_of_ble_eq_true rfl)) dX13_posting_139 ⟨Nat.le_of_ble_eq_true rfl, Nat.le_of_ble_eq_true rfl⟩) hS (fun q _ h => hFc q h) hFc (fun r139_ u139_ t H1 locs ht hvm hw hB hz1 hk1 hS => ?_)
                  replace hw : (0 ≤ r139_.toInt ∧ r139_.toInt ≤ 400) ∧ (zAh f2 f3 (v0 4).toInt r25_.toInt (v0 4).toInt r139_.toInt) := hw
                  obtain ⟨b_, hX139_0⟩ := hw
                  obtain ⟨w139_, a139_, b139_, hP1, hK1, hD1⟩ := hB
                  rw [ht] at hP1
                  obtain ⟨hP, hD⟩ := va_join (wr := [((q0 17), zi k14 12 f14), ((q0 19), zi k15 12 (a25_ 0)), ((q0 7), zi k6 120 f6), ((q0 11), zi k10 120 f10), ((q0 5), zi k4 122880 f4), ((q0 12), zi k11 120 f11), ((q0 22), zi k16 40000 f16), ((q0 6), zi k5 120 f5)]) (w1 := [(h0, .inr (13, mX13 q0 (upd (upd v0 20 (u25_ 0)) 21 0))), ((q0 3), zi k3 400 f3), ((q0 2), zi k2 4800 f2)]) hP hD [0, 3, 4] [1, 2, 5, 6, 7, 8, 9, 10] rfl rfl (by decide) (by decide) hk1 hFc hP1 hD1
                  have hP : va_P (dC, dI) vwCl [(h0, .inr (13, mX13 q0 (upd (upd v0 20 (u25_ 0)) 21 0))), ((q0 17), zi k14 12 f14), ((q0 19), zi k15 12 (a25_ 0)), ((q0 3), zi k3 400 f3), ((q0 2), zi k2 4800 f2), ((q0 7), zi k6 120 f6), ((q0 11), zi k10 120 f10), ((q0 5), zi k4 122880 f4), ((q0 12), zi k11 120 f11), ((q0 22), zi k16 40000 f16), ((q0 6), zi k5 120 f5)] H1 := hP.sub [8, 0, 1, 9, 10, 2, 3, 4, 5, 6, 7] rfl
                  have hD : va_D A [(h0, .inr (13, mX13 q0 (upd (upd v0 20 (u25_ 0)) 21 0))), ((q0 17), zi k14 12 f14), ((q0 19), zi k15 12 (a25_ 0)), ((q0 3), zi k3 400 f3), ((q0 2), zi k2 4800 f2), ((q0 7), zi k6 120 f6), ((q0 11), zi k10 120 f10), ((q0 5), zi k4 122880 f4), ((q0 12), zi k11 120 f11), ((q0 22), zi k16 40000 f16), ((q0 6), zi k5 120 f5)] := hD.sub [8, 0, 1, 9, 10, 2, 3, 4, 5, 6, 7] (by decide) rfl
                  generalize H1 = H at hP hS ⊢
                  clear hz1
                  refine W.widen (k := 0) (n := 0) (by decide) (by decide) ?_
                  have b_ : -2147483648 ≤ (v0 23).toInt ∧ (v0 23).toInt ≤ 2147483647 := ⟨zlo _, zhi _⟩
                  have b_ : 0 ≤ (v0 24).toInt ∧ (v0 24).toInt ≤ 1 := hv0 24
                  have hpost : (0 ≤ (u25_ 0).toInt ∧ (u25_ 0).toInt ≤ 12) ∧ (0 ≤ (0 : Int32).toInt ∧ (0 : Int32).toInt ≤ 0) ∧ (0 ≤ (v0 24).toInt ∧ (v0 24).toInt ≤ 1) ∧ (zPr f14 (v0 18).toInt f2 f3 (v0 4).toInt f4 f6 f10 f11 (v0 13).toInt f5 x1.toInt r139_.toInt) := ⟨(by first | with_reducible assumption | exact ⟨by omega, by omega⟩), (by first | with_reducible assumption | exact ⟨by omega, by omega⟩), (by first | with_reducible assumption | exact ⟨by omega, by omega⟩), by first | exact zPr_y hX25_1 (by omega) (fun T V x hm hb hv => Or.inl ⟨by omega, hX71_2 T V x hm hb hv⟩) | exact zPr_y hX25_1 (by omega) (fun T V x hm hb hv => Or.inr (Or.inl ⟨by omega, by have e := hX78_2 T V x hm hb hv; have c := hX81_0 (by omega); rw [c, e, Int.toNat_natCast]⟩)) | exact zPr_y hX25_1 (by omega) (fun T V x hm hb hv => Or.inr (Or.inr (Or.inl ⟨by omega, hX87_0 T V x hm hb hv⟩))) | exact zPr_y hX25_1 (by omega) (fun T V x hm hb hv => Or.inr (Or.inr (Or.inr (Or.inl ⟨by omega, zKg_e hI96_0 (by omega) (by omega) rfl T V x hm hb hv⟩)))) | exact zPr_y hX25_1 (by omega) (fun T V x hm hb hv => Or.inr (Or.inr (Or.inr (Or.inr ⟨by omega, zAh_V hm.1 hX139_0 (by omega) hv⟩)))) | exact zPr_0 (by omega) (by omega) (by omega) hX25_1 (by omega) (by decide) | exact zPr_n (by omega) (by decide)⟩
                  have hP9 : va_P (dC, dI) vwCl [(h0, .inr (13, mX13 q0 (upd (upd (upd (upd v0 20 (u25_ 0)) 21 0) 23 (v0 23)) 24 (v0 24)))), ((q0 17), zi k14 12 f14), ((q0 19), zi k15 12 (a25_ 0)), ((q0 3), zi k3 400 f3), ((q0 2), zi k2 4800 f2), ((q0 7), zi k6 120 f6), ((q0 11), zi k10 120 f10), ((q0 5), zi k4 122880 f4), ((q0 12), zi k11 120 f11), ((q0 22), zi k16 40000 f16), ((q0 6), zi k5 120 f5)] H := hP
                  have hD9 : va_D A [(h0, .inr (13, mX13 q0 (upd (upd (upd (upd v0 20 (u25_ 0)) 21 0) 23 (v0 23)) 24 (v0 24)))), ((q0 17), zi k14 12 f14), ((q0 19), zi k15 12 (a25_ 0)), ((q0 3), zi k3 400 f3), ((q0 2), zi k2 4800 f2), ((q0 7), zi k6 120 f6), ((q0 11), zi k10 120 f10), ((q0 5), zi k4 122880 f4), ((q0 12), zi k11 120 f11), ((q0 22), zi k16 40000 f16), ((q0 6), zi k5 120 f5)] := hD
                  exact W.iret (v := r139_) hx hb hr (fun t ht hW => ⟨⟨r139_, (fun i => ([(u25_ 0), 0, (v0 23), (v0 24)] : List (Int32)).getD i 0), rfl, hpost, (fun _ => 0), (fun i => ([(a25_ 0), f16] : List (Nat → Int32)).getD i (fun _ => 0)), (fun _ => (fun _ => 0)), by rw [ht]; exact hP9, va_K.moved hW.alike hK, hD9⟩, hS.F ht⟩) hS.2.2 dX13_posting_142
        · skip
          have b_ := zF_ne rfl zk_m1 c_
          refine lv_iconst (v := 0) hx hb dX13_posting_34 (by decide) ?_
          refine W.widen (k := 0) (n := 0) (by decide) (by decide) ?_
          have b_ : -2147483648 ≤ (v0 23).toInt ∧ (v0 23).toInt ≤ 2147483647 := ⟨zlo _, zhi _⟩
          have b_ : 0 ≤ (v0 24).toInt ∧ (v0 24).toInt ≤ 1 := hv0 24
          have hpost : (0 ≤ (u25_ 0).toInt ∧ (u25_ 0).toInt ≤ 12) ∧ (0 ≤ (0 : Int32).toInt ∧ (0 : Int32).toInt ≤ 0) ∧ (0 ≤ (v0 24).toInt ∧ (v0 24).toInt ≤ 1) ∧ (zPr f14 (v0 18).toInt f2 f3 (v0 4).toInt f4 f6 f10 f11 (v0 13).toInt f5 x1.toInt (0 : Int32).toInt) := ⟨(by first | with_reducible assumption | exact ⟨by omega, by omega⟩), (by first | with_reducible assumption | exact ⟨by omega, by omega⟩), (by first | with_reducible assumption | exact ⟨by omega, by omega⟩), by first | exact zPr_y hX25_1 (by omega) (fun T V x hm hb hv => Or.inl ⟨by omega, hX71_2 T V x hm hb hv⟩) | exact zPr_y hX25_1 (by omega) (fun T V x hm hb hv => Or.inr (Or.inl ⟨by omega, by have e := hX78_2 T V x hm hb hv; have c := hX81_0 (by omega); rw [c, e, Int.toNat_natCast]⟩)) | exact zPr_y hX25_1 (by omega) (fun T V x hm hb hv => Or.inr (Or.inr (Or.inl ⟨by omega, hX87_0 T V x hm hb hv⟩))) | exact zPr_y hX25_1 (by omega) (fun T V x hm hb hv => Or.inr (Or.inr (Or.inr (Or.inl ⟨by omega, zKg_e hI96_0 (by omega) (by omega) rfl T V x hm hb hv⟩)))) | exact zPr_y hX25_1 (by omega) (fun T V x hm hb hv => Or.inr (Or.inr (Or.inr (Or.inr ⟨by omega, zAh_V hm.1 hX139_0 (by omega) hv⟩)))) | exact zPr_0 (by omega) (by omega) (by omega) hX25_1 (by omega) (by decide) | exact zPr_n (by omega) (by decide)⟩
          have hP9 : va_P (dC, dI) vwCl [(h0, .inr (13, mX13 q0 (upd (upd (upd (upd v0 20 (u25_ 0)) 21 0) 23 (v0 23)) 24 (v0 24)))), ((q0 17), zi k14 12 f14), ((q0 19), zi k15 12 (a25_ 0)), ((q0 3), zi k3 400 f3), ((q0 2), zi k2 4800 f2), ((q0 7), zi k6 120 f6), ((q0 11), zi k10 120 f10), ((q0 5), zi k4 122880 f4), ((q0 12), zi k11 120 f11), ((q0 22), zi k16 40000 f16), ((q0 6), zi k5 120 f5)] H := hP
          have hD9 : va_D A [(h0, .inr (13, mX13 q0 (upd (upd (upd (upd v0 20 (u25_ 0)) 21 0) 23 (v0 23)) 24 (v0 24)))), ((q0 17), zi k14 12 f14), ((q0 19), zi k15 12 (a25_ 0)), ((q0 3), zi k3 400 f3), ((q0 2), zi k2 4800 f2), ((q0 7), zi k6 120 f6), ((q0 11), zi k10 120 f10), ((q0 5), zi k4 122880 f4), ((q0 12), zi k11 120 f11), ((q0 22), zi k16 40000 f16), ((q0 6), zi k5 120 f5)] := hD
          exact W.iret (v := 0) hx hb hr (fun t ht hW => ⟨⟨0, (fun i => ([(u25_ 0), 0, (v0 23), (v0 24)] : List (Int32)).getD i 0), rfl, hpost, (fun _ => 0), (fun i => ([(a25_ 0), f16] : List (Nat → Int32)).getD i (fun _ => 0)), (fun _ => (fun _ => 0)), by rw [ht]; exact hP9, va_K.moved hW.alike hK, hD9⟩, hS.F ht⟩) hS.2.2 dX13_posting_35
      · skip
        have b_ := zF_le rfl zk_4 c_
        refine lv_iconst (v := (-1)) hx hb dX13_posting_22 (by decide) ?_
        refine W.widen (k := 0) (n := 0) (by decide) (by decide) ?_
        have b_ : 0 ≤ (v0 20).toInt ∧ (v0 20).toInt ≤ 12 := hv0 20
        have b_ : -2147483648 ≤ (v0 23).toInt ∧ (v0 23).toInt ≤ 2147483647 := ⟨zlo _, zhi _⟩
        have b_ : 0 ≤ (v0 24).toInt ∧ (v0 24).toInt ≤ 1 := hv0 24
        have hpost : (0 ≤ (v0 20).toInt ∧ (v0 20).toInt ≤ 12) ∧ (0 ≤ (0 : Int32).toInt ∧ (0 : Int32).toInt ≤ 0) ∧ (0 ≤ (v0 24).toInt ∧ (v0 24).toInt ≤ 1) ∧ (zPr f14 (v0 18).toInt f2 f3 (v0 4).toInt f4 f6 f10 f11 (v0 13).toInt f5 x1.toInt ((-1) : Int32).toInt) := ⟨(by first | with_reducible assumption | exact ⟨by omega, by omega⟩), (by first | with_reducible assumption | exact ⟨by omega, by omega⟩), (by first | with_reducible assumption | exact ⟨by omega, by omega⟩), by first | exact zPr_y hX25_1 (by omega) (fun T V x hm hb hv => Or.inl ⟨by omega, hX71_2 T V x hm hb hv⟩) | exact zPr_y hX25_1 (by omega) (fun T V x hm hb hv => Or.inr (Or.inl ⟨by omega, by have e := hX78_2 T V x hm hb hv; have c := hX81_0 (by omega); rw [c, e, Int.toNat_natCast]⟩)) | exact zPr_y hX25_1 (by omega) (fun T V x hm hb hv => Or.inr (Or.inr (Or.inl ⟨by omega, hX87_0 T V x hm hb hv⟩))) | exact zPr_y hX25_1 (by omega) (fun T V x hm hb hv => Or.inr (Or.inr (Or.inr (Or.inl ⟨by omega, zKg_e hI96_0 (by omega) (by omega) rfl T V x hm hb hv⟩)))) | exact zPr_y hX25_1 (by omega) (fun T V x hm hb hv => Or.inr (Or.inr (Or.inr (Or.inr ⟨by omega, zAh_V hm.1 hX139_0 (by omega) hv⟩)))) | exact zPr_0 (by omega) (by omega) (by omega) hX25_1 (by omega) (by decide) | exact zPr_n (by omega) (by decide)⟩
        have hP9 : va_P (dC, dI) vwCl [(h0, .inr (13, mX13 q0 (upd (upd (upd (upd v0 20 (v0 20)) 21 0) 23 (v0 23)) 24 (v0 24)))), ((q0 17), zi k14 12 f14), ((q0 19), zi k15 12 f15), ((q0 3), zi k3 400 f3), ((q0 2), zi k2 4800 f2), ((q0 7), zi k6 120 f6), ((q0 11), zi k10 120 f10), ((q0 5), zi k4 122880 f4), ((q0 12), zi k11 120 f11), ((q0 22), zi k16 40000 f16), ((q0 6), zi k5 120 f5)] H := hP
        have hD9 : va_D A [(h0, .inr (13, mX13 q0 (upd (upd (upd (upd v0 20 (v0 20)) 21 0) 23 (v0 23)) 24 (v0 24)))), ((q0 17), zi k14 12 f14), ((q0 19), zi k15 12 f15), ((q0 3), zi k3 400 f3), ((q0 2), zi k2 4800 f2), ((q0 7), zi k6 120 f6), ((q0 11), zi k10 120 f10), ((q0 5), zi k4 122880 f4), ((q0 12), zi k11 120 f11), ((q0 22), zi k16 40000 f16), ((q0 6), zi k5 120 f5)] := hD
        exact W.iret (v := (-1)) hx hb hr (fun t ht hW => ⟨⟨(-1), (fun i => ([(v0 20), 0, (v0 23), (v0 24)] : List (Int32)).getD i 0), rfl, hpost, (fun _ => 0), (fun i => ([f15, f16] : List (Nat → Int32)).getD i (fun _ => 0)), (fun _ => (fun _ => 0)), by rw [ht]; exact hP9, va_K.moved hW.alike hK, hD9⟩, hS.F ht⟩) hS.2.2 dX13_posting_23
set_option maxHeartbeats 8000000 in
set_option maxRecDepth 100000 in
theorem p12_sX13_hold_0 (l : Launch) (dC : Nat → ClassId) (dI : Nat → Nat → Nat) (adK adV : Nat → Nat) (h0 : Nat) (q0 : Nat → Nat) (k48 : ClassId) (k5 : ClassId) (k4 : ClassId) (k10 : ClassId) (k11 : ClassId) (k2 : ClassId) (k3 : ClassId) (k6 : ClassId) (k20 : ClassId) (sz : Nat) (v0 : Nat → Int32) (f48 : Nat → Int32) (f5 : Nat → Int32) (f4 : Nat → Int32) (f10 : Nat → Int32) (f11 : Nat → Int32) (f2 : Nat → Int32) (f3 : Nat → Int32) (f6 : Nat → Int32) (f20 : Nat → Int32) (hv0 : zR rg_Model v0) (hf4 : zA 0 400 f4) (hf10 : zA 0 512 f10) (hf11 : zA 0 512 f11) (hf3 : zA 0 12 f3) : Met l yX13_hold (zw yX13_hold cX13_hold 3 none) { frames := 1, cells := 0, slots := 0, locals := 23 } (zPc dC dI adK adV [.ref h0] sz [(h0, .inr (13, mX13 q0 v0)), ((q0 73), zi k48 400 f48), ((q0 6), zi k5 120 f5), ((q0 5), zi k4 122880 f4), ((q0 11), zi k10 120 f10), ((q0 12), zi k11 120 f11), ((q0 2), zi k2 4800 f2), ((q0 3), zi k3 400 f3), ((q0 7), zi k6 120 f6), ((q0 28), zi k20 400 f20)] [(k48, .int), (k5, .boolean), (k4, .short), (k10, .int), (k11, .int), (k2, .byte), (k3, .int), (k6, .boolean), (k20, .int)]) (va_Qv (fun (u : Nat → Int32) => True) (fun (u : Nat → Int32) (t : State) => ∃ (ww : Nat → Int64) (aa : Nat → Nat → Int32) (bb : Nat → Nat → Int64), (zHo (aa 0) f5 f4 f10 f11 (v0 4).toInt (v0 13).toInt) ∧ (zHx (aa 0) f5 f2 f3 (v0 4).toInt f4 f6 f10 f11 (v0 13).toInt (v0 13).toInt) ∧ va_P (dC, dI) vwCl [(h0, .inr (13, mX13 q0 v0)), ((q0 73), zi k48 400 (aa 0)), ((q0 6), zi k5 120 f5), ((q0 5), zi k4 122880 f4), ((q0 11), zi k10 120 f10), ((q0 12), zi k11 120 f11), ((q0 2), zi k2 4800 f2), ((q0 3), zi k3 400 f3), ((q0 7), zi k6 120 f6), ((q0 28), zi k20 400 (aa 1))] t.heap ∧ va_K (dC, dI) vwCl [(k48, .int), (k5, .boolean), (k4, .short), (k10, .int), (k11, .int), (k2, .byte), (k3, .int), (k6, .boolean), (k20, .int)] t ∧ va_D (va_A [(h0, .inr (13, mX13 q0 v0)), ((q0 73), zi k48 400 f48), ((q0 6), zi k5 120 f5), ((q0 5), zi k4 122880 f4), ((q0 11), zi k10 120 f10), ((q0 12), zi k11 120 f11), ((q0 2), zi k2 4800 f2), ((q0 3), zi k3 400 f3), ((q0 7), zi k6 120 f6), ((q0 28), zi k20 400 f20)] sz) [(h0, .inr (13, mX13 q0 v0)), ((q0 73), zi k48 400 (aa 0)), ((q0 6), zi k5 120 f5), ((q0 5), zi k4 122880 f4), ((q0 11), zi k10 120 f10), ((q0 12), zi k11 120 f11), ((q0 2), zi k2 4800 f2), ((q0 3), zi k3 400 f3), ((q0 7), zi k6 120 f6), ((q0 28), zi k20 400 (aa 1))]) (va_A [(h0, .inr (13, mX13 q0 v0)), ((q0 73), zi k48 400 f48), ((q0 6), zi k5 120 f5), ((q0 5), zi k4 122880 f4), ((q0 11), zi k10 120 f10), ((q0 12), zi k11 120 f11), ((q0 2), zi k2 4800 f2), ((q0 3), zi k3 400 f3), ((q0 7), zi k6 120 f6), ((q0 28), zi k20 400 f20)] sz)) 0 0 (va_A [(h0, .inr (13, mX13 q0 v0)), ((q0 73), zi k48 400 f48), ((q0 6), zi k5 120 f5), ((q0 5), zi k4 122880 f4), ((q0 11), zi k10 120 f10), ((q0 12), zi k11 120 f11), ((q0 2), zi k2 4800 f2), ((q0 3), zi k3 400 f3), ((q0 7), zi k6 120 f6), ((q0 28), zi k20 400 f20)] sz) := by
  sorry
set_option maxHeartbeats 8000000 in
set_option maxRecDepth 100000 in
theorem p12_sX13_distance_0 (l : Launch) (dC : Nat → ClassId) (dI : Nat → Nat → Nat) (adK adV : Nat → Nat) (h0 : Nat) (q0 : Nat → Nat) (k3 : ClassId) (k47 : ClassId) (k15 : ClassId) (k2 : ClassId) (sz : Nat) (v0 : Nat → Int32) (f3 : Nat → Int32) (f47 : Nat → Int32) (f15 : Nat → Int32) (f2 : Nat → Int32) (x1 : Int32) (hv0 : zR rg_Model v0) (hf3 : zA 0 12 f3) (hx1 : 0 ≤ x1.toInt ∧ x1.toInt ≤ 399) : Met l yX13_distance (zw yX13_distance cX13_distance 6 (some .int)) { frames := 1, cells := 0, slots := 0, locals := 40 } (zPc dC dI adK adV [.ref h0, .int x1] sz [(h0, .inr (13, mX13 q0 v0)), ((q0 3), zi k3 400 f3), ((q0 72), zi k47 13 f47), ((q0 19), zi k15 12 f15), ((q0 2), zi k2 4800 f2)] [(k3, .int), (k47, .int), (k15, .byte), (k2, .byte)]) (va_Qi (fun (r : Int32) (u : Nat → Int32) => (0 ≤ r.toInt) ∧ (r.toInt = zxq f15 (v0 20).toInt f2 f3 (x1.toInt).toNat)) (fun (u : Nat → Int32) (t : State) => ∃ (ww : Nat → Int64) (aa : Nat → Nat → Int32) (bb : Nat → Nat → Int64), va_P (dC, dI) vwCl [(h0, .inr (13, mX13 q0 v0)), ((q0 3), zi k3 400 f3), ((q0 72), zi k47 13 (aa 0)), ((q0 19), zi k15 12 f15), ((q0 2), zi k2 4800 f2)] t.heap ∧ va_K (dC, dI) vwCl [(k3, .int), (k47, .int), (k15, .byte), (k2, .byte)] t ∧ va_D (va_A [(h0, .inr (13, mX13 q0 v0)), ((q0 3), zi k3 400 f3), ((q0 72), zi k47 13 f47), ((q0 19), zi k15 12 f15), ((q0 2), zi k2 4800 f2)] sz) [(h0, .inr (13, mX13 q0 v0)), ((q0 3), zi k3 400 f3), ((q0 72), zi k47 13 (aa 0)), ((q0 19), zi k15 12 f15), ((q0 2), zi k2 4800 f2)]) (va_A [(h0, .inr (13, mX13 q0 v0)), ((q0 3), zi k3 400 f3), ((q0 72), zi k47 13 f47), ((q0 19), zi k15 12 f15), ((q0 2), zi k2 4800 f2)] sz)) 0 0 (va_A [(h0, .inr (13, mX13 q0 v0)), ((q0 3), zi k3 400 f3), ((q0 72), zi k47 13 f47), ((q0 19), zi k15 12 f15), ((q0 2), zi k2 4800 f2)] sz) := by
  sorry
set_option maxHeartbeats 8000000 in
set_option maxRecDepth 100000 in
theorem p12_sX13_lookAt_0 (l : Launch) (dC : Nat → ClassId) (dI : Nat → Nat → Nat) (adK adV : Nat → Nat) (h0 : Nat) (q0 : Nat → Nat) (k15 : ClassId) (k14 : ClassId) (sz : Nat) (v0 : Nat → Int32) (f15 : Nat → Int32) (f14 : Nat → Int32) (hv0 : zR rg_Model v0) : Met l yX13_lookAt (zw yX13_lookAt cX13_lookAt 2 none) { frames := 0, cells := 0, slots := 0, locals := 0 } (zPc dC dI adK adV [.ref h0] sz [(h0, .inr (13, mX13 q0 v0)), ((q0 19), zi k15 12 f15), ((q0 17), zi k14 12 f14)] [(k15, .byte), (k14, .byte)]) (va_Qv (fun (u : Nat → Int32) => (0 ≤ (u 0).toInt ∧ (u 0).toInt ≤ 12) ∧ ((u 0).toInt = (v0 20).toInt)) (fun (u : Nat → Int32) (t : State) => ∃ (ww : Nat → Int64) (aa : Nat → Nat → Int32) (bb : Nat → Nat → Int64), (zCy (aa 0) f15 0 (v0 20).toInt) ∧ va_P (dC, dI) vwCl [(h0, .inr (13, mX13 q0 (upd v0 18 (u 0)))), ((q0 19), zi k15 12 f15), ((q0 17), zi k14 12 (aa 0))] t.heap ∧ va_K (dC, dI) vwCl [(k15, .byte), (k14, .byte)] t ∧ va_D (va_A [(h0, .inr (13, mX13 q0 v0)), ((q0 19), zi k15 12 f15), ((q0 17), zi k14 12 f14)] sz) [(h0, .inr (13, mX13 q0 (upd v0 18 (u 0)))), ((q0 19), zi k15 12 f15), ((q0 17), zi k14 12 (aa 0))]) (va_A [(h0, .inr (13, mX13 q0 v0)), ((q0 19), zi k15 12 f15), ((q0 17), zi k14 12 f14)] sz)) 0 0 (va_A [(h0, .inr (13, mX13 q0 v0)), ((q0 19), zi k15 12 f15), ((q0 17), zi k14 12 f14)] sz) := by
  sorry
set_option maxHeartbeats 8000000 in
set_option maxRecDepth 100000 in
theorem p12_sX13_nearest_0 (l : Launch) (dC : Nat → ClassId) (dI : Nat → Nat → Nat) (adK adV : Nat → Nat) (h0 : Nat) (q0 : Nat → Nat) (k1 : ClassId) (k15 : ClassId) (k48 : ClassId) (k5 : ClassId) (k4 : ClassId) (k10 : ClassId) (k11 : ClassId) (k2 : ClassId) (k3 : ClassId) (k6 : ClassId) (k20 : ClassId) (k47 : ClassId) (k14 : ClassId) (sz : Nat) (v0 : Nat → Int32) (f1 : Nat → Int32) (f15 : Nat → Int32) (f48 : Nat → Int32) (f5 : Nat → Int32) (f4 : Nat → Int32) (f10 : Nat → Int32) (f11 : Nat → Int32) (f2 : Nat → Int32) (f3 : Nat → Int32) (f6 : Nat → Int32) (f20 : Nat → Int32) (f47 : Nat → Int32) (f14 : Nat → Int32) (hv0 : zR rg_Model v0) (hf4 : zA 0 400 f4) (hf10 : zA 0 512 f10) (hf11 : zA 0 512 f11) (hf3 : zA 0 12 f3) : Met l yX13_nearest (zw yX13_nearest cX13_nearest 5 (some .int)) { frames := 5, cells := 0, slots := 0, locals := 108 } (zPc dC dI adK adV [.ref h0] sz [(h0, .inr (13, mX13 q0 v0)), ((q0 0), zi k1 600 f1), ((q0 19), zi k15 12 f15), ((q0 73), zi k48 400 f48), ((q0 6), zi k5 120 f5), ((q0 5), zi k4 122880 f4), ((q0 11), zi k10 120 f10), ((q0 12), zi k11 120 f11), ((q0 2), zi k2 4800 f2), ((q0 3), zi k3 400 f3), ((q0 7), zi k6 120 f6), ((q0 28), zi k20 400 f20), ((q0 72), zi k47 13 f47), ((q0 17), zi k14 12 f14)] [(k1, .byte), (k15, .byte), (k48, .int), (k5, .boolean), (k4, .short), (k10, .int), (k11, .int), (k2, .byte), (k3, .int), (k6, .boolean), (k20, .int), (k47, .int), (k14, .byte)]) (va_Qi (fun (r : Int32) (u : Nat → Int32) => ((-2147483648) ≤ r.toInt ∧ r.toInt ≤ 3) ∧ (0 ≤ (u 0).toInt ∧ (u 0).toInt ≤ 0) ∧ ((-1) ≤ (u 1).toInt ∧ (u 1).toInt ≤ 12) ∧ (0 ≤ (u 2).toInt ∧ (u 2).toInt ≤ 12) ∧ (0 ≤ (u 3).toInt ∧ (u 3).toInt ≤ 0) ∧ (zxAr f1 (v0 1).toInt f2 f3 (v0 4).toInt r.toInt) ∧ (r.toInt = (u 4).toInt)) (fun (u : Nat → Int32) (t : State) => ∃ (ww : Nat → Int64) (aa : Nat → Nat → Int32) (bb : Nat → Nat → Int64), (zxAr2 f1 (v0 1).toInt f2 f3 (v0 4).toInt f4 f6 f10 f11 (v0 13).toInt f5 f14 (aa 4) (v0 18).toInt (u 1).toInt (u 4).toInt) ∧ va_P (dC, dI) vwCl [(h0, .inr (13, mX13 q0 (upd (upd (upd (upd v0 1 (u 0)) 18 (u 1)) 20 (u 2)) 21 (u 3)))), ((q0 0), zi k1 600 f1), ((q0 19), zi k15 12 (aa 0)), ((q0 73), zi k48 400 (aa 1)), ((q0 6), zi k5 120 f5), ((q0 5), zi k4 122880 f4), ((q0 11), zi k10 120 f10), ((q0 12), zi k11 120 f11), ((q0 2), zi k2 4800 f2), ((q0 3), zi k3 400 f3), ((q0 7), zi k6 120 f6), ((q0 28), zi k20 400 (aa 2)), ((q0 72), zi k47 13 (aa 3)), ((q0 17), zi k14 12 (aa 4))] t.heap ∧ va_K (dC, dI) vwCl [(k1, .byte), (k15, .byte), (k48, .int), (k5, .boolean), (k4, .short), (k10, .int), (k11, .int), (k2, .byte), (k3, .int), (k6, .boolean), (k20, .int), (k47, .int), (k14, .byte)] t ∧ va_D (va_A [(h0, .inr (13, mX13 q0 v0)), ((q0 0), zi k1 600 f1), ((q0 19), zi k15 12 f15), ((q0 73), zi k48 400 f48), ((q0 6), zi k5 120 f5), ((q0 5), zi k4 122880 f4), ((q0 11), zi k10 120 f10), ((q0 12), zi k11 120 f11), ((q0 2), zi k2 4800 f2), ((q0 3), zi k3 400 f3), ((q0 7), zi k6 120 f6), ((q0 28), zi k20 400 f20), ((q0 72), zi k47 13 f47), ((q0 17), zi k14 12 f14)] sz) [(h0, .inr (13, mX13 q0 (upd (upd (upd (upd v0 1 (u 0)) 18 (u 1)) 20 (u 2)) 21 (u 3)))), ((q0 0), zi k1 600 f1), ((q0 19), zi k15 12 (aa 0)), ((q0 73), zi k48 400 (aa 1)), ((q0 6), zi k5 120 f5), ((q0 5), zi k4 122880 f4), ((q0 11), zi k10 120 f10), ((q0 12), zi k11 120 f11), ((q0 2), zi k2 4800 f2), ((q0 3), zi k3 400 f3), ((q0 7), zi k6 120 f6), ((q0 28), zi k20 400 (aa 2)), ((q0 72), zi k47 13 (aa 3)), ((q0 17), zi k14 12 (aa 4))]) (va_A [(h0, .inr (13, mX13 q0 v0)), ((q0 0), zi k1 600 f1), ((q0 19), zi k15 12 f15), ((q0 73), zi k48 400 f48), ((q0 6), zi k5 120 f5), ((q0 5), zi k4 122880 f4), ((q0 11), zi k10 120 f10), ((q0 12), zi k11 120 f11), ((q0 2), zi k2 4800 f2), ((q0 3), zi k3 400 f3), ((q0 7), zi k6 120 f6), ((q0 28), zi k20 400 f20), ((q0 72), zi k47 13 f47), ((q0 17), zi k14 12 f14)] sz)) 0 0 (va_A [(h0, .inr (13, mX13 q0 v0)), ((q0 0), zi k1 600 f1), ((q0 19), zi k15 12 f15), ((q0 73), zi k48 400 f48), ((q0 6), zi k5 120 f5), ((q0 5), zi k4 122880 f4), ((q0 11), zi k10 120 f10), ((q0 12), zi k11 120 f11), ((q0 2), zi k2 4800 f2), ((q0 3), zi k3 400 f3), ((q0 7), zi k6 120 f6), ((q0 28), zi k20 400 f20), ((q0 72), zi k47 13 f47), ((q0 17), zi k14 12 f14)] sz) := by
  sorry
set_option maxHeartbeats 8000000 in
set_option maxRecDepth 100000 in
theorem p12_sX13_keepers_0 (l : Launch) (dC : Nat → ClassId) (dI : Nat → Nat → Nat) (adK adV : Nat → Nat) (h0 : Nat) (q0 : Nat → Nat) (k6 : ClassId) (k10 : ClassId) (k4 : ClassId) (k11 : ClassId) (k2 : ClassId) (k3 : ClassId) (sz : Nat) (v0 : Nat → Int32) (f6 : Nat → Int32) (f10 : Nat → Int32) (f4 : Nat → Int32) (f11 : Nat → Int32) (f2 : Nat → Int32) (f3 : Nat → Int32) (x1 : Int32) (hv0 : zR rg_Model v0) (hf10 : zA 0 512 f10) (hf4 : zA 0 400 f4) (hf11 : zA 0 512 f11) (hf3 : zA 0 12 f3) (hx1 : 0 ≤ x1.toInt ∧ x1.toInt ≤ 399) : Met l yX13_keepers (zw yX13_keepers cX13_keepers 4 (some .int)) { frames := 1, cells := 0, slots := 0, locals := 24 } (zPc dC dI adK adV [.ref h0, .int x1] sz [(h0, .inr (13, mX13 q0 v0)), ((q0 7), zi k6 120 f6), ((q0 11), zi k10 120 f10), ((q0 5), zi k4 122880 f4), ((q0 12), zi k11 120 f11), ((q0 2), zi k2 4800 f2), ((q0 3), zi k3 400 f3)] [(k6, .boolean), (k10, .int), (k4, .short), (k11, .int), (k2, .byte), (k3, .int)]) (va_Qi (fun (r : Int32) (u : Nat → Int32) => (0 ≤ r.toInt ∧ r.toInt ≤ 120) ∧ (zKq f2 f3 (v0 4).toInt f4 f6 f10 f11 (v0 13).toInt x1.toInt (v0 13).toInt r.toInt)) (fun (u : Nat → Int32) (t : State) => ∃ (ww : Nat → Int64) (aa : Nat → Nat → Int32) (bb : Nat → Nat → Int64), va_P (dC, dI) vwCl [(h0, .inr (13, mX13 q0 v0)), ((q0 7), zi k6 120 f6), ((q0 11), zi k10 120 f10), ((q0 5), zi k4 122880 f4), ((q0 12), zi k11 120 f11), ((q0 2), zi k2 4800 f2), ((q0 3), zi k3 400 f3)] t.heap ∧ va_K (dC, dI) vwCl [(k6, .boolean), (k10, .int), (k4, .short), (k11, .int), (k2, .byte), (k3, .int)] t ∧ va_D (va_A [(h0, .inr (13, mX13 q0 v0)), ((q0 7), zi k6 120 f6), ((q0 11), zi k10 120 f10), ((q0 5), zi k4 122880 f4), ((q0 12), zi k11 120 f11), ((q0 2), zi k2 4800 f2), ((q0 3), zi k3 400 f3)] sz) [(h0, .inr (13, mX13 q0 v0)), ((q0 7), zi k6 120 f6), ((q0 11), zi k10 120 f10), ((q0 5), zi k4 122880 f4), ((q0 12), zi k11 120 f11), ((q0 2), zi k2 4800 f2), ((q0 3), zi k3 400 f3)]) (va_A [(h0, .inr (13, mX13 q0 v0)), ((q0 7), zi k6 120 f6), ((q0 11), zi k10 120 f10), ((q0 5), zi k4 122880 f4), ((q0 12), zi k11 120 f11), ((q0 2), zi k2 4800 f2), ((q0 3), zi k3 400 f3)] sz)) 0 0 (va_A [(h0, .inr (13, mX13 q0 v0)), ((q0 7), zi k6 120 f6), ((q0 11), zi k10 120 f10), ((q0 5), zi k4 122880 f4), ((q0 12), zi k11 120 f11), ((q0 2), zi k2 4800 f2), ((q0 3), zi k3 400 f3)] sz) := by
  refine Met.ofW (cc := cX13_keepers) (maxL := 4) (ret := (some .int)) (by decide) rfl ?_
  intro p e s m args below meth c s₁ B hml hv
  obtain ⟨rfl, hsz, hP, hK, hD0, hE, hZ⟩ := hv
  have hx := B.exec
  have hb := B.bytes
  have hr := B.returns
  have hG : ∀ w ∈ zG, w.before _ s = true := fun w h => atoms_spec (ws := (zw yX13_keepers cX13_keepers 4 (some .int))) B.pre w (List.mem_cons_of_mem _ h)
  have hown : s.vm.findClass RX13 = some m.cls := findClass_of_methodNamed B.named
  have hlocks := B.notSynchronized

  subst hsz
  have hD := hD0.self (sz := s.heap.size)
  generalize hAe : va_A [(h0, .inr (13, mX13 q0 v0)), ((q0 7), zi k6 120 f6), ((q0 11), zi k10 120 f10), ((q0 5), zi k4 122880 f4), ((q0 12), zi k11 120 f11), ((q0 2), zi k2 4800 f2), ((q0 3), zi k3 400 f3)] s.heap.size = A at hD hZ ⊢
  have hA : ∀ q : Nat, s.heap.size ≤ q → A q := fun q h => by rw [← hAe]; exact Or.inr h
  have hS : va_S A s.heap s.heap [] := va_S.rf
  have hl := lv_entry ([.ref h0, .int x1]) (n := 4) (Nat.le_of_ble_eq_true rfl)
  rw [lg_entry_eq]
  generalize (lg_sl ([.ref h0, .int x1]) ++ List.replicate (4 - (lg_sl ([.ref h0, .int x1])).length) Slot.unset).toArray = ls at hl ⊢
  have hl : lv_has ls 4 [(0, .ref h0), (1, .int x1)] := hl
  have b_ := zk_0
  have b_ : 0 ≤ (v0 4).toInt ∧ (v0 4).toInt ≤ 400 := hv0 4
  have b_ : 0 ≤ (v0 13).toInt ∧ (v0 13).toInt ≤ 120 := hv0 13
  refine lv_iconst (v := 0) hx hb dX13_keepers_0 (by decide) ?_
  refine lv_istore_n (lv' := [(2, .int 0), (0, .ref h0), (1, .int x1)]) hx hb dX13_keepers_1 rfl hl (by decide) rfl (fun ls hl => ?_)
  refine lv_iconst (v := 0) hx hb dX13_keepers_2 (by decide) ?_
  refine lv_istore_n (lv' := [(3, .int 0), (2, .int 0), (0, .ref h0), (1, .int x1)]) hx hb dX13_keepers_3 rfl hl (by decide) rfl (fun ls hl => ?_)
  refine zcutL (fun u4_ => (120 - (u4_ 1).toInt).toNat) (fun H locs ls u4_ w4_ a4_ b4_ => va_P (dC, dI) vwCl [(h0, .inr (13, mX13 q0 v0)), ((q0 7), zi k6 120 f6), ((q0 11), zi k10 120 f10), ((q0 5), zi k4 122880 f4), ((q0 12), zi k11 120 f11), ((q0 2), zi k2 4800 f2), ((q0 3), zi k3 400 f3)] H ∧ va_D A [(h0, .inr (13, mX13 q0 v0)), ((q0 7), zi k6 120 f6), ((q0 11), zi k10 120 f10), ((q0 5), zi k4 122880 f4), ((q0 12), zi k11 120 f11), ((q0 2), zi k2 4800 f2), ((q0 3), zi k3 400 f3)] ∧ va_S A s.heap H locs ∧ lv_has ls 4 [(0, .ref h0), (1, .int x1), (2, .int (u4_ 0)), (3, .int (u4_ 1))] ∧ (0 ≤ (u4_ 0).toInt ∧ (u4_ 0).toInt ≤ 120) ∧ (0 ≤ (u4_ 1).toInt ∧ (u4_ 1).toInt ≤ 120) ∧ (zKq f2 f3 (v0 4).toInt f4 f6 f10 f11 (v0 13).toInt x1.toInt (u4_ 1).toInt (u4_ 0).toInt) ∧ ((u4_ 1).toInt ≤ (v0 13).toInt) ∧ ((u4_ 0).toInt ≤ (u4_ 1).toInt) ∧ (0 ≤ (u4_ 0).toInt)) (fun ls u4_ w4_ => F0 m 4 ls []) 0 0 ?_ (fun hJ4 => ?_)
  · skip
    intro H locs ls u4_ w4_ a4_ b4_ hc hJ4
    obtain ⟨hP, hD, hS, hl, b_, b_, hI4_0, b_, b_, b_⟩ := hc
    refine lv_iload_n hx hb dX13_keepers_4 rfl (lv_at hl 3 rfl) ?_
    refine lv_aload_n hx hb dX13_keepers_5 rfl (lv_at hl 0 rfl) ?_
    refine va_get (D := (dC, dI)) (ci := 13) (v := .int (v0 13)) (C := RX13) (T := TX13) (N := 75) hx hb hG zuX13 hown hK hP 0 rfl rfl 13 (by decide) (hG _ zv1617) (fun _ h9 => h9) rfl dX13_keepers_6 ?_
    refine lv_icmp_ge (tgt := 44) hx hb dX13_keepers_9 (by decide) (fun c_ => ?_) (fun c_ => ?_)
    · skip
      have b_ := zT_ge rfl rfl c_
      refine lv_iload_n hx hb dX13_keepers_44 rfl (lv_at hl 2 rfl) ?_
      refine W.widen (k := 0) (n := 0) (by decide) (by decide) ?_
      have hpost : (0 ≤ (u4_ 0).toInt ∧ (u4_ 0).toInt ≤ 120) ∧ (zKq f2 f3 (v0 4).toInt f4 f6 f10 f11 (v0 13).toInt x1.toInt (v0 13).toInt (u4_ 0).toInt) := ⟨(by first | with_reducible assumption | exact ⟨by omega, by omega⟩), by exact zKq_e hI4_0 (by omega) (by omega) rfl⟩
      have hP9 : va_P (dC, dI) vwCl [(h0, .inr (13, mX13 q0 v0)), ((q0 7), zi k6 120 f6), ((q0 11), zi k10 120 f10), ((q0 5), zi k4 122880 f4), ((q0 12), zi k11 120 f11), ((q0 2), zi k2 4800 f2), ((q0 3), zi k3 400 f3)] H := hP
      have hD9 : va_D A [(h0, .inr (13, mX13 q0 v0)), ((q0 7), zi k6 120 f6), ((q0 11), zi k10 120 f10), ((q0 5), zi k4 122880 f4), ((q0 12), zi k11 120 f11), ((q0 2), zi k2 4800 f2), ((q0 3), zi k3 400 f3)] := hD
      exact W.iret (v := (u4_ 0)) hx hb hr (fun t ht hW => ⟨⟨(u4_ 0), (fun _ => 0), rfl, hpost, (fun _ => 0), (fun _ => (fun _ => 0)), (fun _ => (fun _ => 0)), by rw [ht]; exact hP9, va_K.moved hW.alike hK, hD9⟩, hS.F ht⟩) hS.2.2 dX13_keepers_45
    · skip
      have b_ := zF_ge rfl rfl c_
      refine lv_iload_n hx hb dX13_keepers_12 rfl (lv_at hl 2 rfl) ?_
      refine lv_aload_n hx hb dX13_keepers_13 rfl (lv_at hl 0 rfl) ?_
      refine va_get (D := (dC, dI)) (ci := 13) (v := .ref (q0 7)) (C := RX13) (T := TX13) (N := 75) hx hb hG zuX13 hown hK hP 0 rfl rfl 7 (by decide) (hG _ zv1611) (fun _ h9 => h9) rfl dX13_keepers_14 ?_
      refine lv_iload_n hx hb dX13_keepers_17 rfl (lv_at hl 3 rfl) ?_
      refine va_zald hx hb hK hP 1 0 rfl rfl (zin_lit ⟨by omega, by omega⟩) dX13_keepers_18 ?_
      refine lv_topi (fun z18 e_z18 => ?_)
      have b_ : -2147483648 ≤ z18.toInt ∧ z18.toInt ≤ 2147483647 := ⟨zlo _, zhi _⟩
      refine lv_if_eq (tgt := 35) hx hb dX13_keepers_19 (by decide) (fun c_ => ?_) (fun c_ => ?_)
      · skip
        have b_ := zT_eq rfl zk_0 c_
        refine lv_iconst (v := 0) hx hb dX13_keepers_35 (by decide) ?_
        refine lv_iadd hx hb dX13_keepers_36 ?_
        refine lv_topi (fun z36 e_z36 => ?_)
        have b_ := zadd rfl zk_0 e_z36 (by omega) (by omega)
        refine lv_istore_n (lv' := [(2, .int z36), (0, .ref h0), (1, .int x1), (3, .int (u4_ 1))]) hx hb dX13_keepers_37 rfl hl (by decide) rfl (fun ls hl => ?_)
        obtain ⟨z38, e_z38⟩ : ∃ z : Int32, z = (u4_ 1) + Int32.ofInt 1 := ⟨_, rfl⟩
        have b_ := zadd (x := (u4_ 1)) (y := Int32.ofInt 1) rfl (show (Int32.ofInt 1).toInt = 1 from by decide) e_z38 (by omega) (by omega)
        refine lv_iinc (v := z38) (lv' := [(3, .int z38), (2, .int z36), (0, .ref h0), (1, .int x1)]) hx hb dX13_keepers_38 hl (k := 3) rfl e_z38.symm (by decide) rfl (fun ls hl => ?_)
        have hkq : zKq f2 f3 (v0 4).toInt f4 f6 f10 f11 (v0 13).toInt x1.toInt z38.toInt z36.toInt := zKq_k hI4_0 (by omega) (by omega) (by rw [← e_z18]; omega) (by omega) (by omega)
        refine lv_goto (tgt := 4) hx hb dX13_keepers_41 (by decide) ?_
        have hc : va_P (dC, dI) vwCl [(h0, .inr (13, mX13 q0 v0)), ((q0 7), zi k6 120 f6), ((q0 11), zi k10 120 f10), ((q0 5), zi k4 122880 f4), ((q0 12), zi k11 120 f11), ((q0 2), zi k2 4800 f2), ((q0 3), zi k3 400 f3)] H ∧ va_D A [(h0, .inr (13, mX13 q0 v0)), ((q0 7), zi k6 120 f6), ((q0 11), zi k10 120 f10), ((q0 5), zi k4 122880 f4), ((q0 12), zi k11 120 f11), ((q0 2), zi k2 4800 f2), ((q0 3), zi k3 400 f3)] ∧ va_S A s.heap H locs ∧ lv_has ls 4 [(0, .ref h0), (1, .int x1), (2, .int z36), (3, .int z38)] ∧ (0 ≤ z36.toInt ∧ z36.toInt ≤ 120) ∧ (0 ≤ z38.toInt ∧ z38.toInt ≤ 120) ∧ (zKq f2 f3 (v0 4).toInt f4 f6 f10 f11 (v0 13).toInt x1.toInt z38.toInt z36.toInt) ∧ (z38.toInt ≤ (v0 13).toInt) ∧ (z36.toInt ≤ z38.toInt) ∧ (0 ≤ z36.toInt) := ⟨hP, hD, hS, lv_sub hl [2, 3, 1, 0] rfl, (by first | with_reducible assumption | exact ⟨by omega, by omega⟩), (by first | with_reducible assumption | exact ⟨by omega, by omega⟩), by first | exact hkq | exact zKq_0 (by decide) (by decide), by omega, by omega, by omega⟩
        exact hJ4 H locs ls (fun i => ([z36, z38] : List (Int32)).getD i 0) (fun _ => 0) (fun _ => (fun _ => 0)) (fun _ => (fun _ => 0)) hc (show (120 - z38.toInt).toNat < (120 - (u4_ 1).toInt).toNat from by omega)
      · skip
        have b_ := zF_eq rfl zk_0 c_
        refine lv_aload_n hx hb dX13_keepers_22 rfl (lv_at hl 0 rfl) ?_
        refine lv_iload_n hx hb dX13_keepers_23 rfl (lv_at hl 3 rfl) ?_
        refine lv_iload_n hx hb dX13_keepers_24 rfl (lv_at hl 1 rfl) ?_
        have hPc := hP.sub (ws' := [(h0, .inr (13, mX13 q0 v0)), ((q0 11), zi k10 120 f10), ((q0 5), zi k4 122880 f4), ((q0 12), zi k11 120 f11)]) [0, 2, 3, 4] rfl
        have hDc := hD.sub (ws' := [(h0, .inr (13, mX13 q0 v0)), ((q0 11), zi k10 120 f10), ((q0 5), zi k4 122880 f4), ((q0 12), zi k11 120 f11)]) [0, 2, 3, 4] (by decide) rfl
        have hKc := hK.sub (tys' := [(k10, .int), (k4, .short), (k11, .int)]) [1, 2, 3] rfl
        have hFc := va_free (wc := [(h0, .inr (13, mX13 q0 v0)), ((q0 11), zi k10 120 f10), ((q0 5), zi k4 122880 f4), ((q0 12), zi k11 120 f11)]) hD hS hA [0, 2, 3, 4] rfl
        refine va_calli (va_runV (As := [.int (u4_ 1), .int x1]) (rest := [.int (u4_ 0)]) ⟨hx, hb, hml, hown, hG⟩ (p12_sX13_timesOf_0 l dC dI adK adV h0 q0 k10 k4 k11 H.size v0 f10 f4 f11 (u4_ 1) x1 hv0 hf10 hf4 hf11 (show (0 : Int) ≤ ((u4_ 1) : Int32).toInt ∧ ((u4_ 1) : Int32).toInt ≤ (119 : Int) from (by first | with_reducible assumption | exact ⟨by omega, by omega⟩)) (show (0 : Int) ≤ (x1 : Int32).toInt ∧ (x1 : Int32).toInt ≤ (399 : Int) from (by first | with_reducible assumption | exact ⟨by omega, by omega⟩))) (cwV 2 hG (zgV zv1975 zv1977 zv71 zv142 zv1978) rfl rfl rfl (by decide +kernel) ⟨Nat.le_of_ble_eq_true rfl, Nat.le_of_ble_eq_true rfl⟩) ⟨zPc_blind, va_recv hKc hPc (ci := 13) (q0 := 0) rfl rfl, zPc_pre hPc hKc hDc hE hS hFc hZ⟩ rfl rfl hl.1 rfl (lv_room (Nat.le_of_ble_eq_true rfl)) dX13_keepers_25 ⟨Nat.le_of_ble_eq_true rfl, Nat.le_of_ble_eq_true rfl⟩) hS (fun q _ h => hFc q h) hFc (fun r25_ u25_ t H1 locs ht hvm hw hB hz1 hk1 hS => ?_)
        replace hw : (0 ≤ r25_.toInt ∧ r25_.toInt ≤ 1024) ∧ (r25_.toInt ≤ (zp f4 (u4_ 1).toInt x1.toInt 1024).1) ∧ (zTf f4 f10 f11 ((u4_ 1) : Int32) x1.toInt r25_.toInt) := hw
        obtain ⟨b_, hX25_0, hX25_1⟩ := hw
        obtain ⟨w25_, a25_, b25_, hP1, hK1, hD1⟩ := hB
        rw [ht] at hP1
        obtain ⟨hP, hD⟩ := va_join (wr := [((q0 7), zi k6 120 f6), ((q0 2), zi k2 4800 f2), ((q0 3), zi k3 400 f3)]) (w1 := [(h0, .inr (13, mX13 q0 v0)), ((q0 11), zi k10 120 f10), ((q0 5), zi k4 122880 f4), ((q0 12), zi k11 120 f11)]) hP hD [0, 2, 3, 4] [1, 5, 6] rfl rfl (by decide) (by decide) hk1 hFc hP1 hD1
        have hP : va_P (dC, dI) vwCl [(h0, .inr (13, mX13 q0 v0)), ((q0 7), zi k6 120 f6), ((q0 11), zi k10 120 f10), ((q0 5), zi k4 122880 f4), ((q0 12), zi k11 120 f11), ((q0 2), zi k2 4800 f2), ((q0 3), zi k3 400 f3)] H1 := hP.sub [3, 0, 4, 5, 6, 1, 2] rfl
        have hD : va_D A [(h0, .inr (13, mX13 q0 v0)), ((q0 7), zi k6 120 f6), ((q0 11), zi k10 120 f10), ((q0 5), zi k4 122880 f4), ((q0 12), zi k11 120 f11), ((q0 2), zi k2 4800 f2), ((q0 3), zi k3 400 f3)] := hD.sub [3, 0, 4, 5, 6, 1, 2] (by decide) rfl
        generalize H1 = H at hP hS ⊢
        clear hz1
        refine lv_if_le (tgt := 35) hx hb dX13_keepers_28 (by decide) (fun c_ => ?_) (fun c_ => ?_)
        · skip
          have b_ := zT_le rfl zk_0 c_
          refine lv_iconst (v := 0) hx hb dX13_keepers_35 (by decide) ?_
          refine lv_iadd hx hb dX13_keepers_36 ?_
          refine lv_topi (fun z36 e_z36 => ?_)
          have b_ := zadd rfl zk_0 e_z36 (by omega) (by omega)
          refine lv_istore_n (lv' := [(2, .int z36), (0, .ref h0), (1, .int x1), (3, .int (u4_ 1))]) hx hb dX13_keepers_37 rfl hl (by decide) rfl (fun ls hl => ?_)
          obtain ⟨z38, e_z38⟩ : ∃ z : Int32, z = (u4_ 1) + Int32.ofInt 1 := ⟨_, rfl⟩
          have b_ := zadd (x := (u4_ 1)) (y := Int32.ofInt 1) rfl (show (Int32.ofInt 1).toInt = 1 from by decide) e_z38 (by omega) (by omega)
          refine lv_iinc (v := z38) (lv' := [(3, .int z38), (2, .int z36), (0, .ref h0), (1, .int x1)]) hx hb dX13_keepers_38 hl (k := 3) rfl e_z38.symm (by decide) rfl (fun ls hl => ?_)
          have hkq : zKq f2 f3 (v0 4).toInt f4 f6 f10 f11 (v0 13).toInt x1.toInt z38.toInt z36.toInt := zKq_t hI4_0 (by omega) (by omega) (by omega) hX25_1 (by omega) (by omega)
          refine lv_goto (tgt := 4) hx hb dX13_keepers_41 (by decide) ?_
          have hc : va_P (dC, dI) vwCl [(h0, .inr (13, mX13 q0 v0)), ((q0 7), zi k6 120 f6), ((q0 11), zi k10 120 f10), ((q0 5), zi k4 122880 f4), ((q0 12), zi k11 120 f11), ((q0 2), zi k2 4800 f2), ((q0 3), zi k3 400 f3)] H ∧ va_D A [(h0, .inr (13, mX13 q0 v0)), ((q0 7), zi k6 120 f6), ((q0 11), zi k10 120 f10), ((q0 5), zi k4 122880 f4), ((q0 12), zi k11 120 f11), ((q0 2), zi k2 4800 f2), ((q0 3), zi k3 400 f3)] ∧ va_S A s.heap H locs ∧ lv_has ls 4 [(0, .ref h0), (1, .int x1), (2, .int z36), (3, .int z38)] ∧ (0 ≤ z36.toInt ∧ z36.toInt ≤ 120) ∧ (0 ≤ z38.toInt ∧ z38.toInt ≤ 120) ∧ (zKq f2 f3 (v0 4).toInt f4 f6 f10 f11 (v0 13).toInt x1.toInt z38.toInt z36.toInt) ∧ (z38.toInt ≤ (v0 13).toInt) ∧ (z36.toInt ≤ z38.toInt) ∧ (0 ≤ z36.toInt) := ⟨hP, hD, hS, lv_sub hl [2, 3, 1, 0] rfl, (by first | with_reducible assumption | exact ⟨by omega, by omega⟩), (by first | with_reducible assumption | exact ⟨by omega, by omega⟩), by first | exact hkq | exact zKq_0 (by decide) (by decide), by omega, by omega, by omega⟩
          exact hJ4 H locs ls (fun i => ([z36, z38] : List (Int32)).getD i 0) (fun _ => 0) (fun _ => (fun _ => 0)) (fun _ => (fun _ => 0)) hc (show (120 - z38.toInt).toNat < (120 - (u4_ 1).toInt).toNat from by omega)
        · skip
          have b_ := zF_le rfl zk_0 c_
          refine lv_iconst (v := 1) hx hb dX13_keepers_31 (by decide) ?_
          refine lv_goto (tgt := 36) hx hb dX13_keepers_32 (by decide) ?_
          refine lv_iadd hx hb dX13_keepers_36 ?_
          refine lv_topi (fun z36 e_z36 => ?_)
          have b_ := zadd rfl zk_1 e_z36 (by omega) (by omega)
          refine lv_istore_n (lv' := [(2, .int z36), (0, .ref h0), (1, .int x1), (3, .int (u4_ 1))]) hx hb dX13_keepers_37 rfl hl (by decide) rfl (fun ls hl => ?_)
          obtain ⟨z38, e_z38⟩ : ∃ z : Int32, z = (u4_ 1) + Int32.ofInt 1 := ⟨_, rfl⟩
          have b_ := zadd (x := (u4_ 1)) (y := Int32.ofInt 1) rfl (show (Int32.ofInt 1).toInt = 1 from by decide) e_z38 (by omega) (by omega)
          refine lv_iinc (v := z38) (lv' := [(3, .int z38), (2, .int z36), (0, .ref h0), (1, .int x1)]) hx hb dX13_keepers_38 hl (k := 3) rfl e_z38.symm (by decide) rfl (fun ls hl => ?_)
          have hkq : zKq f2 f3 (v0 4).toInt f4 f6 f10 f11 (v0 13).toInt x1.toInt z38.toInt z36.toInt := zKq_t hI4_0 (by omega) (by omega) (by omega) hX25_1 (by omega) (by omega)
          refine lv_goto (tgt := 4) hx hb dX13_keepers_41 (by decide) ?_
          have hc : va_P (dC, dI) vwCl [(h0, .inr (13, mX13 q0 v0)), ((q0 7), zi k6 120 f6), ((q0 11), zi k10 120 f10), ((q0 5), zi k4 122880 f4), ((q0 12), zi k11 120 f11), ((q0 2), zi k2 4800 f2), ((q0 3), zi k3 400 f3)] H ∧ va_D A [(h0, .inr (13, mX13 q0 v0)), ((q0 7), zi k6 120 f6), ((q0 11), zi k10 120 f10), ((q0 5), zi k4 122880 f4), ((q0 12), zi k11 120 f11), ((q0 2), zi k2 4800 f2), ((q0 3), zi k3 400 f3)] ∧ va_S A s.heap H locs ∧ lv_has ls 4 [(0, .ref h0), (1, .int x1), (2, .int z36), (3, .int z38)] ∧ (0 ≤ z36.toInt ∧ z36.toInt ≤ 120) ∧ (0 ≤ z38.toInt ∧ z38.toInt ≤ 120) ∧ (zKq f2 f3 (v0 4).toInt f4 f6 f10 f11 (v0 13).toInt x1.toInt z38.toInt z36.toInt) ∧ (z38.toInt ≤ (v0 13).toInt) ∧ (z36.toInt ≤ z38.toInt) ∧ (0 ≤ z36.toInt) := ⟨hP, hD, hS, lv_sub hl [2, 3, 1, 0] rfl, (by first | with_reducible assumption | exact ⟨by omega, by omega⟩), (by first | with_reducible assumption | exact ⟨by omega, by omega⟩), by first | exact hkq | exact zKq_0 (by decide) (by decide), by omega, by omega, by omega⟩
          exact hJ4 H locs ls (fun i => ([z36, z38] : List (Int32)).getD i 0) (fun _ => 0) (fun _ => (fun _ => 0)) (fun _ => (fun _ => 0)) hc (show (120 - z38.toInt).toNat < (120 - (u4_ 1).toInt).toNat from by omega)
  · skip
    have hc : va_P (dC, dI) vwCl [(h0, .inr (13, mX13 q0 v0)), ((q0 7), zi k6 120 f6), ((q0 11), zi k10 120 f10), ((q0 5), zi k4 122880 f4), ((q0 12), zi k11 120 f11), ((q0 2), zi k2 4800 f2), ((q0 3), zi k3 400 f3)] s.heap ∧ va_D A [(h0, .inr (13, mX13 q0 v0)), ((q0 7), zi k6 120 f6), ((q0 11), zi k10 120 f10), ((q0 5), zi k4 122880 f4), ((q0 12), zi k11 120 f11), ((q0 2), zi k2 4800 f2), ((q0 3), zi k3 400 f3)] ∧ va_S A s.heap s.heap [] ∧ lv_has ls 4 [(0, .ref h0), (1, .int x1), (2, .int 0), (3, .int 0)] ∧ (0 ≤ (0 : Int32).toInt ∧ (0 : Int32).toInt ≤ 120) ∧ (0 ≤ (0 : Int32).toInt ∧ (0 : Int32).toInt ≤ 120) ∧ (zKq f2 f3 (v0 4).toInt f4 f6 f10 f11 (v0 13).toInt x1.toInt (0 : Int32).toInt (0 : Int32).toInt) ∧ ((0 : Int32).toInt ≤ (v0 13).toInt) ∧ ((0 : Int32).toInt ≤ (0 : Int32).toInt) ∧ (0 ≤ (0 : Int32).toInt) := ⟨hP, hD, hS, lv_sub hl [2, 3, 1, 0] rfl, (by first | with_reducible assumption | exact ⟨by omega, by omega⟩), (by first | with_reducible assumption | exact ⟨by omega, by omega⟩), by first | exact hkq | exact zKq_0 (by decide) (by decide), by omega, by omega, by omega⟩
    exact hJ4 s.heap [] ls (fun i => ([0, 0] : List (Int32)).getD i 0) (fun _ => 0) (fun _ => (fun _ => 0)) (fun _ => (fun _ => 0)) hc
