set_option maxHeartbeats 8000000 in
set_option maxRecDepth 100000 in
theorem sX11_like_0 (l : Launch) (hl0 : l.stackTraces = false) (dC : Nat → ClassId) (dI : Nat → Nat → Nat) (adK adV : Nat → Nat) (h0 : Nat) (h18 : Nat) (h19 : Nat) (h49 : Nat) (h66 : Nat) (h4 : Nat) (h6 : Nat) (h32 : Nat) (h23 : Nat) (h29 : Nat) (h27 : Nat) (h24 : Nat) (h25 : Nat) (h26 : Nat) (h28 : Nat) (h67 : Nat) (h1 : Nat) (h11 : Nat) (h33 : Nat) (h40 : Nat) (h48 : Nat) (h20 : Nat) (h21 : Nat) (h22 : Nat) (h50 : Nat) (h56 : Nat) (h57 : Nat) (h59 : Nat) (h60 : Nat) (h61 : Nat) (h62 : Nat) (h63 : Nat) (h64 : Nat) (h65 : Nat) (h68 : Nat) (h5 : Nat) (h7 : Nat) (h8 : Nat) (h9 : Nat) (h10 : Nat) (h30 : Nat) (h31 : Nat) (k19 : ClassId) (k66 : ClassId) (k6 : ClassId) (k29 : ClassId) (k27 : ClassId) (k24 : ClassId) (k25 : ClassId) (k26 : ClassId) (k28 : ClassId) (k67 : ClassId) (sz : Nat) (sp0 : Value) (lw0 : Int64) (v18 : Nat → Int32) (f19 : Nat → Int32) (v49 : Nat → Int32) (f66 : Nat → Int32) (v4 : Nat → Int32) (f6 : Nat → Int32) (v32 : Nat → Int32) (v23 : Nat → Int32) (f29 : Nat → Int32) (f27 : Nat → Int32) (f24 : Nat → Int32) (f25 : Nat → Int32) (f26 : Nat → Int32) (f28 : Nat → Int32) (f67 : Nat → Int32) (x1 : Int32) (hv18 : zR rg_Documents v18) (hv49 : zR rg_Finder v49) (hv4 : zR rg_Words400 v4) (hf6 : zA 0 399 f6) (hv23 : zR rg_Postings v23) (hf25 : zA 0 1250 f25) (hf28 : zA 0 832 f28) : vx_Met l yX11_like (zw yX11_like cX11_like 2 (some .int)) { frames := 8, cells := 1, slots := 6, locals := 137 } (zPc dC dI adK adV [.ref h0, .int x1] sz [(h0, .inr (11, mX11 h1 h4 h11 h18 h23 h32 h33 h40 h48 h49 sp0 lw0)), (h18, .inr (0, mX0 h19 h20 h21 h22 v18)), (h19, zi k19 120 f19), (h49, .inr (1, mX1 h18 h4 h40 h50 h56 h57 h59 h60 h61 h62 h63 h64 h65 h66 h67 h68 v49)), (h66, zi k66 120 f66), (h4, .inr (10, mX10 h5 h6 h7 h8 h9 h10 v4)), (h6, zi k6 400 f6), (h32, .inr (8, mX8 h23 v32)), (h23, .inr (6, mX6 h24 h25 h26 h27 h28 h29 h30 h31 v23)), (h29, zi k29 400 f29), (h27, zi k27 400 f27), (h24, zi k24 1250 f24), (h25, zi k25 833 f25), (h26, zi k26 833 f26), (h28, zi k28 400 f28), (h67, zi k67 120 f67)] [(k19, .boolean), (k66, .int), (k6, .int), (k29, .int), (k27, .int), (k24, .int), (k25, .int), (k26, .int), (k28, .int), (k67, .int)]) (va_Qi (fun (r : Int32) (u : Nat → Int32) => ((-1) ≤ r.toInt ∧ r.toInt ≤ 119)) (fun (u : Nat → Int32) (t : State) => ∃ (ww : Nat → Int64) (aa : Nat → Nat → Int32) (bb : Nat → Nat → Int64), va_P (dC, dI) vwCl [(h0, .inr (11, mX11 h1 h4 h11 h18 h23 h32 h33 h40 h48 h49 sp0 lw0)), (h18, .inr (0, mX0 h19 h20 h21 h22 v18)), (h19, zi k19 120 f19), (h49, .inr (1, mX1 h18 h4 h40 h50 h56 h57 h59 h60 h61 h62 h63 h64 h65 h66 h67 h68 v49)), (h66, zi k66 120 (aa 0)), (h4, .inr (10, mX10 h5 h6 h7 h8 h9 h10 v4)), (h6, zi k6 400 f6), (h32, .inr (8, mX8 h23 (upd (upd (upd (upd (upd (upd (upd (upd v32 1 (u 0)) 2 (u 1)) 3 (u 2)) 4 (u 3)) 5 (u 4)) 6 (u 5)) 7 (u 6)) 8 (u 7)))), (h23, .inr (6, mX6 h24 h25 h26 h27 h28 h29 h30 h31 v23)), (h29, zi k29 400 f29), (h27, zi k27 400 f27), (h24, zi k24 1250 f24), (h25, zi k25 833 f25), (h26, zi k26 833 f26), (h28, zi k28 400 f28), (h67, zi k67 120 (aa 1))] t.heap ∧ va_K (dC, dI) vwCl [(k19, .boolean), (k66, .int), (k6, .int), (k29, .int), (k27, .int), (k24, .int), (k25, .int), (k26, .int), (k28, .int), (k67, .int)] t ∧ va_D (va_A [(h0, .inr (11, mX11 h1 h4 h11 h18 h23 h32 h33 h40 h48 h49 sp0 lw0)), (h18, .inr (0, mX0 h19 h20 h21 h22 v18)), (h19, zi k19 120 f19), (h49, .inr (1, mX1 h18 h4 h40 h50 h56 h57 h59 h60 h61 h62 h63 h64 h65 h66 h67 h68 v49)), (h66, zi k66 120 f66), (h4, .inr (10, mX10 h5 h6 h7 h8 h9 h10 v4)), (h6, zi k6 400 f6), (h32, .inr (8, mX8 h23 v32)), (h23, .inr (6, mX6 h24 h25 h26 h27 h28 h29 h30 h31 v23)), (h29, zi k29 400 f29), (h27, zi k27 400 f27), (h24, zi k24 1250 f24), (h25, zi k25 833 f25), (h26, zi k26 833 f26), (h28, zi k28 400 f28), (h67, zi k67 120 f67)] sz) [(h0, .inr (11, mX11 h1 h4 h11 h18 h23 h32 h33 h40 h48 h49 sp0 lw0)), (h18, .inr (0, mX0 h19 h20 h21 h22 v18)), (h19, zi k19 120 f19), (h49, .inr (1, mX1 h18 h4 h40 h50 h56 h57 h59 h60 h61 h62 h63 h64 h65 h66 h67 h68 v49)), (h66, zi k66 120 (aa 0)), (h4, .inr (10, mX10 h5 h6 h7 h8 h9 h10 v4)), (h6, zi k6 400 f6), (h32, .inr (8, mX8 h23 (upd (upd (upd (upd (upd (upd (upd (upd v32 1 (u 0)) 2 (u 1)) 3 (u 2)) 4 (u 3)) 5 (u 4)) 6 (u 5)) 7 (u 6)) 8 (u 7)))), (h23, .inr (6, mX6 h24 h25 h26 h27 h28 h29 h30 h31 v23)), (h29, zi k29 400 f29), (h27, zi k27 400 f27), (h24, zi k24 1250 f24), (h25, zi k25 833 f25), (h26, zi k26 833 f26), (h28, zi k28 400 f28), (h67, zi k67 120 (aa 1))]) (va_A [(h0, .inr (11, mX11 h1 h4 h11 h18 h23 h32 h33 h40 h48 h49 sp0 lw0)), (h18, .inr (0, mX0 h19 h20 h21 h22 v18)), (h19, zi k19 120 f19), (h49, .inr (1, mX1 h18 h4 h40 h50 h56 h57 h59 h60 h61 h62 h63 h64 h65 h66 h67 h68 v49)), (h66, zi k66 120 f66), (h4, .inr (10, mX10 h5 h6 h7 h8 h9 h10 v4)), (h6, zi k6 400 f6), (h32, .inr (8, mX8 h23 v32)), (h23, .inr (6, mX6 h24 h25 h26 h27 h28 h29 h30 h31 v23)), (h29, zi k29 400 f29), (h27, zi k27 400 f27), (h24, zi k24 1250 f24), (h25, zi k25 833 f25), (h26, zi k26 833 f26), (h28, zi k28 400 f28), (h67, zi k67 120 f67)] sz)) (vx_X (fun (u : Nat → Int32) => True) (fun (E : String) (u : Nat → Int32) (t : State) => E = "java/lang/IndexOutOfBoundsException" ∧ ∃ (ww : Nat → Int64) (aa : Nat → Nat → Int32) (bb : Nat → Nat → Int64), va_P (dC, dI) vwCl [(h0, .inr (11, mX11 h1 h4 h11 h18 h23 h32 h33 h40 h48 h49 sp0 lw0)), (h18, .inr (0, mX0 h19 h20 h21 h22 v18)), (h19, zi k19 120 f19), (h49, .inr (1, mX1 h18 h4 h40 h50 h56 h57 h59 h60 h61 h62 h63 h64 h65 h66 h67 h68 v49)), (h66, zi k66 120 (aa 0)), (h4, .inr (10, mX10 h5 h6 h7 h8 h9 h10 v4)), (h6, zi k6 400 f6), (h32, .inr (8, mX8 h23 (upd (upd (upd (upd (upd (upd (upd (upd v32 1 (u 0)) 2 (u 1)) 3 (u 2)) 4 (u 3)) 5 (u 4)) 6 (u 5)) 7 (u 6)) 8 (u 7)))), (h23, .inr (6, mX6 h24 h25 h26 h27 h28 h29 h30 h31 v23)), (h29, zi k29 400 f29), (h27, zi k27 400 f27), (h24, zi k24 1250 f24), (h25, zi k25 833 f25), (h26, zi k26 833 f26), (h28, zi k28 400 f28), (h67, zi k67 120 (aa 1))] t.heap ∧ va_K (dC, dI) vwCl [(k19, .boolean), (k66, .int), (k6, .int), (k29, .int), (k27, .int), (k24, .int), (k25, .int), (k26, .int), (k28, .int), (k67, .int)] t ∧ va_D (va_A [(h0, .inr (11, mX11 h1 h4 h11 h18 h23 h32 h33 h40 h48 h49 sp0 lw0)), (h18, .inr (0, mX0 h19 h20 h21 h22 v18)), (h19, zi k19 120 f19), (h49, .inr (1, mX1 h18 h4 h40 h50 h56 h57 h59 h60 h61 h62 h63 h64 h65 h66 h67 h68 v49)), (h66, zi k66 120 f66), (h4, .inr (10, mX10 h5 h6 h7 h8 h9 h10 v4)), (h6, zi k6 400 f6), (h32, .inr (8, mX8 h23 v32)), (h23, .inr (6, mX6 h24 h25 h26 h27 h28 h29 h30 h31 v23)), (h29, zi k29 400 f29), (h27, zi k27 400 f27), (h24, zi k24 1250 f24), (h25, zi k25 833 f25), (h26, zi k26 833 f26), (h28, zi k28 400 f28), (h67, zi k67 120 f67)] sz) [(h0, .inr (11, mX11 h1 h4 h11 h18 h23 h32 h33 h40 h48 h49 sp0 lw0)), (h18, .inr (0, mX0 h19 h20 h21 h22 v18)), (h19, zi k19 120 f19), (h49, .inr (1, mX1 h18 h4 h40 h50 h56 h57 h59 h60 h61 h62 h63 h64 h65 h66 h67 h68 v49)), (h66, zi k66 120 (aa 0)), (h4, .inr (10, mX10 h5 h6 h7 h8 h9 h10 v4)), (h6, zi k6 400 f6), (h32, .inr (8, mX8 h23 (upd (upd (upd (upd (upd (upd (upd (upd v32 1 (u 0)) 2 (u 1)) 3 (u 2)) 4 (u 3)) 5 (u 4)) 6 (u 5)) 7 (u 6)) 8 (u 7)))), (h23, .inr (6, mX6 h24 h25 h26 h27 h28 h29 h30 h31 v23)), (h29, zi k29 400 f29), (h27, zi k27 400 f27), (h24, zi k24 1250 f24), (h25, zi k25 833 f25), (h26, zi k26 833 f26), (h28, zi k28 400 f28), (h67, zi k67 120 (aa 1))]) (va_A [(h0, .inr (11, mX11 h1 h4 h11 h18 h23 h32 h33 h40 h48 h49 sp0 lw0)), (h18, .inr (0, mX0 h19 h20 h21 h22 v18)), (h19, zi k19 120 f19), (h49, .inr (1, mX1 h18 h4 h40 h50 h56 h57 h59 h60 h61 h62 h63 h64 h65 h66 h67 h68 v49)), (h66, zi k66 120 f66), (h4, .inr (10, mX10 h5 h6 h7 h8 h9 h10 v4)), (h6, zi k6 400 f6), (h32, .inr (8, mX8 h23 v32)), (h23, .inr (6, mX6 h24 h25 h26 h27 h28 h29 h30 h31 v23)), (h29, zi k29 400 f29), (h27, zi k27 400 f27), (h24, zi k24 1250 f24), (h25, zi k25 833 f25), (h26, zi k26 833 f26), (h28, zi k28 400 f28), (h67, zi k67 120 f67)] sz)) 1 6 (va_A [(h0, .inr (11, mX11 h1 h4 h11 h18 h23 h32 h33 h40 h48 h49 sp0 lw0)), (h18, .inr (0, mX0 h19 h20 h21 h22 v18)), (h19, zi k19 120 f19), (h49, .inr (1, mX1 h18 h4 h40 h50 h56 h57 h59 h60 h61 h62 h63 h64 h65 h66 h67 h68 v49)), (h66, zi k66 120 f66), (h4, .inr (10, mX10 h5 h6 h7 h8 h9 h10 v4)), (h6, zi k6 400 f6), (h32, .inr (8, mX8 h23 v32)), (h23, .inr (6, mX6 h24 h25 h26 h27 h28 h29 h30 h31 v23)), (h29, zi k29 400 f29), (h27, zi k27 400 f27), (h24, zi k24 1250 f24), (h25, zi k25 833 f25), (h26, zi k26 833 f26), (h28, zi k28 400 f28), (h67, zi k67 120 f67)] sz) := by
  refine vx_ofW (cc := cX11_like) (maxL := 2) (ret := (some .int)) (by decide) rfl ?_
  intro p e s m args below meth c s₁ B hml hout hv
  obtain ⟨rfl, hsz, hP, hK, hD0, hE, hZ⟩ := hv
  have hx := B.exec
  have hb := B.bytes
  have hr := B.returns
  have hG : ∀ w ∈ zG, w.before _ s = true := fun w h => atoms_spec (ws := (zw yX11_like cX11_like 2 (some .int))) B.pre w (List.mem_cons_of_mem _ h)
  have hown : s.vm.findClass RX11 = some m.cls := findClass_of_methodNamed B.named
  have hlocks := B.notSynchronized

  subst hsz
  have hD := hD0.self (sz := s.heap.size)
  generalize hAe : va_A [(h0, .inr (11, mX11 h1 h4 h11 h18 h23 h32 h33 h40 h48 h49 sp0 lw0)), (h18, .inr (0, mX0 h19 h20 h21 h22 v18)), (h19, zi k19 120 f19), (h49, .inr (1, mX1 h18 h4 h40 h50 h56 h57 h59 h60 h61 h62 h63 h64 h65 h66 h67 h68 v49)), (h66, zi k66 120 f66), (h4, .inr (10, mX10 h5 h6 h7 h8 h9 h10 v4)), (h6, zi k6 400 f6), (h32, .inr (8, mX8 h23 v32)), (h23, .inr (6, mX6 h24 h25 h26 h27 h28 h29 h30 h31 v23)), (h29, zi k29 400 f29), (h27, zi k27 400 f27), (h24, zi k24 1250 f24), (h25, zi k25 833 f25), (h26, zi k26 833 f26), (h28, zi k28 400 f28), (h67, zi k67 120 f67)] s.heap.size = A at hD hZ ⊢
  have hA : ∀ q : Nat, s.heap.size ≤ q → A q := fun q h => by rw [← hAe]; exact Or.inr h
  have hS : va_S A s.heap s.heap [] := va_S.rf
  have hl := lv_entry ([.ref h0, .int x1]) (n := 2) (Nat.le_of_ble_eq_true rfl)
  rw [lg_entry_eq]
  generalize (lg_sl ([.ref h0, .int x1]) ++ List.replicate (2 - (lg_sl ([.ref h0, .int x1])).length) Slot.unset).toArray = ls at hl ⊢
  have hl : lv_has ls 2 [(0, .ref h0), (1, .int x1)] := hl
  refine lv_aload_n hx hb dX11_like_0 rfl (lv_at hl 0 rfl) ?_
  refine va_get (D := (dC, dI)) (ci := 11) (v := .ref h18) (C := RX11) (T := TX11) (N := 12) hx hb hG zuX11 hown hK hP 0 rfl rfl 3 (by decide) (hG _ zv560) (fun _ h9 => h9) rfl dX11_like_1 ?_
  refine lv_iload_n hx hb dX11_like_4 rfl (lv_at hl 1 rfl) ?_
  have hPc := hP.sub (ws' := [(h18, .inr (0, mX0 h19 h20 h21 h22 v18)), (h19, zi k19 120 f19)]) [1, 2] rfl
  have hDc := hD.sub (ws' := [(h18, .inr (0, mX0 h19 h20 h21 h22 v18)), (h19, zi k19 120 f19)]) [1, 2] (by decide) rfl
  have hKc := hK.sub (tys' := [(k19, .boolean)]) [0] rfl
  have hFc := va_free (wc := [(h18, .inr (0, mX0 h19 h20 h21 h22 v18)), (h19, zi k19 120 f19)]) hD hS hA [1, 2] rfl
  refine va_calli (va_runV (As := [.int x1]) (rest := []) ⟨hx, hb, hml, hown, hG⟩ (sX0_isOn_0 l dC dI adK adV h18 h19 h20 h21 h22 k19 s.heap.size v18 f19 x1 hv18) (cwV 1 hG (zgV zv1477 zv872 zv873 zv132 zv874) rfl rfl rfl (by decide +kernel) ⟨Nat.le_of_ble_eq_true rfl, Nat.le_of_ble_eq_true rfl⟩) ⟨zPc_blind, va_recv hKc hPc (ci := 0) (q0 := 0) rfl rfl, zPc_pre hPc hKc hDc hE hS hFc hZ⟩ rfl rfl hl.1 rfl (lv_room (Nat.le_of_ble_eq_true rfl)) dX11_like_5 ⟨Nat.le_of_ble_eq_true rfl, Nat.le_of_ble_eq_true rfl⟩) hS (fun q _ h => hFc q h) hFc (fun r5_ u5_ t H1 locs ht hvm hw hB hz1 hk1 hS => ?_)
  replace hw : (0 ≤ r5_.toInt ∧ r5_.toInt ≤ 1) ∧ (r5_.toInt = 1 → (0 ≤ x1.toInt ∧ x1.toInt ≤ 119)) ∧ (r5_.toInt = 1 → x1.toInt < (v18 4).toInt) ∧ (zIo f19 (v18 4).toInt (x1 : Int32) r5_.toInt) := hw
  obtain ⟨b_, hX5_0, hX5_1, hX5_2⟩ := hw
  obtain ⟨w5_, a5_, b5_, hP1, hK1, hD1⟩ := hB
  rw [ht] at hP1
  obtain ⟨hP, hD⟩ := va_join (wr := [(h0, .inr (11, mX11 h1 h4 h11 h18 h23 h32 h33 h40 h48 h49 sp0 lw0)), (h49, .inr (1, mX1 h18 h4 h40 h50 h56 h57 h59 h60 h61 h62 h63 h64 h65 h66 h67 h68 v49)), (h66, zi k66 120 f66), (h4, .inr (10, mX10 h5 h6 h7 h8 h9 h10 v4)), (h6, zi k6 400 f6), (h32, .inr (8, mX8 h23 v32)), (h23, .inr (6, mX6 h24 h25 h26 h27 h28 h29 h30 h31 v23)), (h29, zi k29 400 f29), (h27, zi k27 400 f27), (h24, zi k24 1250 f24), (h25, zi k25 833 f25), (h26, zi k26 833 f26), (h28, zi k28 400 f28), (h67, zi k67 120 f67)]) (w1 := [(h18, .inr (0, mX0 h19 h20 h21 h22 v18)), (h19, zi k19 120 f19)]) hP hD [1, 2] [0, 3, 4, 5, 6, 7, 8, 9, 10, 11, 12, 13, 14, 15] rfl rfl (by decide) (by decide) hk1 hFc hP1 hD1
  have hP : va_P (dC, dI) vwCl [(h0, .inr (11, mX11 h1 h4 h11 h18 h23 h32 h33 h40 h48 h49 sp0 lw0)), (h18, .inr (0, mX0 h19 h20 h21 h22 v18)), (h19, zi k19 120 f19), (h49, .inr (1, mX1 h18 h4 h40 h50 h56 h57 h59 h60 h61 h62 h63 h64 h65 h66 h67 h68 v49)), (h66, zi k66 120 f66), (h4, .inr (10, mX10 h5 h6 h7 h8 h9 h10 v4)), (h6, zi k6 400 f6), (h32, .inr (8, mX8 h23 v32)), (h23, .inr (6, mX6 h24 h25 h26 h27 h28 h29 h30 h31 v23)), (h29, zi k29 400 f29), (h27, zi k27 400 f27), (h24, zi k24 1250 f24), (h25, zi k25 833 f25), (h26, zi k26 833 f26), (h28, zi k28 400 f28), (h67, zi k67 120 f67)] H1 := hP.sub [0, 14, 15, 1, 2, 3, 4, 5, 6, 7, 8, 9, 10, 11, 12, 13] rfl
  have hD : va_D A [(h0, .inr (11, mX11 h1 h4 h11 h18 h23 h32 h33 h40 h48 h49 sp0 lw0)), (h18, .inr (0, mX0 h19 h20 h21 h22 v18)), (h19, zi k19 120 f19), (h49, .inr (1, mX1 h18 h4 h40 h50 h56 h57 h59 h60 h61 h62 h63 h64 h65 h66 h67 h68 v49)), (h66, zi k66 120 f66), (h4, .inr (10, mX10 h5 h6 h7 h8 h9 h10 v4)), (h6, zi k6 400 f6), (h32, .inr (8, mX8 h23 v32)), (h23, .inr (6, mX6 h24 h25 h26 h27 h28 h29 h30 h31 v23)), (h29, zi k29 400 f29), (h27, zi k27 400 f27), (h24, zi k24 1250 f24), (h25, zi k25 833 f25), (h26, zi k26 833 f26), (h28, zi k28 400 f28), (h67, zi k67 120 f67)] := hD.sub [0, 14, 15, 1, 2, 3, 4, 5, 6, 7, 8, 9, 10, 11, 12, 13] (by decide) rfl
  generalize H1 = H at hP hS ⊢
  clear hz1
  refine lv_if_ne (tgt := 22) hx hb dX11_like_8 (by decide) (fun c_ => ?_) (fun c_ => ?_)
  · skip
    have b_ := zT_ne rfl zk_0 c_
    refine lv_aload_n hx hb dX11_like_22 rfl (lv_at hl 0 rfl) ?_
    refine va_get (D := (dC, dI)) (ci := 11) (v := .ref h49) (C := RX11) (T := TX11) (N := 12) hx hb hG zuX11 hown hK hP 0 rfl rfl 9 (by decide) (hG _ zv566) (fun _ h9 => h9) rfl dX11_like_23 ?_
    refine lv_iload_n hx hb dX11_like_26 rfl (lv_at hl 1 rfl) ?_
    refine lv_aload_n hx hb dX11_like_27 rfl (lv_at hl 0 rfl) ?_
    refine va_get (D := (dC, dI)) (ci := 11) (v := .ref h32) (C := RX11) (T := TX11) (N := 12) hx hb hG zuX11 hown hK hP 0 rfl rfl 5 (by decide) (hG _ zv562) (fun _ h9 => h9) rfl dX11_like_28 ?_
    have hPc := hP.sub (ws' := [(h49, .inr (1, mX1 h18 h4 h40 h50 h56 h57 h59 h60 h61 h62 h63 h64 h65 h66 h67 h68 v49)), (h66, zi k66 120 f66), (h4, .inr (10, mX10 h5 h6 h7 h8 h9 h10 v4)), (h6, zi k6 400 f6), (h32, .inr (8, mX8 h23 v32)), (h23, .inr (6, mX6 h24 h25 h26 h27 h28 h29 h30 h31 v23)), (h29, zi k29 400 f29), (h27, zi k27 400 f27), (h24, zi k24 1250 f24), (h25, zi k25 833 f25), (h26, zi k26 833 f26), (h28, zi k28 400 f28), (h67, zi k67 120 f67), (h18, .inr (0, mX0 h19 h20 h21 h22 v18)), (h19, zi k19 120 f19)]) [3, 4, 5, 6, 7, 8, 9, 10, 11, 12, 13, 14, 15, 1, 2] rfl
    have hDc := hD.sub (ws' := [(h49, .inr (1, mX1 h18 h4 h40 h50 h56 h57 h59 h60 h61 h62 h63 h64 h65 h66 h67 h68 v49)), (h66, zi k66 120 f66), (h4, .inr (10, mX10 h5 h6 h7 h8 h9 h10 v4)), (h6, zi k6 400 f6), (h32, .inr (8, mX8 h23 v32)), (h23, .inr (6, mX6 h24 h25 h26 h27 h28 h29 h30 h31 v23)), (h29, zi k29 400 f29), (h27, zi k27 400 f27), (h24, zi k24 1250 f24), (h25, zi k25 833 f25), (h26, zi k26 833 f26), (h28, zi k28 400 f28), (h67, zi k67 120 f67), (h18, .inr (0, mX0 h19 h20 h21 h22 v18)), (h19, zi k19 120 f19)]) [3, 4, 5, 6, 7, 8, 9, 10, 11, 12, 13, 14, 15, 1, 2] (by decide) rfl
    have hKc := hK.sub (tys' := [(k66, .int), (k6, .int), (k29, .int), (k27, .int), (k24, .int), (k25, .int), (k26, .int), (k28, .int), (k67, .int), (k19, .boolean)]) [1, 2, 3, 4, 5, 6, 7, 8, 9, 0] rfl
    have hFc := va_free (wc := [(h49, .inr (1, mX1 h18 h4 h40 h50 h56 h57 h59 h60 h61 h62 h63 h64 h65 h66 h67 h68 v49)), (h66, zi k66 120 f66), (h4, .inr (10, mX10 h5 h6 h7 h8 h9 h10 v4)), (h6, zi k6 400 f6), (h32, .inr (8, mX8 h23 v32)), (h23, .inr (6, mX6 h24 h25 h26 h27 h28 h29 h30 h31 v23)), (h29, zi k29 400 f29), (h27, zi k27 400 f27), (h24, zi k24 1250 f24), (h25, zi k25 833 f25), (h26, zi k26 833 f26), (h28, zi k28 400 f28), (h67, zi k67 120 f67), (h18, .inr (0, mX0 h19 h20 h21 h22 v18)), (h19, zi k19 120 f19)]) hD hS hA [3, 4, 5, 6, 7, 8, 9, 10, 11, 12, 13, 14, 15, 1, 2] rfl
    refine va_calli (va_runV (As := [.int x1, .ref h32]) (rest := []) ⟨hx, hb, hml, hown, hG⟩ (sX1_mostLike_0 l dC dI adK adV h49 h66 h4 h6 h32 h23 h29 h27 h24 h25 h26 h28 h67 h18 h19 h40 h50 h56 h57 h59 h60 h61 h62 h63 h64 h65 h68 h5 h7 h8 h9 h10 h30 h31 h20 h21 h22 k66 k6 k29 k27 k24 k25 k26 k28 k67 k19 H.size v49 f66 v4 f6 v32 v23 f29 f27 f24 f25 f26 f28 f67 v18 f19 x1 hv49 hv4 hf6 hv23 hf25 hf28 hv18 (show (0 : Int) ≤ (x1 : Int32).toInt ∧ (x1 : Int32).toInt ≤ (119 : Int) from (by first | with_reducible assumption | exact ⟨by omega, by omega⟩))) (cwV 2 hG (zgV zv1559 zv1560 zv1561 zv138 zv1562) rfl rfl rfl (by decide +kernel) ⟨Nat.le_of_ble_eq_true rfl, Nat.le_of_ble_eq_true rfl⟩) ⟨zPc_blind, va_recv hKc hPc (ci := 1) (q0 := 0) rfl rfl, zPc_pre hPc hKc hDc hE hS hFc hZ⟩ rfl rfl hl.1 rfl (lv_room (Nat.le_of_ble_eq_true rfl)) dX11_like_31 ⟨Nat.le_of_ble_eq_true rfl, Nat.le_of_ble_eq_true rfl⟩) hS (fun q _ h => hFc q h) hFc (fun r31_ u31_ t H1 locs ht hvm hw hB hz1 hk1 hS => ?_)
    replace hw : ((-1) ≤ r31_.toInt ∧ r31_.toInt ≤ 119) := hw
    have b_ := hw
    obtain ⟨w31_, a31_, b31_, hP1, hK1, hD1⟩ := hB
    rw [ht] at hP1
    obtain ⟨hP, hD⟩ := va_join (wr := [(h0, .inr (11, mX11 h1 h4 h11 h18 h23 h32 h33 h40 h48 h49 sp0 lw0))]) (w1 := [(h49, .inr (1, mX1 h18 h4 h40 h50 h56 h57 h59 h60 h61 h62 h63 h64 h65 h66 h67 h68 v49)), (h66, zi k66 120 (a31_ 0)), (h4, .inr (10, mX10 h5 h6 h7 h8 h9 h10 v4)), (h6, zi k6 400 f6), (h32, .inr (8, mX8 h23 (upd (upd (upd (upd (upd (upd (upd (upd v32 1 (u31_ 0)) 2 (u31_ 1)) 3 (u31_ 2)) 4 (u31_ 3)) 5 (u31_ 4)) 6 (u31_ 5)) 7 (u31_ 6)) 8 (u31_ 7)))), (h23, .inr (6, mX6 h24 h25 h26 h27 h28 h29 h30 h31 v23)), (h29, zi k29 400 f29), (h27, zi k27 400 f27), (h24, zi k24 1250 f24), (h25, zi k25 833 f25), (h26, zi k26 833 f26), (h28, zi k28 400 f28), (h67, zi k67 120 (a31_ 1)), (h18, .inr (0, mX0 h19 h20 h21 h22 v18)), (h19, zi k19 120 f19)]) hP hD [3, 4, 5, 6, 7, 8, 9, 10, 11, 12, 13, 14, 15, 1, 2] [0] rfl rfl (by decide) (by decide) hk1 hFc hP1 hD1
    have hP : va_P (dC, dI) vwCl [(h0, .inr (11, mX11 h1 h4 h11 h18 h23 h32 h33 h40 h48 h49 sp0 lw0)), (h18, .inr (0, mX0 h19 h20 h21 h22 v18)), (h19, zi k19 120 f19), (h49, .inr (1, mX1 h18 h4 h40 h50 h56 h57 h59 h60 h61 h62 h63 h64 h65 h66 h67 h68 v49)), (h66, zi k66 120 (a31_ 0)), (h4, .inr (10, mX10 h5 h6 h7 h8 h9 h10 v4)), (h6, zi k6 400 f6), (h32, .inr (8, mX8 h23 (upd (upd (upd (upd (upd (upd (upd (upd v32 1 (u31_ 0)) 2 (u31_ 1)) 3 (u31_ 2)) 4 (u31_ 3)) 5 (u31_ 4)) 6 (u31_ 5)) 7 (u31_ 6)) 8 (u31_ 7)))), (h23, .inr (6, mX6 h24 h25 h26 h27 h28 h29 h30 h31 v23)), (h29, zi k29 400 f29), (h27, zi k27 400 f27), (h24, zi k24 1250 f24), (h25, zi k25 833 f25), (h26, zi k26 833 f26), (h28, zi k28 400 f28), (h67, zi k67 120 (a31_ 1))] H1 := hP.sub [0, 14, 15, 1, 2, 3, 4, 5, 6, 7, 8, 9, 10, 11, 12, 13] rfl
    have hD : va_D A [(h0, .inr (11, mX11 h1 h4 h11 h18 h23 h32 h33 h40 h48 h49 sp0 lw0)), (h18, .inr (0, mX0 h19 h20 h21 h22 v18)), (h19, zi k19 120 f19), (h49, .inr (1, mX1 h18 h4 h40 h50 h56 h57 h59 h60 h61 h62 h63 h64 h65 h66 h67 h68 v49)), (h66, zi k66 120 (a31_ 0)), (h4, .inr (10, mX10 h5 h6 h7 h8 h9 h10 v4)), (h6, zi k6 400 f6), (h32, .inr (8, mX8 h23 (upd (upd (upd (upd (upd (upd (upd (upd v32 1 (u31_ 0)) 2 (u31_ 1)) 3 (u31_ 2)) 4 (u31_ 3)) 5 (u31_ 4)) 6 (u31_ 5)) 7 (u31_ 6)) 8 (u31_ 7)))), (h23, .inr (6, mX6 h24 h25 h26 h27 h28 h29 h30 h31 v23)), (h29, zi k29 400 f29), (h27, zi k27 400 f27), (h24, zi k24 1250 f24), (h25, zi k25 833 f25), (h26, zi k26 833 f26), (h28, zi k28 400 f28), (h67, zi k67 120 (a31_ 1))] := hD.sub [0, 14, 15, 1, 2, 3, 4, 5, 6, 7, 8, 9, 10, 11, 12, 13] (by decide) rfl
    generalize H1 = H at hP hS ⊢
    clear hz1
    refine W.widen (k := 1) (n := 6) (by decide) (by decide) ?_
    have b_ : -2147483648 ≤ (u31_ 0).toInt ∧ (u31_ 0).toInt ≤ 2147483647 := ⟨zlo _, zhi _⟩
    have b_ : -2147483648 ≤ (u31_ 1).toInt ∧ (u31_ 1).toInt ≤ 2147483647 := ⟨zlo _, zhi _⟩
    have b_ : -2147483648 ≤ (u31_ 2).toInt ∧ (u31_ 2).toInt ≤ 2147483647 := ⟨zlo _, zhi _⟩
    have b_ : -2147483648 ≤ (u31_ 3).toInt ∧ (u31_ 3).toInt ≤ 2147483647 := ⟨zlo _, zhi _⟩
    have b_ : -2147483648 ≤ (u31_ 4).toInt ∧ (u31_ 4).toInt ≤ 2147483647 := ⟨zlo _, zhi _⟩
    have b_ : -2147483648 ≤ (u31_ 5).toInt ∧ (u31_ 5).toInt ≤ 2147483647 := ⟨zlo _, zhi _⟩
    have b_ : -2147483648 ≤ (u31_ 6).toInt ∧ (u31_ 6).toInt ≤ 2147483647 := ⟨zlo _, zhi _⟩
    have b_ : -2147483648 ≤ (u31_ 7).toInt ∧ (u31_ 7).toInt ≤ 2147483647 := ⟨zlo _, zhi _⟩
    have hpost : ((-1) ≤ r31_.toInt ∧ r31_.toInt ≤ 119) := (by first | with_reducible assumption | exact ⟨by omega, by omega⟩)
    have hP9 : va_P (dC, dI) vwCl [(h0, .inr (11, mX11 h1 h4 h11 h18 h23 h32 h33 h40 h48 h49 sp0 lw0)), (h18, .inr (0, mX0 h19 h20 h21 h22 v18)), (h19, zi k19 120 f19), (h49, .inr (1, mX1 h18 h4 h40 h50 h56 h57 h59 h60 h61 h62 h63 h64 h65 h66 h67 h68 v49)), (h66, zi k66 120 (a31_ 0)), (h4, .inr (10, mX10 h5 h6 h7 h8 h9 h10 v4)), (h6, zi k6 400 f6), (h32, .inr (8, mX8 h23 (upd (upd (upd (upd (upd (upd (upd (upd v32 1 (u31_ 0)) 2 (u31_ 1)) 3 (u31_ 2)) 4 (u31_ 3)) 5 (u31_ 4)) 6 (u31_ 5)) 7 (u31_ 6)) 8 (u31_ 7)))), (h23, .inr (6, mX6 h24 h25 h26 h27 h28 h29 h30 h31 v23)), (h29, zi k29 400 f29), (h27, zi k27 400 f27), (h24, zi k24 1250 f24), (h25, zi k25 833 f25), (h26, zi k26 833 f26), (h28, zi k28 400 f28), (h67, zi k67 120 (a31_ 1))] H := hP
    have hD9 : va_D A [(h0, .inr (11, mX11 h1 h4 h11 h18 h23 h32 h33 h40 h48 h49 sp0 lw0)), (h18, .inr (0, mX0 h19 h20 h21 h22 v18)), (h19, zi k19 120 f19), (h49, .inr (1, mX1 h18 h4 h40 h50 h56 h57 h59 h60 h61 h62 h63 h64 h65 h66 h67 h68 v49)), (h66, zi k66 120 (a31_ 0)), (h4, .inr (10, mX10 h5 h6 h7 h8 h9 h10 v4)), (h6, zi k6 400 f6), (h32, .inr (8, mX8 h23 (upd (upd (upd (upd (upd (upd (upd (upd v32 1 (u31_ 0)) 2 (u31_ 1)) 3 (u31_ 2)) 4 (u31_ 3)) 5 (u31_ 4)) 6 (u31_ 5)) 7 (u31_ 6)) 8 (u31_ 7)))), (h23, .inr (6, mX6 h24 h25 h26 h27 h28 h29 h30 h31 v23)), (h29, zi k29 400 f29), (h27, zi k27 400 f27), (h24, zi k24 1250 f24), (h25, zi k25 833 f25), (h26, zi k26 833 f26), (h28, zi k28 400 f28), (h67, zi k67 120 (a31_ 1))] := hD
    exact vx_ret (W.iret (v := r31_) hx hb hr (fun t ht hW => ⟨⟨r31_, (fun i => ([(u31_ 0), (u31_ 1), (u31_ 2), (u31_ 3), (u31_ 4), (u31_ 5), (u31_ 6), (u31_ 7)] : List (Int32)).getD i 0), rfl, hpost, (fun _ => 0), (fun i => ([(a31_ 0), (a31_ 1)] : List (Nat → Int32)).getD i (fun _ => 0)), (fun _ => (fun _ => 0)), by rw [ht]; exact hP9, va_K.moved hW.alike hK, hD9⟩, hS.F ht⟩) hS.2.2 dX11_like_34)
  · skip
    have b_ := zF_ne rfl zk_0 c_
    have b_ : -2147483648 ≤ (v32 1).toInt ∧ (v32 1).toInt ≤ 2147483647 := ⟨zlo _, zhi _⟩
    have b_ : -2147483648 ≤ (v32 2).toInt ∧ (v32 2).toInt ≤ 2147483647 := ⟨zlo _, zhi _⟩
    have b_ : -2147483648 ≤ (v32 3).toInt ∧ (v32 3).toInt ≤ 2147483647 := ⟨zlo _, zhi _⟩
    have b_ : -2147483648 ≤ (v32 4).toInt ∧ (v32 4).toInt ≤ 2147483647 := ⟨zlo _, zhi _⟩
    have b_ : -2147483648 ≤ (v32 5).toInt ∧ (v32 5).toInt ≤ 2147483647 := ⟨zlo _, zhi _⟩
    have b_ : -2147483648 ≤ (v32 6).toInt ∧ (v32 6).toInt ≤ 2147483647 := ⟨zlo _, zhi _⟩
    have b_ : -2147483648 ≤ (v32 7).toInt ∧ (v32 7).toInt ≤ 2147483647 := ⟨zlo _, zhi _⟩
    have b_ : -2147483648 ≤ (v32 8).toInt ∧ (v32 8).toInt ≤ 2147483647 := ⟨zlo _, zhi _⟩
    have hpost : True := trivial
    have hP9 : va_P (dC, dI) vwCl [(h0, .inr (11, mX11 h1 h4 h11 h18 h23 h32 h33 h40 h48 h49 sp0 lw0)), (h18, .inr (0, mX0 h19 h20 h21 h22 v18)), (h19, zi k19 120 f19), (h49, .inr (1, mX1 h18 h4 h40 h50 h56 h57 h59 h60 h61 h62 h63 h64 h65 h66 h67 h68 v49)), (h66, zi k66 120 f66), (h4, .inr (10, mX10 h5 h6 h7 h8 h9 h10 v4)), (h6, zi k6 400 f6), (h32, .inr (8, mX8 h23 (upd (upd (upd (upd (upd (upd (upd (upd v32 1 (v32 1)) 2 (v32 2)) 3 (v32 3)) 4 (v32 4)) 5 (v32 5)) 6 (v32 6)) 7 (v32 7)) 8 (v32 8)))), (h23, .inr (6, mX6 h24 h25 h26 h27 h28 h29 h30 h31 v23)), (h29, zi k29 400 f29), (h27, zi k27 400 f27), (h24, zi k24 1250 f24), (h25, zi k25 833 f25), (h26, zi k26 833 f26), (h28, zi k28 400 f28), (h67, zi k67 120 f67)] H := hP
    have hD9 : va_D A [(h0, .inr (11, mX11 h1 h4 h11 h18 h23 h32 h33 h40 h48 h49 sp0 lw0)), (h18, .inr (0, mX0 h19 h20 h21 h22 v18)), (h19, zi k19 120 f19), (h49, .inr (1, mX1 h18 h4 h40 h50 h56 h57 h59 h60 h61 h62 h63 h64 h65 h66 h67 h68 v49)), (h66, zi k66 120 f66), (h4, .inr (10, mX10 h5 h6 h7 h8 h9 h10 v4)), (h6, zi k6 400 f6), (h32, .inr (8, mX8 h23 (upd (upd (upd (upd (upd (upd (upd (upd v32 1 (v32 1)) 2 (v32 2)) 3 (v32 3)) 4 (v32 4)) 5 (v32 5)) 6 (v32 6)) 7 (v32 7)) 8 (v32 8)))), (h23, .inr (6, mX6 h24 h25 h26 h27 h28 h29 h30 h31 v23)), (h29, zi k29 400 f29), (h27, zi k27 400 f27), (h24, zi k24 1250 f24), (h25, zi k25 833 f25), (h26, zi k26 833 f26), (h28, zi k28 400 f28), (h67, zi k67 120 f67)] := hD
    obtain ⟨sa, hstr⟩ := zE_S284 hE
    exact vx_throwSW (names := ["java/lang/RuntimeException", "java/lang/Exception"]) (A := A) hx hb hl0 hown (by decide +kernel) (by decide +kernel) (hG _ zv1411) (hG _ zv154) hstr (zhat hG hE) zAT_ot hZ.1 hZ.2.1 hS (hl.1.trans hml.symm) dX11_like_11 dX11_like_14 dX11_like_15 dX11_like_18 dX11_like_21 (fun x h => (hout x h).elim) (by decide) (by decide +kernel) (Nat.le_of_ble_eq_true rfl) (Nat.le_of_ble_eq_true rfl) hlocks (fun t hvm hz hk => ⟨(fun i => ([(v32 1), (v32 2), (v32 3), (v32 4), (v32 5), (v32 6), (v32 7), (v32 8)] : List (Int32)).getD i 0), hpost, ⟨rfl, (fun _ => 0), (fun i => ([f66, f67] : List (Nat → Int32)).getD i (fun _ => 0)), (fun _ => (fun _ => 0)), zkeepP hP9 hk, va_K.moved hvm hK, hD9⟩, zkeepF hS hz hk⟩) hS.2.2 (Nat.le_of_ble_eq_true rfl) (Nat.le_of_ble_eq_true rfl)
set_option maxHeartbeats 8000000 in
set_option maxRecDepth 100000 in
theorem sL_document_0 (l : Launch) (hl0 : l.stackTraces = false) (dC : Nat → ClassId) (dI : Nat → Nat → Nat) (adK adV : Nat → Nat) (h0 : Nat) (h18 : Nat) (h19 : Nat) (h20 : Nat) (h21 : Nat) (h22 : Nat) (h69 : Nat) (h1 : Nat) (h4 : Nat) (h11 : Nat) (h23 : Nat) (h32 : Nat) (h33 : Nat) (h40 : Nat) (h48 : Nat) (h49 : Nat) (k19 : ClassId) (k20 : ClassId) (k21 : ClassId) (k22 : ClassId) (k69 : ClassId) (sz : Nat) (sp0 : Value) (lw0 : Int64) (v18 : Nat → Int32) (f19 : Nat → Int32) (f20 : Nat → Int32) (f21 : Nat → Int32) (f22 : Nat → Int32) (f69 : Nat → Int64) (x1 : Int32) (x2 : Int32) (hv18 : zR rg_Documents v18) (hf20 : zA 0 300 f20) : Met l yL_document (.codeWith yL_document cL_document 5 (some .int) [(0, 10, 13, 13)] :: zG) { frames := 9, cells := 1, slots := 6, locals := 142 } (zPc dC dI adK adV [.ref h0, .int x1, .int x2, .ref h69] sz [(h0, .inr (11, mX11 h1 h4 h11 h18 h23 h32 h33 h40 h48 h49 sp0 lw0)), (h18, .inr (0, mX0 h19 h20 h21 h22 v18)), (h19, zi k19 120 f19), (h20, zi k20 120 f20), (h21, zi k21 120 f21), (h22, zi k22 120 f22), (h69, .inl (k69, 1, .inr (.inl f69)))] [(k19, .boolean), (k20, .int), (k21, .int), (k22, .int), (k69, .long)]) (va_Qi (fun (r : Int32) (u : Nat → Int32) => (0 ≤ r.toInt ∧ r.toInt ≤ 1)) (fun (u : Nat → Int32) (t : State) => ∃ (ww : Nat → Int64) (aa : Nat → Nat → Int32) (bb : Nat → Nat → Int64), va_P (dC, dI) vwCl [(h0, .inr (11, mX11 h1 h4 h11 h18 h23 h32 h33 h40 h48 h49 sp0 lw0)), (h18, .inr (0, mX0 h19 h20 h21 h22 v18)), (h19, zi k19 120 f19), (h20, zi k20 120 f20), (h21, zi k21 120 f21), (h22, zi k22 120 f22), (h69, .inl (k69, 1, .inr (.inl (bb 0))))] t.heap ∧ va_K (dC, dI) vwCl [(k19, .boolean), (k20, .int), (k21, .int), (k22, .int), (k69, .long)] t ∧ va_D (va_A [(h0, .inr (11, mX11 h1 h4 h11 h18 h23 h32 h33 h40 h48 h49 sp0 lw0)), (h18, .inr (0, mX0 h19 h20 h21 h22 v18)), (h19, zi k19 120 f19), (h20, zi k20 120 f20), (h21, zi k21 120 f21), (h22, zi k22 120 f22), (h69, .inl (k69, 1, .inr (.inl f69)))] sz) [(h0, .inr (11, mX11 h1 h4 h11 h18 h23 h32 h33 h40 h48 h49 sp0 lw0)), (h18, .inr (0, mX0 h19 h20 h21 h22 v18)), (h19, zi k19 120 f19), (h20, zi k20 120 f20), (h21, zi k21 120 f21), (h22, zi k22 120 f22), (h69, .inl (k69, 1, .inr (.inl (bb 0))))]) (va_A [(h0, .inr (11, mX11 h1 h4 h11 h18 h23 h32 h33 h40 h48 h49 sp0 lw0)), (h18, .inr (0, mX0 h19 h20 h21 h22 v18)), (h19, zi k19 120 f19), (h20, zi k20 120 f20), (h21, zi k21 120 f21), (h22, zi k22 120 f22), (h69, .inl (k69, 1, .inr (.inl f69)))] sz)) 1 6 (va_A [(h0, .inr (11, mX11 h1 h4 h11 h18 h23 h32 h33 h40 h48 h49 sp0 lw0)), (h18, .inr (0, mX0 h19 h20 h21 h22 v18)), (h19, zi k19 120 f19), (h20, zi k20 120 f20), (h21, zi k21 120 f21), (h22, zi k22 120 f22), (h69, .inl (k69, 1, .inr (.inl f69)))] sz) := by
  refine zmet_of (vx_ofWH (cc := cL_document) (maxL := 5) (ret := (some .int)) (hh := [(0, 10, 13, 13)]) (by decide) rfl ?_)
  intro p e s m args below meth c s₁ B hml hv
  obtain ⟨rfl, hsz, hP, hK, hD0, hE, hZ⟩ := hv
  have hx := B.exec
  have hb := B.bytes
  have hr := B.returns
  have hG : ∀ w ∈ zG, w.before _ s = true := fun w h => atoms_spec (ws := (.codeWith yL_document cL_document 5 (some .int) [(0, 10, 13, 13)] :: zG)) B.pre w (List.mem_cons_of_mem _ h)
  have hown : s.vm.findClass RL = some m.cls := findClass_of_methodNamed B.named
  have hlocks := B.notSynchronized
  have htab : c.exceptionTable.toList = tableOf [(0, 10, 13, 13)] := vx_table (x := yL_document) B (atoms_spec (ws := (.codeWith yL_document cL_document 5 (some .int) [(0, 10, 13, 13)] :: zG)) B.pre _ List.mem_cons_self)
  subst hsz
  have hD := hD0.self (sz := s.heap.size)
  generalize hAe : va_A [(h0, .inr (11, mX11 h1 h4 h11 h18 h23 h32 h33 h40 h48 h49 sp0 lw0)), (h18, .inr (0, mX0 h19 h20 h21 h22 v18)), (h19, zi k19 120 f19), (h20, zi k20 120 f20), (h21, zi k21 120 f21), (h22, zi k22 120 f22), (h69, .inl (k69, 1, .inr (.inl f69)))] s.heap.size = A at hD hZ ⊢
  have hA : ∀ q : Nat, s.heap.size ≤ q → A q := fun q h => by rw [← hAe]; exact Or.inr h
  have hS : va_S A s.heap s.heap [] := va_S.rf
  have hl := lv_entry ([.ref h0, .int x1, .int x2, .ref h69]) (n := 5) (Nat.le_of_ble_eq_true rfl)
  rw [lg_entry_eq]
  generalize (lg_sl ([.ref h0, .int x1, .int x2, .ref h69]) ++ List.replicate (5 - (lg_sl ([.ref h0, .int x1, .int x2, .ref h69])).length) Slot.unset).toArray = ls at hl ⊢
  have hl : lv_has ls 5 [(0, .ref h0), (1, .int x1), (2, .int x2), (3, .ref h69)] := hl
  have b_ := zk_0
  have b_ := zk_1
  refine lv_aload_n hx hb dL_document_0 rfl (lv_at hl 3 rfl) ?_
  refine lv_iconst (v := 0) hx hb dL_document_1 (by decide) ?_
  refine lv_aload_n hx hb dL_document_2 rfl (lv_at hl 0 rfl) ?_
  refine lv_iload_n hx hb dL_document_3 rfl (lv_at hl 1 rfl) ?_
  refine lv_iload_n hx hb dL_document_4 rfl (lv_at hl 2 rfl) ?_
  have hPc := hP.sub (ws' := [(h0, .inr (11, mX11 h1 h4 h11 h18 h23 h32 h33 h40 h48 h49 sp0 lw0)), (h18, .inr (0, mX0 h19 h20 h21 h22 v18)), (h19, zi k19 120 f19), (h20, zi k20 120 f20), (h21, zi k21 120 f21), (h22, zi k22 120 f22)]) [0, 1, 2, 3, 4, 5] rfl
  have hDc := hD.sub (ws' := [(h0, .inr (11, mX11 h1 h4 h11 h18 h23 h32 h33 h40 h48 h49 sp0 lw0)), (h18, .inr (0, mX0 h19 h20 h21 h22 v18)), (h19, zi k19 120 f19), (h20, zi k20 120 f20), (h21, zi k21 120 f21), (h22, zi k22 120 f22)]) [0, 1, 2, 3, 4, 5] (by decide) rfl
  have hKc := hK.sub (tys' := [(k19, .boolean), (k20, .int), (k21, .int), (k22, .int)]) [0, 1, 2, 3] rfl
  have hFc := va_free (wc := [(h0, .inr (11, mX11 h1 h4 h11 h18 h23 h32 h33 h40 h48 h49 sp0 lw0)), (h18, .inr (0, mX0 h19 h20 h21 h22 v18)), (h19, zi k19 120 f19), (h20, zi k20 120 f20), (h21, zi k21 120 f21), (h22, zi k22 120 f22)]) hD hS hA [0, 1, 2, 3, 4, 5] rfl
  refine vx_calli (vx_runV (As := [.int x1, .int x2]) (rest := [.int 0, .ref h69]) ⟨hx, hb, hml, hown, hG⟩ (sX11_document_0 l hl0 dC dI adK adV h0 h18 h19 h20 h21 h22 h1 h4 h11 h23 h32 h33 h40 h48 h49 k19 k20 k21 k22 s.heap.size sp0 lw0 v18 f19 f20 f21 f22 x1 x2 hv18 hf20) (cwV 2 hG (zgV zv1406 zv1407 zv1408 zv129 zv1409) rfl rfl rfl (by decide +kernel) ⟨Nat.le_of_ble_eq_true rfl, Nat.le_of_ble_eq_true rfl⟩) ⟨zPc_blind, va_recv hKc hPc (ci := 11) (q0 := 0) rfl rfl, zPc_pre hPc hKc hDc hE hS hFc hZ⟩ rfl rfl hl.1 rfl (lv_room (Nat.le_of_ble_eq_true rfl)) dL_document_5 ⟨Nat.le_of_ble_eq_true rfl, Nat.le_of_ble_eq_true rfl⟩) hS (fun q _ h => hFc q h) hFc (fun q _ h => hFc q h) (fun E ce q9 x5_ t H1 locs ht hvm hpx hBX hz1 hk1 hS hce hcv hcl => ?_) (fun r5_ u5_ t H1 locs ht hvm hw hB hz1 hk1 hS => ?_)
  · skip
    obtain ⟨rfl, w5_, a5_, b5_, hP1, hK1, hD1⟩ := hBX
    rw [ht] at hP1
    obtain ⟨hP, hD⟩ := va_join (wr := [(h69, .inl (k69, 1, .inr (.inl f69)))]) (w1 := [(h0, .inr (11, mX11 h1 h4 h11 h18 h23 h32 h33 h40 h48 h49 sp0 lw0)), (h18, .inr (0, mX0 h19 h20 h21 h22 v18)), (h19, zi k19 120 f19), (h20, zi k20 120 f20), (h21, zi k21 120 f21), (h22, zi k22 120 f22)]) hP hD [0, 1, 2, 3, 4, 5] [6] rfl rfl (by decide) (by decide) hk1 hFc hP1 hD1
    have hP : va_P (dC, dI) vwCl [(h0, .inr (11, mX11 h1 h4 h11 h18 h23 h32 h33 h40 h48 h49 sp0 lw0)), (h18, .inr (0, mX0 h19 h20 h21 h22 v18)), (h19, zi k19 120 f19), (h20, zi k20 120 f20), (h21, zi k21 120 f21), (h22, zi k22 120 f22), (h69, .inl (k69, 1, .inr (.inl f69)))] H1 := hP.sub [1, 2, 3, 4, 5, 6, 0] rfl
    have hD : va_D A [(h0, .inr (11, mX11 h1 h4 h11 h18 h23 h32 h33 h40 h48 h49 sp0 lw0)), (h18, .inr (0, mX0 h19 h20 h21 h22 v18)), (h19, zi k19 120 f19), (h20, zi k20 120 f20), (h21, zi k21 120 f21), (h22, zi k22 120 f22), (h69, .inl (k69, 1, .inr (.inl f69)))] := hD.sub [1, 2, 3, 4, 5, 6, 0] (by decide) rfl
    clear hz1
    refine z_catch (x := _) (suf := []) hown htab (by decide) (by decide) (hG _ zv1405) (va_Nw.use rfl (zE_castI hE)) hce hcv hcl ?_
    refine W.eq (g2 := F0 m 13 ls [.ref q9]) rfl ?_
    generalize H1 = H at hP hS ⊢
    refine lv_astore (lv' := [(4, .ref q9), (0, .ref h0), (1, .int x1), (2, .int x2), (3, .ref h69)]) hx hb dL_document_13 hl (by decide) rfl (fun ls hl => ?_)
    refine lv_iconst (v := 1) hx hb dL_document_15 (by decide) ?_
    refine W.widen (k := 1) (n := 6) (by decide) (by decide) ?_
    have hpost : (0 ≤ (1 : Int32).toInt ∧ (1 : Int32).toInt ≤ 1) := (by first | with_reducible assumption | exact ⟨by omega, by omega⟩)
    have hP9 : va_P (dC, dI) vwCl [(h0, .inr (11, mX11 h1 h4 h11 h18 h23 h32 h33 h40 h48 h49 sp0 lw0)), (h18, .inr (0, mX0 h19 h20 h21 h22 v18)), (h19, zi k19 120 f19), (h20, zi k20 120 f20), (h21, zi k21 120 f21), (h22, zi k22 120 f22), (h69, .inl (k69, 1, .inr (.inl f69)))] H := hP
    have hD9 : va_D A [(h0, .inr (11, mX11 h1 h4 h11 h18 h23 h32 h33 h40 h48 h49 sp0 lw0)), (h18, .inr (0, mX0 h19 h20 h21 h22 v18)), (h19, zi k19 120 f19), (h20, zi k20 120 f20), (h21, zi k21 120 f21), (h22, zi k22 120 f22), (h69, .inl (k69, 1, .inr (.inl f69)))] := hD
    exact vx_ret (W.iret (v := 1) hx hb hr (fun t ht hW => ⟨⟨1, (fun _ => 0), rfl, hpost, (fun _ => 0), (fun _ => (fun _ => 0)), (fun i => ([f69] : List (Nat → Int64)).getD i (fun _ => 0)), by rw [ht]; exact hP9, va_K.moved hW.alike hK, hD9⟩, hS.F ht⟩) hS.2.2 dL_document_16)
  · skip
    obtain ⟨w5_, a5_, b5_, hP1, hK1, hD1⟩ := hB
    rw [ht] at hP1
    obtain ⟨hP, hD⟩ := va_join (wr := [(h69, .inl (k69, 1, .inr (.inl f69)))]) (w1 := [(h0, .inr (11, mX11 h1 h4 h11 h18 h23 h32 h33 h40 h48 h49 sp0 lw0)), (h18, .inr (0, mX0 h19 h20 h21 h22 v18)), (h19, zi k19 120 f19), (h20, zi k20 120 f20), (h21, zi k21 120 f21), (h22, zi k22 120 f22)]) hP hD [0, 1, 2, 3, 4, 5] [6] rfl rfl (by decide) (by decide) hk1 hFc hP1 hD1
    have hP : va_P (dC, dI) vwCl [(h0, .inr (11, mX11 h1 h4 h11 h18 h23 h32 h33 h40 h48 h49 sp0 lw0)), (h18, .inr (0, mX0 h19 h20 h21 h22 v18)), (h19, zi k19 120 f19), (h20, zi k20 120 f20), (h21, zi k21 120 f21), (h22, zi k22 120 f22), (h69, .inl (k69, 1, .inr (.inl f69)))] H1 := hP.sub [1, 2, 3, 4, 5, 6, 0] rfl
    have hD : va_D A [(h0, .inr (11, mX11 h1 h4 h11 h18 h23 h32 h33 h40 h48 h49 sp0 lw0)), (h18, .inr (0, mX0 h19 h20 h21 h22 v18)), (h19, zi k19 120 f19), (h20, zi k20 120 f20), (h21, zi k21 120 f21), (h22, zi k22 120 f22), (h69, .inl (k69, 1, .inr (.inl f69)))] := hD.sub [1, 2, 3, 4, 5, 6, 0] (by decide) rfl
    generalize H1 = H at hP hS ⊢
    clear hz1
    refine lv_i2l hx hb dL_document_8 rfl ?_
    refine lv_topl (fun y_8 e_y_8 => ?_)
    refine va_last hx hb hK hP hD hS 6 4 rfl rfl (zin_lit (by decide)) dL_document_9 (fun H locs hP hD hS => ?_)
    obtain ⟨f_9, e_f_9⟩ : ∃ z : Nat → Int64, z = vp_updL f69 (0 : Int32).toNatClampNeg y_8 := ⟨_, rfl⟩
    have hP : va_P (dC, dI) vwCl [(h0, .inr (11, mX11 h1 h4 h11 h18 h23 h32 h33 h40 h48 h49 sp0 lw0)), (h18, .inr (0, mX0 h19 h20 h21 h22 v18)), (h19, zi k19 120 f19), (h20, zi k20 120 f20), (h21, zi k21 120 f21), (h22, zi k22 120 f22), (h69, .inl (k69, 1, .inr (.inl f_9)))] H := by rw [e_f_9]; exact hP
    have hD : va_D A [(h0, .inr (11, mX11 h1 h4 h11 h18 h23 h32 h33 h40 h48 h49 sp0 lw0)), (h18, .inr (0, mX0 h19 h20 h21 h22 v18)), (h19, zi k19 120 f19), (h20, zi k20 120 f20), (h21, zi k21 120 f21), (h22, zi k22 120 f22), (h69, .inl (k69, 1, .inr (.inl f_9)))] := by rw [e_f_9]; exact hD
    refine lv_goto (tgt := 17) hx hb dL_document_10 (by decide) ?_
    refine lv_iconst (v := 0) hx hb dL_document_17 (by decide) ?_
    refine W.widen (k := 1) (n := 6) (by decide) (by decide) ?_
    have hpost : (0 ≤ (0 : Int32).toInt ∧ (0 : Int32).toInt ≤ 1) := (by first | with_reducible assumption | exact ⟨by omega, by omega⟩)
    have hP9 : va_P (dC, dI) vwCl [(h0, .inr (11, mX11 h1 h4 h11 h18 h23 h32 h33 h40 h48 h49 sp0 lw0)), (h18, .inr (0, mX0 h19 h20 h21 h22 v18)), (h19, zi k19 120 f19), (h20, zi k20 120 f20), (h21, zi k21 120 f21), (h22, zi k22 120 f22), (h69, .inl (k69, 1, .inr (.inl f_9)))] H := hP
    have hD9 : va_D A [(h0, .inr (11, mX11 h1 h4 h11 h18 h23 h32 h33 h40 h48 h49 sp0 lw0)), (h18, .inr (0, mX0 h19 h20 h21 h22 v18)), (h19, zi k19 120 f19), (h20, zi k20 120 f20), (h21, zi k21 120 f21), (h22, zi k22 120 f22), (h69, .inl (k69, 1, .inr (.inl f_9)))] := hD
    exact vx_ret (W.iret (v := 0) hx hb hr (fun t ht hW => ⟨⟨0, (fun _ => 0), rfl, hpost, (fun _ => 0), (fun _ => (fun _ => 0)), (fun i => ([f_9] : List (Nat → Int64)).getD i (fun _ => 0)), by rw [ht]; exact hP9, va_K.moved hW.alike hK, hD9⟩, hS.F ht⟩) hS.2.2 dL_document_18)
set_option maxHeartbeats 8000000 in
set_option maxRecDepth 100000 in
theorem sL_bit_0 (l : Launch) (hl0 : l.stackTraces = false) (dC : Nat → ClassId) (dI : Nat → Nat → Nat) (adK adV : Nat → Nat) (h0 : Nat) (h4 : Nat) (h5 : Nat) (h6 : Nat) (h7 : Nat) (h23 : Nat) (h29 : Nat) (h27 : Nat) (h25 : Nat) (h24 : Nat) (h26 : Nat) (h69 : Nat) (h1 : Nat) (h11 : Nat) (h18 : Nat) (h32 : Nat) (h33 : Nat) (h40 : Nat) (h48 : Nat) (h49 : Nat) (h8 : Nat) (h9 : Nat) (h10 : Nat) (h28 : Nat) (h30 : Nat) (h31 : Nat) (k5 : ClassId) (k6 : ClassId) (k7 : ClassId) (k29 : ClassId) (k27 : ClassId) (k25 : ClassId) (k24 : ClassId) (k26 : ClassId) (k69 : ClassId) (sz : Nat) (sp0 : Value) (lw0 : Int64) (v4 : Nat → Int32) (f5 : Nat → Int64) (f6 : Nat → Int32) (f7 : Nat → Int32) (v23 : Nat → Int32) (f29 : Nat → Int32) (f27 : Nat → Int32) (f25 : Nat → Int32) (f24 : Nat → Int32) (f26 : Nat → Int32) (f69 : Nat → Int64) (x1 : Int32) (hv4 : zR rg_Words400 v4) (hf6 : zA 0 399 f6) (hf7 : zA (-1) 399 f7) (hv23 : zR rg_Postings v23) (hf25 : zA 0 1250 f25) : Met l yL_bit (.codeWith yL_bit cL_bit 4 (some .int) [(0, 9, 12, 13)] :: zG) { frames := 9, cells := 1, slots := 6, locals := 142 } (zPc dC dI adK adV [.ref h0, .int x1, .ref h69] sz [(h0, .inr (11, mX11 h1 h4 h11 h18 h23 h32 h33 h40 h48 h49 sp0 lw0)), (h4, .inr (10, mX10 h5 h6 h7 h8 h9 h10 v4)), (h5, .inl (k5, 400, .inr (.inl f5))), (h6, zi k6 400 f6), (h7, zi k7 400 f7), (h23, .inr (6, mX6 h24 h25 h26 h27 h28 h29 h30 h31 v23)), (h29, zi k29 400 f29), (h27, zi k27 400 f27), (h25, zi k25 833 f25), (h24, zi k24 1250 f24), (h26, zi k26 833 f26), (h69, .inl (k69, 1, .inr (.inl f69)))] [(k5, .long), (k6, .int), (k7, .int), (k29, .int), (k27, .int), (k25, .int), (k24, .int), (k26, .int), (k69, .long)]) (va_Qi (fun (r : Int32) (u : Nat → Int32) => (0 ≤ r.toInt ∧ r.toInt ≤ 1)) (fun (u : Nat → Int32) (t : State) => ∃ (ww : Nat → Int64) (aa : Nat → Nat → Int32) (bb : Nat → Nat → Int64), va_P (dC, dI) vwCl [(h0, .inr (11, mX11 h1 h4 h11 h18 h23 h32 h33 h40 h48 h49 sp0 lw0)), (h4, .inr (10, mX10 h5 h6 h7 h8 h9 h10 v4)), (h5, .inl (k5, 400, .inr (.inl f5))), (h6, zi k6 400 f6), (h7, zi k7 400 f7), (h23, .inr (6, mX6 h24 h25 h26 h27 h28 h29 h30 h31 v23)), (h29, zi k29 400 f29), (h27, zi k27 400 f27), (h25, zi k25 833 f25), (h24, zi k24 1250 f24), (h26, zi k26 833 f26), (h69, .inl (k69, 1, .inr (.inl (bb 0))))] t.heap ∧ va_K (dC, dI) vwCl [(k5, .long), (k6, .int), (k7, .int), (k29, .int), (k27, .int), (k25, .int), (k24, .int), (k26, .int), (k69, .long)] t ∧ va_D (va_A [(h0, .inr (11, mX11 h1 h4 h11 h18 h23 h32 h33 h40 h48 h49 sp0 lw0)), (h4, .inr (10, mX10 h5 h6 h7 h8 h9 h10 v4)), (h5, .inl (k5, 400, .inr (.inl f5))), (h6, zi k6 400 f6), (h7, zi k7 400 f7), (h23, .inr (6, mX6 h24 h25 h26 h27 h28 h29 h30 h31 v23)), (h29, zi k29 400 f29), (h27, zi k27 400 f27), (h25, zi k25 833 f25), (h24, zi k24 1250 f24), (h26, zi k26 833 f26), (h69, .inl (k69, 1, .inr (.inl f69)))] sz) [(h0, .inr (11, mX11 h1 h4 h11 h18 h23 h32 h33 h40 h48 h49 sp0 lw0)), (h4, .inr (10, mX10 h5 h6 h7 h8 h9 h10 v4)), (h5, .inl (k5, 400, .inr (.inl f5))), (h6, zi k6 400 f6), (h7, zi k7 400 f7), (h23, .inr (6, mX6 h24 h25 h26 h27 h28 h29 h30 h31 v23)), (h29, zi k29 400 f29), (h27, zi k27 400 f27), (h25, zi k25 833 f25), (h24, zi k24 1250 f24), (h26, zi k26 833 f26), (h69, .inl (k69, 1, .inr (.inl (bb 0))))]) (va_A [(h0, .inr (11, mX11 h1 h4 h11 h18 h23 h32 h33 h40 h48 h49 sp0 lw0)), (h4, .inr (10, mX10 h5 h6 h7 h8 h9 h10 v4)), (h5, .inl (k5, 400, .inr (.inl f5))), (h6, zi k6 400 f6), (h7, zi k7 400 f7), (h23, .inr (6, mX6 h24 h25 h26 h27 h28 h29 h30 h31 v23)), (h29, zi k29 400 f29), (h27, zi k27 400 f27), (h25, zi k25 833 f25), (h24, zi k24 1250 f24), (h26, zi k26 833 f26), (h69, .inl (k69, 1, .inr (.inl f69)))] sz)) 1 6 (va_A [(h0, .inr (11, mX11 h1 h4 h11 h18 h23 h32 h33 h40 h48 h49 sp0 lw0)), (h4, .inr (10, mX10 h5 h6 h7 h8 h9 h10 v4)), (h5, .inl (k5, 400, .inr (.inl f5))), (h6, zi k6 400 f6), (h7, zi k7 400 f7), (h23, .inr (6, mX6 h24 h25 h26 h27 h28 h29 h30 h31 v23)), (h29, zi k29 400 f29), (h27, zi k27 400 f27), (h25, zi k25 833 f25), (h24, zi k24 1250 f24), (h26, zi k26 833 f26), (h69, .inl (k69, 1, .inr (.inl f69)))] sz) := by
  refine zmet_of (vx_ofWH (cc := cL_bit) (maxL := 4) (ret := (some .int)) (hh := [(0, 9, 12, 13)]) (by decide) rfl ?_)
  intro p e s m args below meth c s₁ B hml hv
  obtain ⟨rfl, hsz, hP, hK, hD0, hE, hZ⟩ := hv
  have hx := B.exec
  have hb := B.bytes
  have hr := B.returns
  have hG : ∀ w ∈ zG, w.before _ s = true := fun w h => atoms_spec (ws := (.codeWith yL_bit cL_bit 4 (some .int) [(0, 9, 12, 13)] :: zG)) B.pre w (List.mem_cons_of_mem _ h)
  have hown : s.vm.findClass RL = some m.cls := findClass_of_methodNamed B.named
  have hlocks := B.notSynchronized
  have htab : c.exceptionTable.toList = tableOf [(0, 9, 12, 13)] := vx_table (x := yL_bit) B (atoms_spec (ws := (.codeWith yL_bit cL_bit 4 (some .int) [(0, 9, 12, 13)] :: zG)) B.pre _ List.mem_cons_self)
  subst hsz
  have hD := hD0.self (sz := s.heap.size)
  generalize hAe : va_A [(h0, .inr (11, mX11 h1 h4 h11 h18 h23 h32 h33 h40 h48 h49 sp0 lw0)), (h4, .inr (10, mX10 h5 h6 h7 h8 h9 h10 v4)), (h5, .inl (k5, 400, .inr (.inl f5))), (h6, zi k6 400 f6), (h7, zi k7 400 f7), (h23, .inr (6, mX6 h24 h25 h26 h27 h28 h29 h30 h31 v23)), (h29, zi k29 400 f29), (h27, zi k27 400 f27), (h25, zi k25 833 f25), (h24, zi k24 1250 f24), (h26, zi k26 833 f26), (h69, .inl (k69, 1, .inr (.inl f69)))] s.heap.size = A at hD hZ ⊢
  have hA : ∀ q : Nat, s.heap.size ≤ q → A q := fun q h => by rw [← hAe]; exact Or.inr h
  have hS : va_S A s.heap s.heap [] := va_S.rf
  have hl := lv_entry ([.ref h0, .int x1, .ref h69]) (n := 4) (Nat.le_of_ble_eq_true rfl)
  rw [lg_entry_eq]
  generalize (lg_sl ([.ref h0, .int x1, .ref h69]) ++ List.replicate (4 - (lg_sl ([.ref h0, .int x1, .ref h69])).length) Slot.unset).toArray = ls at hl ⊢
  have hl : lv_has ls 4 [(0, .ref h0), (1, .int x1), (2, .ref h69)] := hl
  have b_ := zk_0
  have b_ := zk_1
  refine lv_aload_n hx hb dL_bit_0 rfl (lv_at hl 2 rfl) ?_
  refine lv_iconst (v := 0) hx hb dL_bit_1 (by decide) ?_
  refine lv_aload_n hx hb dL_bit_2 rfl (lv_at hl 0 rfl) ?_
  refine lv_iload_n hx hb dL_bit_3 rfl (lv_at hl 1 rfl) ?_
  have hPc := hP.sub (ws' := [(h0, .inr (11, mX11 h1 h4 h11 h18 h23 h32 h33 h40 h48 h49 sp0 lw0)), (h4, .inr (10, mX10 h5 h6 h7 h8 h9 h10 v4)), (h5, .inl (k5, 400, .inr (.inl f5))), (h6, zi k6 400 f6), (h7, zi k7 400 f7), (h23, .inr (6, mX6 h24 h25 h26 h27 h28 h29 h30 h31 v23)), (h29, zi k29 400 f29), (h27, zi k27 400 f27), (h25, zi k25 833 f25), (h24, zi k24 1250 f24), (h26, zi k26 833 f26)]) [0, 1, 2, 3, 4, 5, 6, 7, 8, 9, 10] rfl
  have hDc := hD.sub (ws' := [(h0, .inr (11, mX11 h1 h4 h11 h18 h23 h32 h33 h40 h48 h49 sp0 lw0)), (h4, .inr (10, mX10 h5 h6 h7 h8 h9 h10 v4)), (h5, .inl (k5, 400, .inr (.inl f5))), (h6, zi k6 400 f6), (h7, zi k7 400 f7), (h23, .inr (6, mX6 h24 h25 h26 h27 h28 h29 h30 h31 v23)), (h29, zi k29 400 f29), (h27, zi k27 400 f27), (h25, zi k25 833 f25), (h24, zi k24 1250 f24), (h26, zi k26 833 f26)]) [0, 1, 2, 3, 4, 5, 6, 7, 8, 9, 10] (by decide) rfl
  have hKc := hK.sub (tys' := [(k5, .long), (k6, .int), (k7, .int), (k29, .int), (k27, .int), (k25, .int), (k24, .int), (k26, .int)]) [0, 1, 2, 3, 4, 5, 6, 7] rfl
  have hFc := va_free (wc := [(h0, .inr (11, mX11 h1 h4 h11 h18 h23 h32 h33 h40 h48 h49 sp0 lw0)), (h4, .inr (10, mX10 h5 h6 h7 h8 h9 h10 v4)), (h5, .inl (k5, 400, .inr (.inl f5))), (h6, zi k6 400 f6), (h7, zi k7 400 f7), (h23, .inr (6, mX6 h24 h25 h26 h27 h28 h29 h30 h31 v23)), (h29, zi k29 400 f29), (h27, zi k27 400 f27), (h25, zi k25 833 f25), (h24, zi k24 1250 f24), (h26, zi k26 833 f26)]) hD hS hA [0, 1, 2, 3, 4, 5, 6, 7, 8, 9, 10] rfl
  refine vx_calli (vx_runV (As := [.int x1]) (rest := [.int 0, .ref h69]) ⟨hx, hb, hml, hown, hG⟩ (sX11_bit_0 l hl0 dC dI adK adV h0 h4 h5 h6 h7 h23 h29 h27 h25 h24 h26 h1 h11 h18 h32 h33 h40 h48 h49 h8 h9 h10 h28 h30 h31 k5 k6 k7 k29 k27 k25 k24 k26 s.heap.size sp0 lw0 v4 f5 f6 f7 v23 f29 f27 f25 f24 f26 x1 hv4 hf6 hf7 hv23 hf25) (cwV 1 hG (zgV zv1487 zv1488 zv1489 zv129 zv1490) rfl rfl rfl (by decide +kernel) ⟨Nat.le_of_ble_eq_true rfl, Nat.le_of_ble_eq_true rfl⟩) ⟨zPc_blind, va_recv hKc hPc (ci := 11) (q0 := 0) rfl rfl, zPc_pre hPc hKc hDc hE hS hFc hZ⟩ rfl rfl hl.1 rfl (lv_room (Nat.le_of_ble_eq_true rfl)) dL_bit_4 ⟨Nat.le_of_ble_eq_true rfl, Nat.le_of_ble_eq_true rfl⟩) hS (fun q _ h => hFc q h) hFc (fun q _ h => hFc q h) (fun E ce q9 x4_ t H1 locs ht hvm hpx hBX hz1 hk1 hS hce hcv hcl => ?_) (fun r4_ u4_ t H1 locs ht hvm hw hB hz1 hk1 hS => ?_)
  · skip
    obtain ⟨rfl, w4_, a4_, b4_, hP1, hK1, hD1⟩ := hBX
    rw [ht] at hP1
    obtain ⟨hP, hD⟩ := va_join (wr := [(h69, .inl (k69, 1, .inr (.inl f69)))]) (w1 := [(h0, .inr (11, mX11 h1 h4 h11 h18 h23 h32 h33 h40 h48 h49 sp0 lw0)), (h4, .inr (10, mX10 h5 h6 h7 h8 h9 h10 v4)), (h5, .inl (k5, 400, .inr (.inl f5))), (h6, zi k6 400 f6), (h7, zi k7 400 f7), (h23, .inr (6, mX6 h24 h25 h26 h27 h28 h29 h30 h31 v23)), (h29, zi k29 400 f29), (h27, zi k27 400 f27), (h25, zi k25 833 f25), (h24, zi k24 1250 f24), (h26, zi k26 833 f26)]) hP hD [0, 1, 2, 3, 4, 5, 6, 7, 8, 9, 10] [11] rfl rfl (by decide) (by decide) hk1 hFc hP1 hD1
    have hP : va_P (dC, dI) vwCl [(h0, .inr (11, mX11 h1 h4 h11 h18 h23 h32 h33 h40 h48 h49 sp0 lw0)), (h4, .inr (10, mX10 h5 h6 h7 h8 h9 h10 v4)), (h5, .inl (k5, 400, .inr (.inl f5))), (h6, zi k6 400 f6), (h7, zi k7 400 f7), (h23, .inr (6, mX6 h24 h25 h26 h27 h28 h29 h30 h31 v23)), (h29, zi k29 400 f29), (h27, zi k27 400 f27), (h25, zi k25 833 f25), (h24, zi k24 1250 f24), (h26, zi k26 833 f26), (h69, .inl (k69, 1, .inr (.inl f69)))] H1 := hP.sub [1, 2, 3, 4, 5, 6, 7, 8, 9, 10, 11, 0] rfl
    have hD : va_D A [(h0, .inr (11, mX11 h1 h4 h11 h18 h23 h32 h33 h40 h48 h49 sp0 lw0)), (h4, .inr (10, mX10 h5 h6 h7 h8 h9 h10 v4)), (h5, .inl (k5, 400, .inr (.inl f5))), (h6, zi k6 400 f6), (h7, zi k7 400 f7), (h23, .inr (6, mX6 h24 h25 h26 h27 h28 h29 h30 h31 v23)), (h29, zi k29 400 f29), (h27, zi k27 400 f27), (h25, zi k25 833 f25), (h24, zi k24 1250 f24), (h26, zi k26 833 f26), (h69, .inl (k69, 1, .inr (.inl f69)))] := hD.sub [1, 2, 3, 4, 5, 6, 7, 8, 9, 10, 11, 0] (by decide) rfl
    clear hz1
    refine z_catch (x := _) (suf := []) hown htab (by decide) (by decide) (hG _ zv1405) (va_Nw.use rfl (zE_castI hE)) hce hcv hcl ?_
    refine W.eq (g2 := F0 m 12 ls [.ref q9]) rfl ?_
    generalize H1 = H at hP hS ⊢
    refine lv_astore_n (lv' := [(3, .ref q9), (0, .ref h0), (1, .int x1), (2, .ref h69)]) hx hb dL_bit_12 rfl hl (by decide) rfl (fun ls hl => ?_)
    refine lv_iconst (v := 1) hx hb dL_bit_13 (by decide) ?_
    refine W.widen (k := 1) (n := 6) (by decide) (by decide) ?_
    have hpost : (0 ≤ (1 : Int32).toInt ∧ (1 : Int32).toInt ≤ 1) := (by first | with_reducible assumption | exact ⟨by omega, by omega⟩)
    have hP9 : va_P (dC, dI) vwCl [(h0, .inr (11, mX11 h1 h4 h11 h18 h23 h32 h33 h40 h48 h49 sp0 lw0)), (h4, .inr (10, mX10 h5 h6 h7 h8 h9 h10 v4)), (h5, .inl (k5, 400, .inr (.inl f5))), (h6, zi k6 400 f6), (h7, zi k7 400 f7), (h23, .inr (6, mX6 h24 h25 h26 h27 h28 h29 h30 h31 v23)), (h29, zi k29 400 f29), (h27, zi k27 400 f27), (h25, zi k25 833 f25), (h24, zi k24 1250 f24), (h26, zi k26 833 f26), (h69, .inl (k69, 1, .inr (.inl f69)))] H := hP
    have hD9 : va_D A [(h0, .inr (11, mX11 h1 h4 h11 h18 h23 h32 h33 h40 h48 h49 sp0 lw0)), (h4, .inr (10, mX10 h5 h6 h7 h8 h9 h10 v4)), (h5, .inl (k5, 400, .inr (.inl f5))), (h6, zi k6 400 f6), (h7, zi k7 400 f7), (h23, .inr (6, mX6 h24 h25 h26 h27 h28 h29 h30 h31 v23)), (h29, zi k29 400 f29), (h27, zi k27 400 f27), (h25, zi k25 833 f25), (h24, zi k24 1250 f24), (h26, zi k26 833 f26), (h69, .inl (k69, 1, .inr (.inl f69)))] := hD
    exact vx_ret (W.iret (v := 1) hx hb hr (fun t ht hW => ⟨⟨1, (fun _ => 0), rfl, hpost, (fun _ => 0), (fun _ => (fun _ => 0)), (fun i => ([f69] : List (Nat → Int64)).getD i (fun _ => 0)), by rw [ht]; exact hP9, va_K.moved hW.alike hK, hD9⟩, hS.F ht⟩) hS.2.2 dL_bit_14)
  · skip
    replace hw : (0 ≤ r4_.toInt ∧ r4_.toInt ≤ 1) := hw
    have b_ := hw
    obtain ⟨w4_, a4_, b4_, hP1, hK1, hD1⟩ := hB
    rw [ht] at hP1
    obtain ⟨hP, hD⟩ := va_join (wr := [(h69, .inl (k69, 1, .inr (.inl f69)))]) (w1 := [(h0, .inr (11, mX11 h1 h4 h11 h18 h23 h32 h33 h40 h48 h49 sp0 lw0)), (h4, .inr (10, mX10 h5 h6 h7 h8 h9 h10 v4)), (h5, .inl (k5, 400, .inr (.inl f5))), (h6, zi k6 400 f6), (h7, zi k7 400 f7), (h23, .inr (6, mX6 h24 h25 h26 h27 h28 h29 h30 h31 v23)), (h29, zi k29 400 f29), (h27, zi k27 400 f27), (h25, zi k25 833 f25), (h24, zi k24 1250 f24), (h26, zi k26 833 f26)]) hP hD [0, 1, 2, 3, 4, 5, 6, 7, 8, 9, 10] [11] rfl rfl (by decide) (by decide) hk1 hFc hP1 hD1
    have hP : va_P (dC, dI) vwCl [(h0, .inr (11, mX11 h1 h4 h11 h18 h23 h32 h33 h40 h48 h49 sp0 lw0)), (h4, .inr (10, mX10 h5 h6 h7 h8 h9 h10 v4)), (h5, .inl (k5, 400, .inr (.inl f5))), (h6, zi k6 400 f6), (h7, zi k7 400 f7), (h23, .inr (6, mX6 h24 h25 h26 h27 h28 h29 h30 h31 v23)), (h29, zi k29 400 f29), (h27, zi k27 400 f27), (h25, zi k25 833 f25), (h24, zi k24 1250 f24), (h26, zi k26 833 f26), (h69, .inl (k69, 1, .inr (.inl f69)))] H1 := hP.sub [1, 2, 3, 4, 5, 6, 7, 8, 9, 10, 11, 0] rfl
    have hD : va_D A [(h0, .inr (11, mX11 h1 h4 h11 h18 h23 h32 h33 h40 h48 h49 sp0 lw0)), (h4, .inr (10, mX10 h5 h6 h7 h8 h9 h10 v4)), (h5, .inl (k5, 400, .inr (.inl f5))), (h6, zi k6 400 f6), (h7, zi k7 400 f7), (h23, .inr (6, mX6 h24 h25 h26 h27 h28 h29 h30 h31 v23)), (h29, zi k29 400 f29), (h27, zi k27 400 f27), (h25, zi k25 833 f25), (h24, zi k24 1250 f24), (h26, zi k26 833 f26), (h69, .inl (k69, 1, .inr (.inl f69)))] := hD.sub [1, 2, 3, 4, 5, 6, 7, 8, 9, 10, 11, 0] (by decide) rfl
    generalize H1 = H at hP hS ⊢
    clear hz1
    refine lv_i2l hx hb dL_bit_7 rfl ?_
    refine lv_topl (fun y_7 e_y_7 => ?_)
    refine va_last hx hb hK hP hD hS 11 8 rfl rfl (zin_lit (by decide)) dL_bit_8 (fun H locs hP hD hS => ?_)
    obtain ⟨f_8, e_f_8⟩ : ∃ z : Nat → Int64, z = vp_updL f69 (0 : Int32).toNatClampNeg y_7 := ⟨_, rfl⟩
    have hP : va_P (dC, dI) vwCl [(h0, .inr (11, mX11 h1 h4 h11 h18 h23 h32 h33 h40 h48 h49 sp0 lw0)), (h4, .inr (10, mX10 h5 h6 h7 h8 h9 h10 v4)), (h5, .inl (k5, 400, .inr (.inl f5))), (h6, zi k6 400 f6), (h7, zi k7 400 f7), (h23, .inr (6, mX6 h24 h25 h26 h27 h28 h29 h30 h31 v23)), (h29, zi k29 400 f29), (h27, zi k27 400 f27), (h25, zi k25 833 f25), (h24, zi k24 1250 f24), (h26, zi k26 833 f26), (h69, .inl (k69, 1, .inr (.inl f_8)))] H := by rw [e_f_8]; exact hP
    have hD : va_D A [(h0, .inr (11, mX11 h1 h4 h11 h18 h23 h32 h33 h40 h48 h49 sp0 lw0)), (h4, .inr (10, mX10 h5 h6 h7 h8 h9 h10 v4)), (h5, .inl (k5, 400, .inr (.inl f5))), (h6, zi k6 400 f6), (h7, zi k7 400 f7), (h23, .inr (6, mX6 h24 h25 h26 h27 h28 h29 h30 h31 v23)), (h29, zi k29 400 f29), (h27, zi k27 400 f27), (h25, zi k25 833 f25), (h24, zi k24 1250 f24), (h26, zi k26 833 f26), (h69, .inl (k69, 1, .inr (.inl f_8)))] := by rw [e_f_8]; exact hD
    refine lv_goto (tgt := 15) hx hb dL_bit_9 (by decide) ?_
    refine lv_iconst (v := 0) hx hb dL_bit_15 (by decide) ?_
    refine W.widen (k := 1) (n := 6) (by decide) (by decide) ?_
    have hpost : (0 ≤ (0 : Int32).toInt ∧ (0 : Int32).toInt ≤ 1) := (by first | with_reducible assumption | exact ⟨by omega, by omega⟩)
    have hP9 : va_P (dC, dI) vwCl [(h0, .inr (11, mX11 h1 h4 h11 h18 h23 h32 h33 h40 h48 h49 sp0 lw0)), (h4, .inr (10, mX10 h5 h6 h7 h8 h9 h10 v4)), (h5, .inl (k5, 400, .inr (.inl f5))), (h6, zi k6 400 f6), (h7, zi k7 400 f7), (h23, .inr (6, mX6 h24 h25 h26 h27 h28 h29 h30 h31 v23)), (h29, zi k29 400 f29), (h27, zi k27 400 f27), (h25, zi k25 833 f25), (h24, zi k24 1250 f24), (h26, zi k26 833 f26), (h69, .inl (k69, 1, .inr (.inl f_8)))] H := hP
    have hD9 : va_D A [(h0, .inr (11, mX11 h1 h4 h11 h18 h23 h32 h33 h40 h48 h49 sp0 lw0)), (h4, .inr (10, mX10 h5 h6 h7 h8 h9 h10 v4)), (h5, .inl (k5, 400, .inr (.inl f5))), (h6, zi k6 400 f6), (h7, zi k7 400 f7), (h23, .inr (6, mX6 h24 h25 h26 h27 h28 h29 h30 h31 v23)), (h29, zi k29 400 f29), (h27, zi k27 400 f27), (h25, zi k25 833 f25), (h24, zi k24 1250 f24), (h26, zi k26 833 f26), (h69, .inl (k69, 1, .inr (.inl f_8)))] := hD
    exact vx_ret (W.iret (v := 0) hx hb hr (fun t ht hW => ⟨⟨0, (fun _ => 0), rfl, hpost, (fun _ => 0), (fun _ => (fun _ => 0)), (fun i => ([f_8] : List (Nat → Int64)).getD i (fun _ => 0)), by rw [ht]; exact hP9, va_K.moved hW.alike hK, hD9⟩, hS.F ht⟩) hS.2.2 dL_bit_16)
set_option maxHeartbeats 8000000 in
set_option maxRecDepth 100000 in
theorem sL_letter_0 (l : Launch) (hl0 : l.stackTraces = false) (dC : Nat → ClassId) (dI : Nat → Nat → Nat) (adK adV : Nat → Nat) (h0 : Nat) (h4 : Nat) (h5 : Nat) (h69 : Nat) (h1 : Nat) (h11 : Nat) (h18 : Nat) (h23 : Nat) (h32 : Nat) (h33 : Nat) (h40 : Nat) (h48 : Nat) (h49 : Nat) (h6 : Nat) (h7 : Nat) (h8 : Nat) (h9 : Nat) (h10 : Nat) (k5 : ClassId) (k69 : ClassId) (sz : Nat) (sp0 : Value) (lw0 : Int64) (v4 : Nat → Int32) (f5 : Nat → Int64) (f69 : Nat → Int64) (x1 : Int32) (x2 : Int32) (hv4 : zR rg_Words400 v4) : Met l yL_letter (.codeWith yL_letter cL_letter 5 (some .int) [(0, 10, 13, 13)] :: zG) { frames := 9, cells := 1, slots := 6, locals := 142 } (zPc dC dI adK adV [.ref h0, .int x1, .int x2, .ref h69] sz [(h0, .inr (11, mX11 h1 h4 h11 h18 h23 h32 h33 h40 h48 h49 sp0 lw0)), (h4, .inr (10, mX10 h5 h6 h7 h8 h9 h10 v4)), (h5, .inl (k5, 400, .inr (.inl f5))), (h69, .inl (k69, 1, .inr (.inl f69)))] [(k5, .long), (k69, .long)]) (va_Qi (fun (r : Int32) (u : Nat → Int32) => (0 ≤ r.toInt ∧ r.toInt ≤ 1)) (fun (u : Nat → Int32) (t : State) => ∃ (ww : Nat → Int64) (aa : Nat → Nat → Int32) (bb : Nat → Nat → Int64), va_P (dC, dI) vwCl [(h0, .inr (11, mX11 h1 h4 h11 h18 h23 h32 h33 h40 h48 h49 sp0 lw0)), (h4, .inr (10, mX10 h5 h6 h7 h8 h9 h10 v4)), (h5, .inl (k5, 400, .inr (.inl f5))), (h69, .inl (k69, 1, .inr (.inl (bb 0))))] t.heap ∧ va_K (dC, dI) vwCl [(k5, .long), (k69, .long)] t ∧ va_D (va_A [(h0, .inr (11, mX11 h1 h4 h11 h18 h23 h32 h33 h40 h48 h49 sp0 lw0)), (h4, .inr (10, mX10 h5 h6 h7 h8 h9 h10 v4)), (h5, .inl (k5, 400, .inr (.inl f5))), (h69, .inl (k69, 1, .inr (.inl f69)))] sz) [(h0, .inr (11, mX11 h1 h4 h11 h18 h23 h32 h33 h40 h48 h49 sp0 lw0)), (h4, .inr (10, mX10 h5 h6 h7 h8 h9 h10 v4)), (h5, .inl (k5, 400, .inr (.inl f5))), (h69, .inl (k69, 1, .inr (.inl (bb 0))))]) (va_A [(h0, .inr (11, mX11 h1 h4 h11 h18 h23 h32 h33 h40 h48 h49 sp0 lw0)), (h4, .inr (10, mX10 h5 h6 h7 h8 h9 h10 v4)), (h5, .inl (k5, 400, .inr (.inl f5))), (h69, .inl (k69, 1, .inr (.inl f69)))] sz)) 1 6 (va_A [(h0, .inr (11, mX11 h1 h4 h11 h18 h23 h32 h33 h40 h48 h49 sp0 lw0)), (h4, .inr (10, mX10 h5 h6 h7 h8 h9 h10 v4)), (h5, .inl (k5, 400, .inr (.inl f5))), (h69, .inl (k69, 1, .inr (.inl f69)))] sz) := by
  refine zmet_of (vx_ofWH (cc := cL_letter) (maxL := 5) (ret := (some .int)) (hh := [(0, 10, 13, 13)]) (by decide) rfl ?_)
  intro p e s m args below meth c s₁ B hml hv
  obtain ⟨rfl, hsz, hP, hK, hD0, hE, hZ⟩ := hv
  have hx := B.exec
  have hb := B.bytes
  have hr := B.returns
  have hG : ∀ w ∈ zG, w.before _ s = true := fun w h => atoms_spec (ws := (.codeWith yL_letter cL_letter 5 (some .int) [(0, 10, 13, 13)] :: zG)) B.pre w (List.mem_cons_of_mem _ h)
  have hown : s.vm.findClass RL = some m.cls := findClass_of_methodNamed B.named
  have hlocks := B.notSynchronized
  have htab : c.exceptionTable.toList = tableOf [(0, 10, 13, 13)] := vx_table (x := yL_letter) B (atoms_spec (ws := (.codeWith yL_letter cL_letter 5 (some .int) [(0, 10, 13, 13)] :: zG)) B.pre _ List.mem_cons_self)
  subst hsz
  have hD := hD0.self (sz := s.heap.size)
  generalize hAe : va_A [(h0, .inr (11, mX11 h1 h4 h11 h18 h23 h32 h33 h40 h48 h49 sp0 lw0)), (h4, .inr (10, mX10 h5 h6 h7 h8 h9 h10 v4)), (h5, .inl (k5, 400, .inr (.inl f5))), (h69, .inl (k69, 1, .inr (.inl f69)))] s.heap.size = A at hD hZ ⊢
  have hA : ∀ q : Nat, s.heap.size ≤ q → A q := fun q h => by rw [← hAe]; exact Or.inr h
  have hS : va_S A s.heap s.heap [] := va_S.rf
  have hl := lv_entry ([.ref h0, .int x1, .int x2, .ref h69]) (n := 5) (Nat.le_of_ble_eq_true rfl)
  rw [lg_entry_eq]
  generalize (lg_sl ([.ref h0, .int x1, .int x2, .ref h69]) ++ List.replicate (5 - (lg_sl ([.ref h0, .int x1, .int x2, .ref h69])).length) Slot.unset).toArray = ls at hl ⊢
  have hl : lv_has ls 5 [(0, .ref h0), (1, .int x1), (2, .int x2), (3, .ref h69)] := hl
  have b_ := zk_0
  have b_ := zk_1
  refine lv_aload_n hx hb dL_letter_0 rfl (lv_at hl 3 rfl) ?_
  refine lv_iconst (v := 0) hx hb dL_letter_1 (by decide) ?_
  refine lv_aload_n hx hb dL_letter_2 rfl (lv_at hl 0 rfl) ?_
  refine lv_iload_n hx hb dL_letter_3 rfl (lv_at hl 1 rfl) ?_
  refine lv_iload_n hx hb dL_letter_4 rfl (lv_at hl 2 rfl) ?_
  have hPc := hP.sub (ws' := [(h0, .inr (11, mX11 h1 h4 h11 h18 h23 h32 h33 h40 h48 h49 sp0 lw0)), (h4, .inr (10, mX10 h5 h6 h7 h8 h9 h10 v4)), (h5, .inl (k5, 400, .inr (.inl f5)))]) [0, 1, 2] rfl
  have hDc := hD.sub (ws' := [(h0, .inr (11, mX11 h1 h4 h11 h18 h23 h32 h33 h40 h48 h49 sp0 lw0)), (h4, .inr (10, mX10 h5 h6 h7 h8 h9 h10 v4)), (h5, .inl (k5, 400, .inr (.inl f5)))]) [0, 1, 2] (by decide) rfl
  have hKc := hK.sub (tys' := [(k5, .long)]) [0] rfl
  have hFc := va_free (wc := [(h0, .inr (11, mX11 h1 h4 h11 h18 h23 h32 h33 h40 h48 h49 sp0 lw0)), (h4, .inr (10, mX10 h5 h6 h7 h8 h9 h10 v4)), (h5, .inl (k5, 400, .inr (.inl f5)))]) hD hS hA [0, 1, 2] rfl
  refine vx_calli (vx_runV (As := [.int x1, .int x2]) (rest := [.int 0, .ref h69]) ⟨hx, hb, hml, hown, hG⟩ (sX11_letter_0 l hl0 dC dI adK adV h0 h4 h5 h1 h11 h18 h23 h32 h33 h40 h48 h49 h6 h7 h8 h9 h10 k5 s.heap.size sp0 lw0 v4 f5 x1 x2 hv4) (cwV 2 hG (zgV zv1502 zv1503 zv1504 zv129 zv1505) rfl rfl rfl (by decide +kernel) ⟨Nat.le_of_ble_eq_true rfl, Nat.le_of_ble_eq_true rfl⟩) ⟨zPc_blind, va_recv hKc hPc (ci := 11) (q0 := 0) rfl rfl, zPc_pre hPc hKc hDc hE hS hFc hZ⟩ rfl rfl hl.1 rfl (lv_room (Nat.le_of_ble_eq_true rfl)) dL_letter_5 ⟨Nat.le_of_ble_eq_true rfl, Nat.le_of_ble_eq_true rfl⟩) hS (fun q _ h => hFc q h) hFc (fun q _ h => hFc q h) (fun E ce q9 x5_ t H1 locs ht hvm hpx hBX hz1 hk1 hS hce hcv hcl => ?_) (fun r5_ u5_ t H1 locs ht hvm hw hB hz1 hk1 hS => ?_)
  · skip
    obtain ⟨rfl, w5_, a5_, b5_, hP1, hK1, hD1⟩ := hBX
    rw [ht] at hP1
    obtain ⟨hP, hD⟩ := va_join (wr := [(h69, .inl (k69, 1, .inr (.inl f69)))]) (w1 := [(h0, .inr (11, mX11 h1 h4 h11 h18 h23 h32 h33 h40 h48 h49 sp0 lw0)), (h4, .inr (10, mX10 h5 h6 h7 h8 h9 h10 v4)), (h5, .inl (k5, 400, .inr (.inl f5)))]) hP hD [0, 1, 2] [3] rfl rfl (by decide) (by decide) hk1 hFc hP1 hD1
    have hP : va_P (dC, dI) vwCl [(h0, .inr (11, mX11 h1 h4 h11 h18 h23 h32 h33 h40 h48 h49 sp0 lw0)), (h4, .inr (10, mX10 h5 h6 h7 h8 h9 h10 v4)), (h5, .inl (k5, 400, .inr (.inl f5))), (h69, .inl (k69, 1, .inr (.inl f69)))] H1 := hP.sub [1, 2, 3, 0] rfl
    have hD : va_D A [(h0, .inr (11, mX11 h1 h4 h11 h18 h23 h32 h33 h40 h48 h49 sp0 lw0)), (h4, .inr (10, mX10 h5 h6 h7 h8 h9 h10 v4)), (h5, .inl (k5, 400, .inr (.inl f5))), (h69, .inl (k69, 1, .inr (.inl f69)))] := hD.sub [1, 2, 3, 0] (by decide) rfl
    clear hz1
    refine z_catch (x := _) (suf := []) hown htab (by decide) (by decide) (hG _ zv1405) (va_Nw.use rfl (zE_castI hE)) hce hcv hcl ?_
    refine W.eq (g2 := F0 m 13 ls [.ref q9]) rfl ?_
    generalize H1 = H at hP hS ⊢
    refine lv_astore (lv' := [(4, .ref q9), (0, .ref h0), (1, .int x1), (2, .int x2), (3, .ref h69)]) hx hb dL_letter_13 hl (by decide) rfl (fun ls hl => ?_)
    refine lv_iconst (v := 1) hx hb dL_letter_15 (by decide) ?_
    refine W.widen (k := 1) (n := 6) (by decide) (by decide) ?_
    have hpost : (0 ≤ (1 : Int32).toInt ∧ (1 : Int32).toInt ≤ 1) := (by first | with_reducible assumption | exact ⟨by omega, by omega⟩)
    have hP9 : va_P (dC, dI) vwCl [(h0, .inr (11, mX11 h1 h4 h11 h18 h23 h32 h33 h40 h48 h49 sp0 lw0)), (h4, .inr (10, mX10 h5 h6 h7 h8 h9 h10 v4)), (h5, .inl (k5, 400, .inr (.inl f5))), (h69, .inl (k69, 1, .inr (.inl f69)))] H := hP
    have hD9 : va_D A [(h0, .inr (11, mX11 h1 h4 h11 h18 h23 h32 h33 h40 h48 h49 sp0 lw0)), (h4, .inr (10, mX10 h5 h6 h7 h8 h9 h10 v4)), (h5, .inl (k5, 400, .inr (.inl f5))), (h69, .inl (k69, 1, .inr (.inl f69)))] := hD
    exact vx_ret (W.iret (v := 1) hx hb hr (fun t ht hW => ⟨⟨1, (fun _ => 0), rfl, hpost, (fun _ => 0), (fun _ => (fun _ => 0)), (fun i => ([f69] : List (Nat → Int64)).getD i (fun _ => 0)), by rw [ht]; exact hP9, va_K.moved hW.alike hK, hD9⟩, hS.F ht⟩) hS.2.2 dL_letter_16)
  · skip
    obtain ⟨w5_, a5_, b5_, hP1, hK1, hD1⟩ := hB
    rw [ht] at hP1
    obtain ⟨hP, hD⟩ := va_join (wr := [(h69, .inl (k69, 1, .inr (.inl f69)))]) (w1 := [(h0, .inr (11, mX11 h1 h4 h11 h18 h23 h32 h33 h40 h48 h49 sp0 lw0)), (h4, .inr (10, mX10 h5 h6 h7 h8 h9 h10 v4)), (h5, .inl (k5, 400, .inr (.inl f5)))]) hP hD [0, 1, 2] [3] rfl rfl (by decide) (by decide) hk1 hFc hP1 hD1
    have hP : va_P (dC, dI) vwCl [(h0, .inr (11, mX11 h1 h4 h11 h18 h23 h32 h33 h40 h48 h49 sp0 lw0)), (h4, .inr (10, mX10 h5 h6 h7 h8 h9 h10 v4)), (h5, .inl (k5, 400, .inr (.inl f5))), (h69, .inl (k69, 1, .inr (.inl f69)))] H1 := hP.sub [1, 2, 3, 0] rfl
    have hD : va_D A [(h0, .inr (11, mX11 h1 h4 h11 h18 h23 h32 h33 h40 h48 h49 sp0 lw0)), (h4, .inr (10, mX10 h5 h6 h7 h8 h9 h10 v4)), (h5, .inl (k5, 400, .inr (.inl f5))), (h69, .inl (k69, 1, .inr (.inl f69)))] := hD.sub [1, 2, 3, 0] (by decide) rfl
    generalize H1 = H at hP hS ⊢
    clear hz1
    refine lv_i2l hx hb dL_letter_8 rfl ?_
    refine lv_topl (fun y_8 e_y_8 => ?_)
    refine va_last hx hb hK hP hD hS 3 1 rfl rfl (zin_lit (by decide)) dL_letter_9 (fun H locs hP hD hS => ?_)
    obtain ⟨f_9, e_f_9⟩ : ∃ z : Nat → Int64, z = vp_updL f69 (0 : Int32).toNatClampNeg y_8 := ⟨_, rfl⟩
    have hP : va_P (dC, dI) vwCl [(h0, .inr (11, mX11 h1 h4 h11 h18 h23 h32 h33 h40 h48 h49 sp0 lw0)), (h4, .inr (10, mX10 h5 h6 h7 h8 h9 h10 v4)), (h5, .inl (k5, 400, .inr (.inl f5))), (h69, .inl (k69, 1, .inr (.inl f_9)))] H := by rw [e_f_9]; exact hP
    have hD : va_D A [(h0, .inr (11, mX11 h1 h4 h11 h18 h23 h32 h33 h40 h48 h49 sp0 lw0)), (h4, .inr (10, mX10 h5 h6 h7 h8 h9 h10 v4)), (h5, .inl (k5, 400, .inr (.inl f5))), (h69, .inl (k69, 1, .inr (.inl f_9)))] := by rw [e_f_9]; exact hD
    refine lv_goto (tgt := 17) hx hb dL_letter_10 (by decide) ?_
    refine lv_iconst (v := 0) hx hb dL_letter_17 (by decide) ?_
    refine W.widen (k := 1) (n := 6) (by decide) (by decide) ?_
    have hpost : (0 ≤ (0 : Int32).toInt ∧ (0 : Int32).toInt ≤ 1) := (by first | with_reducible assumption | exact ⟨by omega, by omega⟩)
    have hP9 : va_P (dC, dI) vwCl [(h0, .inr (11, mX11 h1 h4 h11 h18 h23 h32 h33 h40 h48 h49 sp0 lw0)), (h4, .inr (10, mX10 h5 h6 h7 h8 h9 h10 v4)), (h5, .inl (k5, 400, .inr (.inl f5))), (h69, .inl (k69, 1, .inr (.inl f_9)))] H := hP
    have hD9 : va_D A [(h0, .inr (11, mX11 h1 h4 h11 h18 h23 h32 h33 h40 h48 h49 sp0 lw0)), (h4, .inr (10, mX10 h5 h6 h7 h8 h9 h10 v4)), (h5, .inl (k5, 400, .inr (.inl f5))), (h69, .inl (k69, 1, .inr (.inl f_9)))] := hD
    exact vx_ret (W.iret (v := 0) hx hb hr (fun t ht hW => ⟨⟨0, (fun _ => 0), rfl, hpost, (fun _ => 0), (fun _ => (fun _ => 0)), (fun i => ([f_9] : List (Nat → Int64)).getD i (fun _ => 0)), by rw [ht]; exact hP9, va_K.moved hW.alike hK, hD9⟩, hS.F ht⟩) hS.2.2 dL_letter_18)
set_option maxHeartbeats 8000000 in
set_option maxRecDepth 100000 in
theorem sL_hit_0 (l : Launch) (hl0 : l.stackTraces = false) (dC : Nat → ClassId) (dI : Nat → Nat → Nat) (adK adV : Nat → Nat) (h0 : Nat) (h49 : Nat) (h62 : Nat) (h69 : Nat) (h1 : Nat) (h4 : Nat) (h11 : Nat) (h18 : Nat) (h23 : Nat) (h32 : Nat) (h33 : Nat) (h40 : Nat) (h48 : Nat) (h50 : Nat) (h56 : Nat) (h57 : Nat) (h59 : Nat) (h60 : Nat) (h61 : Nat) (h63 : Nat) (h64 : Nat) (h65 : Nat) (h66 : Nat) (h67 : Nat) (h68 : Nat) (k62 : ClassId) (k69 : ClassId) (sz : Nat) (sp0 : Value) (lw0 : Int64) (v49 : Nat → Int32) (f62 : Nat → Int32) (f69 : Nat → Int64) (x1 : Int32) (hv49 : zR rg_Finder v49) (hf62 : zA 0 119 f62) : Met l yL_hit (.codeWith yL_hit cL_hit 4 (some .int) [(0, 9, 12, 13)] :: zG) { frames := 9, cells := 1, slots := 6, locals := 141 } (zPc dC dI adK adV [.ref h0, .int x1, .ref h69] sz [(h0, .inr (11, mX11 h1 h4 h11 h18 h23 h32 h33 h40 h48 h49 sp0 lw0)), (h49, .inr (1, mX1 h18 h4 h40 h50 h56 h57 h59 h60 h61 h62 h63 h64 h65 h66 h67 h68 v49)), (h62, zi k62 120 f62), (h69, .inl (k69, 1, .inr (.inl f69)))] [(k62, .int), (k69, .long)]) (va_Qi (fun (r : Int32) (u : Nat → Int32) => (0 ≤ r.toInt ∧ r.toInt ≤ 1) ∧ (r.toInt = 1 → x1.toInt < 0) ∧ (r.toInt = 0 → 0 ≤ x1.toInt) ∧ (r.toInt = (u 0).toInt)) (fun (u : Nat → Int32) (t : State) => ∃ (ww : Nat → Int64) (aa : Nat → Nat → Int32) (bb : Nat → Nat → Int64), (zW ((u 0).toInt = 0 → ((bb 0) 0).toInt = zNm f62 (v49 16).toInt x1.toInt)) ∧ va_P (dC, dI) vwCl [(h0, .inr (11, mX11 h1 h4 h11 h18 h23 h32 h33 h40 h48 h49 sp0 lw0)), (h49, .inr (1, mX1 h18 h4 h40 h50 h56 h57 h59 h60 h61 h62 h63 h64 h65 h66 h67 h68 v49)), (h62, zi k62 120 f62), (h69, .inl (k69, 1, .inr (.inl (bb 0))))] t.heap ∧ va_K (dC, dI) vwCl [(k62, .int), (k69, .long)] t ∧ va_D (va_A [(h0, .inr (11, mX11 h1 h4 h11 h18 h23 h32 h33 h40 h48 h49 sp0 lw0)), (h49, .inr (1, mX1 h18 h4 h40 h50 h56 h57 h59 h60 h61 h62 h63 h64 h65 h66 h67 h68 v49)), (h62, zi k62 120 f62), (h69, .inl (k69, 1, .inr (.inl f69)))] sz) [(h0, .inr (11, mX11 h1 h4 h11 h18 h23 h32 h33 h40 h48 h49 sp0 lw0)), (h49, .inr (1, mX1 h18 h4 h40 h50 h56 h57 h59 h60 h61 h62 h63 h64 h65 h66 h67 h68 v49)), (h62, zi k62 120 f62), (h69, .inl (k69, 1, .inr (.inl (bb 0))))]) (va_A [(h0, .inr (11, mX11 h1 h4 h11 h18 h23 h32 h33 h40 h48 h49 sp0 lw0)), (h49, .inr (1, mX1 h18 h4 h40 h50 h56 h57 h59 h60 h61 h62 h63 h64 h65 h66 h67 h68 v49)), (h62, zi k62 120 f62), (h69, .inl (k69, 1, .inr (.inl f69)))] sz)) 1 6 (va_A [(h0, .inr (11, mX11 h1 h4 h11 h18 h23 h32 h33 h40 h48 h49 sp0 lw0)), (h49, .inr (1, mX1 h18 h4 h40 h50 h56 h57 h59 h60 h61 h62 h63 h64 h65 h66 h67 h68 v49)), (h62, zi k62 120 f62), (h69, .inl (k69, 1, .inr (.inl f69)))] sz) := by
  refine zmet_of (vx_ofWH (cc := cL_hit) (maxL := 4) (ret := (some .int)) (hh := [(0, 9, 12, 13)]) (by decide) rfl ?_)
  intro p e s m args below meth c s₁ B hml hv
  obtain ⟨rfl, hsz, hP, hK, hD0, hE, hZ⟩ := hv
  have hx := B.exec
  have hb := B.bytes
  have hr := B.returns
  have hG : ∀ w ∈ zG, w.before _ s = true := fun w h => atoms_spec (ws := (.codeWith yL_hit cL_hit 4 (some .int) [(0, 9, 12, 13)] :: zG)) B.pre w (List.mem_cons_of_mem _ h)
  have hown : s.vm.findClass RL = some m.cls := findClass_of_methodNamed B.named
  have hlocks := B.notSynchronized
  have htab : c.exceptionTable.toList = tableOf [(0, 9, 12, 13)] := vx_table (x := yL_hit) B (atoms_spec (ws := (.codeWith yL_hit cL_hit 4 (some .int) [(0, 9, 12, 13)] :: zG)) B.pre _ List.mem_cons_self)
  subst hsz
  have hD := hD0.self (sz := s.heap.size)
  generalize hAe : va_A [(h0, .inr (11, mX11 h1 h4 h11 h18 h23 h32 h33 h40 h48 h49 sp0 lw0)), (h49, .inr (1, mX1 h18 h4 h40 h50 h56 h57 h59 h60 h61 h62 h63 h64 h65 h66 h67 h68 v49)), (h62, zi k62 120 f62), (h69, .inl (k69, 1, .inr (.inl f69)))] s.heap.size = A at hD hZ ⊢
  have hA : ∀ q : Nat, s.heap.size ≤ q → A q := fun q h => by rw [← hAe]; exact Or.inr h
  have hS : va_S A s.heap s.heap [] := va_S.rf
  have hl := lv_entry ([.ref h0, .int x1, .ref h69]) (n := 4) (Nat.le_of_ble_eq_true rfl)
  rw [lg_entry_eq]
  generalize (lg_sl ([.ref h0, .int x1, .ref h69]) ++ List.replicate (4 - (lg_sl ([.ref h0, .int x1, .ref h69])).length) Slot.unset).toArray = ls at hl ⊢
  have hl : lv_has ls 4 [(0, .ref h0), (1, .int x1), (2, .ref h69)] := hl
  have b_ := zk_0
  have b_ := zk_1
  refine lv_aload_n hx hb dL_hit_0 rfl (lv_at hl 2 rfl) ?_
  refine lv_iconst (v := 0) hx hb dL_hit_1 (by decide) ?_
  refine lv_aload_n hx hb dL_hit_2 rfl (lv_at hl 0 rfl) ?_
  refine lv_iload_n hx hb dL_hit_3 rfl (lv_at hl 1 rfl) ?_
  have hPc := hP.sub (ws' := [(h0, .inr (11, mX11 h1 h4 h11 h18 h23 h32 h33 h40 h48 h49 sp0 lw0)), (h49, .inr (1, mX1 h18 h4 h40 h50 h56 h57 h59 h60 h61 h62 h63 h64 h65 h66 h67 h68 v49)), (h62, zi k62 120 f62)]) [0, 1, 2] rfl
  have hDc := hD.sub (ws' := [(h0, .inr (11, mX11 h1 h4 h11 h18 h23 h32 h33 h40 h48 h49 sp0 lw0)), (h49, .inr (1, mX1 h18 h4 h40 h50 h56 h57 h59 h60 h61 h62 h63 h64 h65 h66 h67 h68 v49)), (h62, zi k62 120 f62)]) [0, 1, 2] (by decide) rfl
  have hKc := hK.sub (tys' := [(k62, .int)]) [0] rfl
  have hFc := va_free (wc := [(h0, .inr (11, mX11 h1 h4 h11 h18 h23 h32 h33 h40 h48 h49 sp0 lw0)), (h49, .inr (1, mX1 h18 h4 h40 h50 h56 h57 h59 h60 h61 h62 h63 h64 h65 h66 h67 h68 v49)), (h62, zi k62 120 f62)]) hD hS hA [0, 1, 2] rfl
  refine vx_calli (vx_runV (As := [.int x1]) (rest := [.int 0, .ref h69]) ⟨hx, hb, hml, hown, hG⟩ (sX11_hit_0 l hl0 dC dI adK adV h0 h49 h62 h1 h4 h11 h18 h23 h32 h33 h40 h48 h50 h56 h57 h59 h60 h61 h63 h64 h65 h66 h67 h68 k62 s.heap.size sp0 lw0 v49 f62 x1 hv49 hf62) (cwV 1 hG (zgV zv1513 zv1514 zv1515 zv129 zv1516) rfl rfl rfl (by decide +kernel) ⟨Nat.le_of_ble_eq_true rfl, Nat.le_of_ble_eq_true rfl⟩) ⟨zPc_blind, va_recv hKc hPc (ci := 11) (q0 := 0) rfl rfl, zPc_pre hPc hKc hDc hE hS hFc hZ⟩ rfl rfl hl.1 rfl (lv_room (Nat.le_of_ble_eq_true rfl)) dL_hit_4 ⟨Nat.le_of_ble_eq_true rfl, Nat.le_of_ble_eq_true rfl⟩) hS (fun q _ h => hFc q h) hFc (fun q _ h => hFc q h) (fun E ce q9 x4_ t H1 locs ht hvm hpx hBX hz1 hk1 hS hce hcv hcl => ?_) (fun r4_ u4_ t H1 locs ht hvm hw hB hz1 hk1 hS => ?_)
  · skip
    replace hpx : (x1.toInt < 0) := hpx
    have hE4_0 := hpx
    obtain ⟨rfl, w4_, a4_, b4_, hP1, hK1, hD1⟩ := hBX
    rw [ht] at hP1
    obtain ⟨hP, hD⟩ := va_join (wr := [(h69, .inl (k69, 1, .inr (.inl f69)))]) (w1 := [(h0, .inr (11, mX11 h1 h4 h11 h18 h23 h32 h33 h40 h48 h49 sp0 lw0)), (h49, .inr (1, mX1 h18 h4 h40 h50 h56 h57 h59 h60 h61 h62 h63 h64 h65 h66 h67 h68 v49)), (h62, zi k62 120 f62)]) hP hD [0, 1, 2] [3] rfl rfl (by decide) (by decide) hk1 hFc hP1 hD1
    have hP : va_P (dC, dI) vwCl [(h0, .inr (11, mX11 h1 h4 h11 h18 h23 h32 h33 h40 h48 h49 sp0 lw0)), (h49, .inr (1, mX1 h18 h4 h40 h50 h56 h57 h59 h60 h61 h62 h63 h64 h65 h66 h67 h68 v49)), (h62, zi k62 120 f62), (h69, .inl (k69, 1, .inr (.inl f69)))] H1 := hP.sub [1, 2, 3, 0] rfl
    have hD : va_D A [(h0, .inr (11, mX11 h1 h4 h11 h18 h23 h32 h33 h40 h48 h49 sp0 lw0)), (h49, .inr (1, mX1 h18 h4 h40 h50 h56 h57 h59 h60 h61 h62 h63 h64 h65 h66 h67 h68 v49)), (h62, zi k62 120 f62), (h69, .inl (k69, 1, .inr (.inl f69)))] := hD.sub [1, 2, 3, 0] (by decide) rfl
    clear hz1
    refine z_catch (x := _) (suf := []) hown htab (by decide) (by decide) (hG _ zv1405) (va_Nw.use rfl (zE_castI hE)) hce hcv hcl ?_
    refine W.eq (g2 := F0 m 12 ls [.ref q9]) rfl ?_
    generalize H1 = H at hP hS ⊢
    refine lv_astore_n (lv' := [(3, .ref q9), (0, .ref h0), (1, .int x1), (2, .ref h69)]) hx hb dL_hit_12 rfl hl (by decide) rfl (fun ls hl => ?_)
    refine lv_iconst (v := 1) hx hb dL_hit_13 (by decide) ?_
    refine W.widen (k := 1) (n := 6) (by decide) (by decide) ?_
    have hpost : (0 ≤ (1 : Int32).toInt ∧ (1 : Int32).toInt ≤ 1) ∧ ((1 : Int32).toInt = 1 → x1.toInt < 0) ∧ ((1 : Int32).toInt = 0 → 0 ≤ x1.toInt) ∧ ((1 : Int32).toInt = (1 : Int32).toInt) := ⟨(by first | with_reducible assumption | exact ⟨by omega, by omega⟩), by omega, by omega, rfl⟩
    have hP9 : va_P (dC, dI) vwCl [(h0, .inr (11, mX11 h1 h4 h11 h18 h23 h32 h33 h40 h48 h49 sp0 lw0)), (h49, .inr (1, mX1 h18 h4 h40 h50 h56 h57 h59 h60 h61 h62 h63 h64 h65 h66 h67 h68 v49)), (h62, zi k62 120 f62), (h69, .inl (k69, 1, .inr (.inl f69)))] H := hP
    have hD9 : va_D A [(h0, .inr (11, mX11 h1 h4 h11 h18 h23 h32 h33 h40 h48 h49 sp0 lw0)), (h49, .inr (1, mX1 h18 h4 h40 h50 h56 h57 h59 h60 h61 h62 h63 h64 h65 h66 h67 h68 v49)), (h62, zi k62 120 f62), (h69, .inl (k69, 1, .inr (.inl f69)))] := hD
    have hB0 : zW ((1 : Int32).toInt = 0 → (f69 0).toInt = zNm f62 (v49 16).toInt x1.toInt) := by first | (intro q_; exact absurd q_ (by decide)) | exact fun _ => zNm_L e_f_8 e_y_7 hX4_1
    exact vx_ret (W.iret (v := 1) hx hb hr (fun t ht hW => ⟨⟨1, (fun i => ([1] : List (Int32)).getD i 0), rfl, hpost, (fun _ => 0), (fun _ => (fun _ => 0)), (fun i => ([f69] : List (Nat → Int64)).getD i (fun _ => 0)), hB0, by rw [ht]; exact hP9, va_K.moved hW.alike hK, hD9⟩, hS.F ht⟩) hS.2.2 dL_hit_14)
  · skip
    replace hw : ((-1) ≤ r4_.toInt ∧ r4_.toInt ≤ 119) ∧ (0 ≤ x1.toInt) ∧ (r4_.toInt = zNm f62 (v49 16).toInt x1.toInt) := hw
    obtain ⟨b_, hX4_0, hX4_1⟩ := hw
    obtain ⟨w4_, a4_, b4_, hP1, hK1, hD1⟩ := hB
    rw [ht] at hP1
    obtain ⟨hP, hD⟩ := va_join (wr := [(h69, .inl (k69, 1, .inr (.inl f69)))]) (w1 := [(h0, .inr (11, mX11 h1 h4 h11 h18 h23 h32 h33 h40 h48 h49 sp0 lw0)), (h49, .inr (1, mX1 h18 h4 h40 h50 h56 h57 h59 h60 h61 h62 h63 h64 h65 h66 h67 h68 v49)), (h62, zi k62 120 f62)]) hP hD [0, 1, 2] [3] rfl rfl (by decide) (by decide) hk1 hFc hP1 hD1
    have hP : va_P (dC, dI) vwCl [(h0, .inr (11, mX11 h1 h4 h11 h18 h23 h32 h33 h40 h48 h49 sp0 lw0)), (h49, .inr (1, mX1 h18 h4 h40 h50 h56 h57 h59 h60 h61 h62 h63 h64 h65 h66 h67 h68 v49)), (h62, zi k62 120 f62), (h69, .inl (k69, 1, .inr (.inl f69)))] H1 := hP.sub [1, 2, 3, 0] rfl
    have hD : va_D A [(h0, .inr (11, mX11 h1 h4 h11 h18 h23 h32 h33 h40 h48 h49 sp0 lw0)), (h49, .inr (1, mX1 h18 h4 h40 h50 h56 h57 h59 h60 h61 h62 h63 h64 h65 h66 h67 h68 v49)), (h62, zi k62 120 f62), (h69, .inl (k69, 1, .inr (.inl f69)))] := hD.sub [1, 2, 3, 0] (by decide) rfl
    generalize H1 = H at hP hS ⊢
    clear hz1
    refine lv_i2l hx hb dL_hit_7 rfl ?_
    refine lv_topl (fun y_7 e_y_7 => ?_)
    refine va_last hx hb hK hP hD hS 3 1 rfl rfl (zin_lit (by decide)) dL_hit_8 (fun H locs hP hD hS => ?_)
    obtain ⟨f_8, e_f_8⟩ : ∃ z : Nat → Int64, z = vp_updL f69 (0 : Int32).toNatClampNeg y_7 := ⟨_, rfl⟩
    have hP : va_P (dC, dI) vwCl [(h0, .inr (11, mX11 h1 h4 h11 h18 h23 h32 h33 h40 h48 h49 sp0 lw0)), (h49, .inr (1, mX1 h18 h4 h40 h50 h56 h57 h59 h60 h61 h62 h63 h64 h65 h66 h67 h68 v49)), (h62, zi k62 120 f62), (h69, .inl (k69, 1, .inr (.inl f_8)))] H := by rw [e_f_8]; exact hP
    have hD : va_D A [(h0, .inr (11, mX11 h1 h4 h11 h18 h23 h32 h33 h40 h48 h49 sp0 lw0)), (h49, .inr (1, mX1 h18 h4 h40 h50 h56 h57 h59 h60 h61 h62 h63 h64 h65 h66 h67 h68 v49)), (h62, zi k62 120 f62), (h69, .inl (k69, 1, .inr (.inl f_8)))] := by rw [e_f_8]; exact hD
    refine lv_goto (tgt := 15) hx hb dL_hit_9 (by decide) ?_
    refine lv_iconst (v := 0) hx hb dL_hit_15 (by decide) ?_
    refine W.widen (k := 1) (n := 6) (by decide) (by decide) ?_
    have hpost : (0 ≤ (0 : Int32).toInt ∧ (0 : Int32).toInt ≤ 1) ∧ ((0 : Int32).toInt = 1 → x1.toInt < 0) ∧ ((0 : Int32).toInt = 0 → 0 ≤ x1.toInt) ∧ ((0 : Int32).toInt = (0 : Int32).toInt) := ⟨(by first | with_reducible assumption | exact ⟨by omega, by omega⟩), by omega, by omega, rfl⟩
    have hP9 : va_P (dC, dI) vwCl [(h0, .inr (11, mX11 h1 h4 h11 h18 h23 h32 h33 h40 h48 h49 sp0 lw0)), (h49, .inr (1, mX1 h18 h4 h40 h50 h56 h57 h59 h60 h61 h62 h63 h64 h65 h66 h67 h68 v49)), (h62, zi k62 120 f62), (h69, .inl (k69, 1, .inr (.inl f_8)))] H := hP
    have hD9 : va_D A [(h0, .inr (11, mX11 h1 h4 h11 h18 h23 h32 h33 h40 h48 h49 sp0 lw0)), (h49, .inr (1, mX1 h18 h4 h40 h50 h56 h57 h59 h60 h61 h62 h63 h64 h65 h66 h67 h68 v49)), (h62, zi k62 120 f62), (h69, .inl (k69, 1, .inr (.inl f_8)))] := hD
    have hB0 : zW ((0 : Int32).toInt = 0 → (f_8 0).toInt = zNm f62 (v49 16).toInt x1.toInt) := by first | (intro q_; exact absurd q_ (by decide)) | exact fun _ => zNm_L e_f_8 e_y_7 hX4_1
    exact vx_ret (W.iret (v := 0) hx hb hr (fun t ht hW => ⟨⟨0, (fun i => ([0] : List (Int32)).getD i 0), rfl, hpost, (fun _ => 0), (fun _ => (fun _ => 0)), (fun i => ([f_8] : List (Nat → Int64)).getD i (fun _ => 0)), hB0, by rw [ht]; exact hP9, va_K.moved hW.alike hK, hD9⟩, hS.F ht⟩) hS.2.2 dL_hit_16)
set_option maxHeartbeats 8000000 in
set_option maxRecDepth 100000 in
theorem sL_rank_0 (l : Launch) (hl0 : l.stackTraces = false) (dC : Nat → ClassId) (dI : Nat → Nat → Nat) (adK adV : Nat → Nat) (h0 : Nat) (h49 : Nat) (h65 : Nat) (h62 : Nat) (h64 : Nat) (h63 : Nat) (h69 : Nat) (h1 : Nat) (h4 : Nat) (h11 : Nat) (h18 : Nat) (h23 : Nat) (h32 : Nat) (h33 : Nat) (h40 : Nat) (h48 : Nat) (h50 : Nat) (h56 : Nat) (h57 : Nat) (h59 : Nat) (h60 : Nat) (h61 : Nat) (h66 : Nat) (h67 : Nat) (h68 : Nat) (k65 : ClassId) (k62 : ClassId) (k64 : ClassId) (k63 : ClassId) (k69 : ClassId) (sz : Nat) (sp0 : Value) (lw0 : Int64) (v49 : Nat → Int32) (f65 : Nat → Int32) (f62 : Nat → Int32) (f64 : Nat → Int32) (f63 : Nat → Int32) (f69 : Nat → Int64) (x1 : Int32) (x2 : Int32) (hv49 : zR rg_Finder v49) (hf65 : zA 0 119 f65) (hf62 : zA 0 119 f62) : Met l yL_rank (.codeWith yL_rank cL_rank 5 (some .int) [(0, 10, 13, 13)] :: zG) { frames := 9, cells := 1, slots := 6, locals := 142 } (zPc dC dI adK adV [.ref h0, .int x1, .int x2, .ref h69] sz [(h0, .inr (11, mX11 h1 h4 h11 h18 h23 h32 h33 h40 h48 h49 sp0 lw0)), (h49, .inr (1, mX1 h18 h4 h40 h50 h56 h57 h59 h60 h61 h62 h63 h64 h65 h66 h67 h68 v49)), (h65, zi k65 120 f65), (h62, zi k62 120 f62), (h64, zi k64 120 f64), (h63, zi k63 120 f63), (h69, .inl (k69, 1, .inr (.inl f69)))] [(k65, .int), (k62, .int), (k64, .int), (k63, .int), (k69, .long)]) (va_Qi (fun (r : Int32) (u : Nat → Int32) => (0 ≤ r.toInt ∧ r.toInt ≤ 1) ∧ ((r.toInt = 1 ∧ (x1.toInt < 0 ∨ (v49 16).toInt ≤ x1.toInt)) ∨ (r.toInt = 0 ∧ 0 ≤ x1.toInt ∧ x1.toInt < (v49 16).toInt)) ∧ (r.toInt = (u 0).toInt)) (fun (u : Nat → Int32) (t : State) => ∃ (ww : Nat → Int64) (aa : Nat → Nat → Int32) (bb : Nat → Nat → Int64), (zW ((u 0).toInt = 0 → ((bb 0) 0).toInt = zRna (zTrp f62 f64 f63 (f65 ((x1 : Int32)).toNatClampNeg).toNatClampNeg) x2.toInt)) ∧ va_P (dC, dI) vwCl [(h0, .inr (11, mX11 h1 h4 h11 h18 h23 h32 h33 h40 h48 h49 sp0 lw0)), (h49, .inr (1, mX1 h18 h4 h40 h50 h56 h57 h59 h60 h61 h62 h63 h64 h65 h66 h67 h68 v49)), (h65, zi k65 120 f65), (h62, zi k62 120 f62), (h64, zi k64 120 f64), (h63, zi k63 120 f63), (h69, .inl (k69, 1, .inr (.inl (bb 0))))] t.heap ∧ va_K (dC, dI) vwCl [(k65, .int), (k62, .int), (k64, .int), (k63, .int), (k69, .long)] t ∧ va_D (va_A [(h0, .inr (11, mX11 h1 h4 h11 h18 h23 h32 h33 h40 h48 h49 sp0 lw0)), (h49, .inr (1, mX1 h18 h4 h40 h50 h56 h57 h59 h60 h61 h62 h63 h64 h65 h66 h67 h68 v49)), (h65, zi k65 120 f65), (h62, zi k62 120 f62), (h64, zi k64 120 f64), (h63, zi k63 120 f63), (h69, .inl (k69, 1, .inr (.inl f69)))] sz) [(h0, .inr (11, mX11 h1 h4 h11 h18 h23 h32 h33 h40 h48 h49 sp0 lw0)), (h49, .inr (1, mX1 h18 h4 h40 h50 h56 h57 h59 h60 h61 h62 h63 h64 h65 h66 h67 h68 v49)), (h65, zi k65 120 f65), (h62, zi k62 120 f62), (h64, zi k64 120 f64), (h63, zi k63 120 f63), (h69, .inl (k69, 1, .inr (.inl (bb 0))))]) (va_A [(h0, .inr (11, mX11 h1 h4 h11 h18 h23 h32 h33 h40 h48 h49 sp0 lw0)), (h49, .inr (1, mX1 h18 h4 h40 h50 h56 h57 h59 h60 h61 h62 h63 h64 h65 h66 h67 h68 v49)), (h65, zi k65 120 f65), (h62, zi k62 120 f62), (h64, zi k64 120 f64), (h63, zi k63 120 f63), (h69, .inl (k69, 1, .inr (.inl f69)))] sz)) 1 6 (va_A [(h0, .inr (11, mX11 h1 h4 h11 h18 h23 h32 h33 h40 h48 h49 sp0 lw0)), (h49, .inr (1, mX1 h18 h4 h40 h50 h56 h57 h59 h60 h61 h62 h63 h64 h65 h66 h67 h68 v49)), (h65, zi k65 120 f65), (h62, zi k62 120 f62), (h64, zi k64 120 f64), (h63, zi k63 120 f63), (h69, .inl (k69, 1, .inr (.inl f69)))] sz) := by
  refine zmet_of (vx_ofWH (cc := cL_rank) (maxL := 5) (ret := (some .int)) (hh := [(0, 10, 13, 13)]) (by decide) rfl ?_)
  intro p e s m args below meth c s₁ B hml hv
  obtain ⟨rfl, hsz, hP, hK, hD0, hE, hZ⟩ := hv
  have hx := B.exec
  have hb := B.bytes
  have hr := B.returns
  have hG : ∀ w ∈ zG, w.before _ s = true := fun w h => atoms_spec (ws := (.codeWith yL_rank cL_rank 5 (some .int) [(0, 10, 13, 13)] :: zG)) B.pre w (List.mem_cons_of_mem _ h)
  have hown : s.vm.findClass RL = some m.cls := findClass_of_methodNamed B.named
  have hlocks := B.notSynchronized
  have htab : c.exceptionTable.toList = tableOf [(0, 10, 13, 13)] := vx_table (x := yL_rank) B (atoms_spec (ws := (.codeWith yL_rank cL_rank 5 (some .int) [(0, 10, 13, 13)] :: zG)) B.pre _ List.mem_cons_self)
  subst hsz
  have hD := hD0.self (sz := s.heap.size)
  generalize hAe : va_A [(h0, .inr (11, mX11 h1 h4 h11 h18 h23 h32 h33 h40 h48 h49 sp0 lw0)), (h49, .inr (1, mX1 h18 h4 h40 h50 h56 h57 h59 h60 h61 h62 h63 h64 h65 h66 h67 h68 v49)), (h65, zi k65 120 f65), (h62, zi k62 120 f62), (h64, zi k64 120 f64), (h63, zi k63 120 f63), (h69, .inl (k69, 1, .inr (.inl f69)))] s.heap.size = A at hD hZ ⊢
  have hA : ∀ q : Nat, s.heap.size ≤ q → A q := fun q h => by rw [← hAe]; exact Or.inr h
  have hS : va_S A s.heap s.heap [] := va_S.rf
  have hl := lv_entry ([.ref h0, .int x1, .int x2, .ref h69]) (n := 5) (Nat.le_of_ble_eq_true rfl)
  rw [lg_entry_eq]
  generalize (lg_sl ([.ref h0, .int x1, .int x2, .ref h69]) ++ List.replicate (5 - (lg_sl ([.ref h0, .int x1, .int x2, .ref h69])).length) Slot.unset).toArray = ls at hl ⊢
  have hl : lv_has ls 5 [(0, .ref h0), (1, .int x1), (2, .int x2), (3, .ref h69)] := hl
  have b_ := zk_0
  have b_ := zk_1
  have b_ : 0 ≤ (v49 16).toInt ∧ (v49 16).toInt ≤ 120 := hv49 16
  refine lv_aload_n hx hb dL_rank_0 rfl (lv_at hl 3 rfl) ?_
  refine lv_iconst (v := 0) hx hb dL_rank_1 (by decide) ?_
  refine lv_aload_n hx hb dL_rank_2 rfl (lv_at hl 0 rfl) ?_
  refine lv_iload_n hx hb dL_rank_3 rfl (lv_at hl 1 rfl) ?_
  refine lv_iload_n hx hb dL_rank_4 rfl (lv_at hl 2 rfl) ?_
  have hPc := hP.sub (ws' := [(h0, .inr (11, mX11 h1 h4 h11 h18 h23 h32 h33 h40 h48 h49 sp0 lw0)), (h49, .inr (1, mX1 h18 h4 h40 h50 h56 h57 h59 h60 h61 h62 h63 h64 h65 h66 h67 h68 v49)), (h65, zi k65 120 f65), (h62, zi k62 120 f62), (h64, zi k64 120 f64), (h63, zi k63 120 f63)]) [0, 1, 2, 3, 4, 5] rfl
  have hDc := hD.sub (ws' := [(h0, .inr (11, mX11 h1 h4 h11 h18 h23 h32 h33 h40 h48 h49 sp0 lw0)), (h49, .inr (1, mX1 h18 h4 h40 h50 h56 h57 h59 h60 h61 h62 h63 h64 h65 h66 h67 h68 v49)), (h65, zi k65 120 f65), (h62, zi k62 120 f62), (h64, zi k64 120 f64), (h63, zi k63 120 f63)]) [0, 1, 2, 3, 4, 5] (by decide) rfl
  have hKc := hK.sub (tys' := [(k65, .int), (k62, .int), (k64, .int), (k63, .int)]) [0, 1, 2, 3] rfl
  have hFc := va_free (wc := [(h0, .inr (11, mX11 h1 h4 h11 h18 h23 h32 h33 h40 h48 h49 sp0 lw0)), (h49, .inr (1, mX1 h18 h4 h40 h50 h56 h57 h59 h60 h61 h62 h63 h64 h65 h66 h67 h68 v49)), (h65, zi k65 120 f65), (h62, zi k62 120 f62), (h64, zi k64 120 f64), (h63, zi k63 120 f63)]) hD hS hA [0, 1, 2, 3, 4, 5] rfl
  refine vx_calli (vx_runV (As := [.int x1, .int x2]) (rest := [.int 0, .ref h69]) ⟨hx, hb, hml, hown, hG⟩ (sX11_rank_0 l hl0 dC dI adK adV h0 h49 h65 h62 h64 h63 h1 h4 h11 h18 h23 h32 h33 h40 h48 h50 h56 h57 h59 h60 h61 h66 h67 h68 k65 k62 k64 k63 s.heap.size sp0 lw0 v49 f65 f62 f64 f63 x1 x2 hv49 hf65 hf62) (cwV 2 hG (zgV zv1525 zv1526 zv1527 zv129 zv1528) rfl rfl rfl (by decide +kernel) ⟨Nat.le_of_ble_eq_true rfl, Nat.le_of_ble_eq_true rfl⟩) ⟨zPc_blind, va_recv hKc hPc (ci := 11) (q0 := 0) rfl rfl, zPc_pre hPc hKc hDc hE hS hFc hZ⟩ rfl rfl hl.1 rfl (lv_room (Nat.le_of_ble_eq_true rfl)) dL_rank_5 ⟨Nat.le_of_ble_eq_true rfl, Nat.le_of_ble_eq_true rfl⟩) hS (fun q _ h => hFc q h) hFc (fun q _ h => hFc q h) (fun E ce q9 x5_ t H1 locs ht hvm hpx hBX hz1 hk1 hS hce hcv hcl => ?_) (fun r5_ u5_ t H1 locs ht hvm hw hB hz1 hk1 hS => ?_)
  · skip
    replace hpx : (x1.toInt < 0 ∨ (v49 16).toInt ≤ x1.toInt) := hpx
    have hE5_0 := hpx
    obtain ⟨rfl, w5_, a5_, b5_, hP1, hK1, hD1⟩ := hBX
    rw [ht] at hP1
    obtain ⟨hP, hD⟩ := va_join (wr := [(h69, .inl (k69, 1, .inr (.inl f69)))]) (w1 := [(h0, .inr (11, mX11 h1 h4 h11 h18 h23 h32 h33 h40 h48 h49 sp0 lw0)), (h49, .inr (1, mX1 h18 h4 h40 h50 h56 h57 h59 h60 h61 h62 h63 h64 h65 h66 h67 h68 v49)), (h65, zi k65 120 f65), (h62, zi k62 120 f62), (h64, zi k64 120 f64), (h63, zi k63 120 f63)]) hP hD [0, 1, 2, 3, 4, 5] [6] rfl rfl (by decide) (by decide) hk1 hFc hP1 hD1
    have hP : va_P (dC, dI) vwCl [(h0, .inr (11, mX11 h1 h4 h11 h18 h23 h32 h33 h40 h48 h49 sp0 lw0)), (h49, .inr (1, mX1 h18 h4 h40 h50 h56 h57 h59 h60 h61 h62 h63 h64 h65 h66 h67 h68 v49)), (h65, zi k65 120 f65), (h62, zi k62 120 f62), (h64, zi k64 120 f64), (h63, zi k63 120 f63), (h69, .inl (k69, 1, .inr (.inl f69)))] H1 := hP.sub [1, 2, 3, 4, 5, 6, 0] rfl
    have hD : va_D A [(h0, .inr (11, mX11 h1 h4 h11 h18 h23 h32 h33 h40 h48 h49 sp0 lw0)), (h49, .inr (1, mX1 h18 h4 h40 h50 h56 h57 h59 h60 h61 h62 h63 h64 h65 h66 h67 h68 v49)), (h65, zi k65 120 f65), (h62, zi k62 120 f62), (h64, zi k64 120 f64), (h63, zi k63 120 f63), (h69, .inl (k69, 1, .inr (.inl f69)))] := hD.sub [1, 2, 3, 4, 5, 6, 0] (by decide) rfl
    clear hz1
    refine z_catch (x := _) (suf := []) hown htab (by decide) (by decide) (hG _ zv1405) (va_Nw.use rfl (zE_castI hE)) hce hcv hcl ?_
    refine W.eq (g2 := F0 m 13 ls [.ref q9]) rfl ?_
    generalize H1 = H at hP hS ⊢
    refine lv_astore (lv' := [(4, .ref q9), (0, .ref h0), (1, .int x1), (2, .int x2), (3, .ref h69)]) hx hb dL_rank_13 hl (by decide) rfl (fun ls hl => ?_)
    refine lv_iconst (v := 1) hx hb dL_rank_15 (by decide) ?_
    refine W.widen (k := 1) (n := 6) (by decide) (by decide) ?_
    have hpost : (0 ≤ (1 : Int32).toInt ∧ (1 : Int32).toInt ≤ 1) ∧ (((1 : Int32).toInt = 1 ∧ (x1.toInt < 0 ∨ (v49 16).toInt ≤ x1.toInt)) ∨ ((1 : Int32).toInt = 0 ∧ 0 ≤ x1.toInt ∧ x1.toInt < (v49 16).toInt)) ∧ ((1 : Int32).toInt = (1 : Int32).toInt) := ⟨(by first | with_reducible assumption | exact ⟨by omega, by omega⟩), by omega, rfl⟩
    have hP9 : va_P (dC, dI) vwCl [(h0, .inr (11, mX11 h1 h4 h11 h18 h23 h32 h33 h40 h48 h49 sp0 lw0)), (h49, .inr (1, mX1 h18 h4 h40 h50 h56 h57 h59 h60 h61 h62 h63 h64 h65 h66 h67 h68 v49)), (h65, zi k65 120 f65), (h62, zi k62 120 f62), (h64, zi k64 120 f64), (h63, zi k63 120 f63), (h69, .inl (k69, 1, .inr (.inl f69)))] H := hP
    have hD9 : va_D A [(h0, .inr (11, mX11 h1 h4 h11 h18 h23 h32 h33 h40 h48 h49 sp0 lw0)), (h49, .inr (1, mX1 h18 h4 h40 h50 h56 h57 h59 h60 h61 h62 h63 h64 h65 h66 h67 h68 v49)), (h65, zi k65 120 f65), (h62, zi k62 120 f62), (h64, zi k64 120 f64), (h63, zi k63 120 f63), (h69, .inl (k69, 1, .inr (.inl f69)))] := hD
    have hB0 : zW ((1 : Int32).toInt = 0 → (f69 0).toInt = zRna (zTrp f62 f64 f63 (f65 ((x1 : Int32)).toNatClampNeg).toNatClampNeg) x2.toInt) := by first | (intro q_; exact absurd q_ (by decide)) | exact fun _ => zRna_L e_f_9 e_y_8 hX5_1
    exact vx_ret (W.iret (v := 1) hx hb hr (fun t ht hW => ⟨⟨1, (fun i => ([1] : List (Int32)).getD i 0), rfl, hpost, (fun _ => 0), (fun _ => (fun _ => 0)), (fun i => ([f69] : List (Nat → Int64)).getD i (fun _ => 0)), hB0, by rw [ht]; exact hP9, va_K.moved hW.alike hK, hD9⟩, hS.F ht⟩) hS.2.2 dL_rank_16)
  · skip
    replace hw : (0 ≤ x1.toInt ∧ x1.toInt < (v49 16).toInt) ∧ (r5_.toInt = zRna (zTrp f62 f64 f63 (f65 ((x1 : Int32)).toNatClampNeg).toNatClampNeg) x2.toInt) := hw
    obtain ⟨hX5_0, hX5_1⟩ := hw
    obtain ⟨w5_, a5_, b5_, hP1, hK1, hD1⟩ := hB
    rw [ht] at hP1
    obtain ⟨hP, hD⟩ := va_join (wr := [(h69, .inl (k69, 1, .inr (.inl f69)))]) (w1 := [(h0, .inr (11, mX11 h1 h4 h11 h18 h23 h32 h33 h40 h48 h49 sp0 lw0)), (h49, .inr (1, mX1 h18 h4 h40 h50 h56 h57 h59 h60 h61 h62 h63 h64 h65 h66 h67 h68 v49)), (h65, zi k65 120 f65), (h62, zi k62 120 f62), (h64, zi k64 120 f64), (h63, zi k63 120 f63)]) hP hD [0, 1, 2, 3, 4, 5] [6] rfl rfl (by decide) (by decide) hk1 hFc hP1 hD1
    have hP : va_P (dC, dI) vwCl [(h0, .inr (11, mX11 h1 h4 h11 h18 h23 h32 h33 h40 h48 h49 sp0 lw0)), (h49, .inr (1, mX1 h18 h4 h40 h50 h56 h57 h59 h60 h61 h62 h63 h64 h65 h66 h67 h68 v49)), (h65, zi k65 120 f65), (h62, zi k62 120 f62), (h64, zi k64 120 f64), (h63, zi k63 120 f63), (h69, .inl (k69, 1, .inr (.inl f69)))] H1 := hP.sub [1, 2, 3, 4, 5, 6, 0] rfl
    have hD : va_D A [(h0, .inr (11, mX11 h1 h4 h11 h18 h23 h32 h33 h40 h48 h49 sp0 lw0)), (h49, .inr (1, mX1 h18 h4 h40 h50 h56 h57 h59 h60 h61 h62 h63 h64 h65 h66 h67 h68 v49)), (h65, zi k65 120 f65), (h62, zi k62 120 f62), (h64, zi k64 120 f64), (h63, zi k63 120 f63), (h69, .inl (k69, 1, .inr (.inl f69)))] := hD.sub [1, 2, 3, 4, 5, 6, 0] (by decide) rfl
    generalize H1 = H at hP hS ⊢
    clear hz1
    refine lv_i2l hx hb dL_rank_8 rfl ?_
    refine lv_topl (fun y_8 e_y_8 => ?_)
    refine va_last hx hb hK hP hD hS 6 4 rfl rfl (zin_lit (by decide)) dL_rank_9 (fun H locs hP hD hS => ?_)
    obtain ⟨f_9, e_f_9⟩ : ∃ z : Nat → Int64, z = vp_updL f69 (0 : Int32).toNatClampNeg y_8 := ⟨_, rfl⟩
    have hP : va_P (dC, dI) vwCl [(h0, .inr (11, mX11 h1 h4 h11 h18 h23 h32 h33 h40 h48 h49 sp0 lw0)), (h49, .inr (1, mX1 h18 h4 h40 h50 h56 h57 h59 h60 h61 h62 h63 h64 h65 h66 h67 h68 v49)), (h65, zi k65 120 f65), (h62, zi k62 120 f62), (h64, zi k64 120 f64), (h63, zi k63 120 f63), (h69, .inl (k69, 1, .inr (.inl f_9)))] H := by rw [e_f_9]; exact hP
    have hD : va_D A [(h0, .inr (11, mX11 h1 h4 h11 h18 h23 h32 h33 h40 h48 h49 sp0 lw0)), (h49, .inr (1, mX1 h18 h4 h40 h50 h56 h57 h59 h60 h61 h62 h63 h64 h65 h66 h67 h68 v49)), (h65, zi k65 120 f65), (h62, zi k62 120 f62), (h64, zi k64 120 f64), (h63, zi k63 120 f63), (h69, .inl (k69, 1, .inr (.inl f_9)))] := by rw [e_f_9]; exact hD
    refine lv_goto (tgt := 17) hx hb dL_rank_10 (by decide) ?_
    refine lv_iconst (v := 0) hx hb dL_rank_17 (by decide) ?_
    refine W.widen (k := 1) (n := 6) (by decide) (by decide) ?_
    have hpost : (0 ≤ (0 : Int32).toInt ∧ (0 : Int32).toInt ≤ 1) ∧ (((0 : Int32).toInt = 1 ∧ (x1.toInt < 0 ∨ (v49 16).toInt ≤ x1.toInt)) ∨ ((0 : Int32).toInt = 0 ∧ 0 ≤ x1.toInt ∧ x1.toInt < (v49 16).toInt)) ∧ ((0 : Int32).toInt = (0 : Int32).toInt) := ⟨(by first | with_reducible assumption | exact ⟨by omega, by omega⟩), by omega, rfl⟩
    have hP9 : va_P (dC, dI) vwCl [(h0, .inr (11, mX11 h1 h4 h11 h18 h23 h32 h33 h40 h48 h49 sp0 lw0)), (h49, .inr (1, mX1 h18 h4 h40 h50 h56 h57 h59 h60 h61 h62 h63 h64 h65 h66 h67 h68 v49)), (h65, zi k65 120 f65), (h62, zi k62 120 f62), (h64, zi k64 120 f64), (h63, zi k63 120 f63), (h69, .inl (k69, 1, .inr (.inl f_9)))] H := hP
    have hD9 : va_D A [(h0, .inr (11, mX11 h1 h4 h11 h18 h23 h32 h33 h40 h48 h49 sp0 lw0)), (h49, .inr (1, mX1 h18 h4 h40 h50 h56 h57 h59 h60 h61 h62 h63 h64 h65 h66 h67 h68 v49)), (h65, zi k65 120 f65), (h62, zi k62 120 f62), (h64, zi k64 120 f64), (h63, zi k63 120 f63), (h69, .inl (k69, 1, .inr (.inl f_9)))] := hD
    have hB0 : zW ((0 : Int32).toInt = 0 → (f_9 0).toInt = zRna (zTrp f62 f64 f63 (f65 ((x1 : Int32)).toNatClampNeg).toNatClampNeg) x2.toInt) := by first | (intro q_; exact absurd q_ (by decide)) | exact fun _ => zRna_L e_f_9 e_y_8 hX5_1
    exact vx_ret (W.iret (v := 0) hx hb hr (fun t ht hW => ⟨⟨0, (fun i => ([0] : List (Int32)).getD i 0), rfl, hpost, (fun _ => 0), (fun _ => (fun _ => 0)), (fun i => ([f_9] : List (Nat → Int64)).getD i (fun _ => 0)), hB0, by rw [ht]; exact hP9, va_K.moved hW.alike hK, hD9⟩, hS.F ht⟩) hS.2.2 dL_rank_18)
set_option maxHeartbeats 8000000 in
set_option maxRecDepth 100000 in
theorem sL_code_0 (l : Launch) (hl0 : l.stackTraces = false) (dC : Nat → ClassId) (dI : Nat → Nat → Nat) (adK adV : Nat → Nat) (h0 : Nat) (h40 : Nat) (h47 : Nat) (h69 : Nat) (h1 : Nat) (h4 : Nat) (h11 : Nat) (h18 : Nat) (h23 : Nat) (h32 : Nat) (h33 : Nat) (h48 : Nat) (h49 : Nat) (h41 : Nat) (h42 : Nat) (h43 : Nat) (h44 : Nat) (h45 : Nat) (h46 : Nat) (k47 : ClassId) (k69 : ClassId) (sz : Nat) (sp0 : Value) (lw0 : Int64) (v40 : Nat → Int32) (f47 : Nat → Int32) (f69 : Nat → Int64) (x1 : Int32) (hv40 : zR rg_Query v40) (hf47 : zA 0 12000 f47) : Met l yL_code (.codeWith yL_code cL_code 4 (some .int) [(0, 9, 12, 13)] :: zG) { frames := 9, cells := 1, slots := 6, locals := 141 } (zPc dC dI adK adV [.ref h0, .int x1, .ref h69] sz [(h0, .inr (11, mX11 h1 h4 h11 h18 h23 h32 h33 h40 h48 h49 sp0 lw0)), (h40, .inr (7, mX7 h41 h42 h43 h44 h45 h46 h47 v40)), (h47, zi k47 270 f47), (h69, .inl (k69, 1, .inr (.inl f69)))] [(k47, .int), (k69, .long)]) (va_Qi (fun (r : Int32) (u : Nat → Int32) => (0 ≤ r.toInt ∧ r.toInt ≤ 1)) (fun (u : Nat → Int32) (t : State) => ∃ (ww : Nat → Int64) (aa : Nat → Nat → Int32) (bb : Nat → Nat → Int64), va_P (dC, dI) vwCl [(h0, .inr (11, mX11 h1 h4 h11 h18 h23 h32 h33 h40 h48 h49 sp0 lw0)), (h40, .inr (7, mX7 h41 h42 h43 h44 h45 h46 h47 v40)), (h47, zi k47 270 f47), (h69, .inl (k69, 1, .inr (.inl (bb 0))))] t.heap ∧ va_K (dC, dI) vwCl [(k47, .int), (k69, .long)] t ∧ va_D (va_A [(h0, .inr (11, mX11 h1 h4 h11 h18 h23 h32 h33 h40 h48 h49 sp0 lw0)), (h40, .inr (7, mX7 h41 h42 h43 h44 h45 h46 h47 v40)), (h47, zi k47 270 f47), (h69, .inl (k69, 1, .inr (.inl f69)))] sz) [(h0, .inr (11, mX11 h1 h4 h11 h18 h23 h32 h33 h40 h48 h49 sp0 lw0)), (h40, .inr (7, mX7 h41 h42 h43 h44 h45 h46 h47 v40)), (h47, zi k47 270 f47), (h69, .inl (k69, 1, .inr (.inl (bb 0))))]) (va_A [(h0, .inr (11, mX11 h1 h4 h11 h18 h23 h32 h33 h40 h48 h49 sp0 lw0)), (h40, .inr (7, mX7 h41 h42 h43 h44 h45 h46 h47 v40)), (h47, zi k47 270 f47), (h69, .inl (k69, 1, .inr (.inl f69)))] sz)) 1 6 (va_A [(h0, .inr (11, mX11 h1 h4 h11 h18 h23 h32 h33 h40 h48 h49 sp0 lw0)), (h40, .inr (7, mX7 h41 h42 h43 h44 h45 h46 h47 v40)), (h47, zi k47 270 f47), (h69, .inl (k69, 1, .inr (.inl f69)))] sz) := by
  refine zmet_of (vx_ofWH (cc := cL_code) (maxL := 4) (ret := (some .int)) (hh := [(0, 9, 12, 13)]) (by decide) rfl ?_)
  intro p e s m args below meth c s₁ B hml hv
  obtain ⟨rfl, hsz, hP, hK, hD0, hE, hZ⟩ := hv
  have hx := B.exec
  have hb := B.bytes
  have hr := B.returns
  have hG : ∀ w ∈ zG, w.before _ s = true := fun w h => atoms_spec (ws := (.codeWith yL_code cL_code 4 (some .int) [(0, 9, 12, 13)] :: zG)) B.pre w (List.mem_cons_of_mem _ h)
  have hown : s.vm.findClass RL = some m.cls := findClass_of_methodNamed B.named
  have hlocks := B.notSynchronized
  have htab : c.exceptionTable.toList = tableOf [(0, 9, 12, 13)] := vx_table (x := yL_code) B (atoms_spec (ws := (.codeWith yL_code cL_code 4 (some .int) [(0, 9, 12, 13)] :: zG)) B.pre _ List.mem_cons_self)
  subst hsz
  have hD := hD0.self (sz := s.heap.size)
  generalize hAe : va_A [(h0, .inr (11, mX11 h1 h4 h11 h18 h23 h32 h33 h40 h48 h49 sp0 lw0)), (h40, .inr (7, mX7 h41 h42 h43 h44 h45 h46 h47 v40)), (h47, zi k47 270 f47), (h69, .inl (k69, 1, .inr (.inl f69)))] s.heap.size = A at hD hZ ⊢
  have hA : ∀ q : Nat, s.heap.size ≤ q → A q := fun q h => by rw [← hAe]; exact Or.inr h
  have hS : va_S A s.heap s.heap [] := va_S.rf
  have hl := lv_entry ([.ref h0, .int x1, .ref h69]) (n := 4) (Nat.le_of_ble_eq_true rfl)
  rw [lg_entry_eq]
  generalize (lg_sl ([.ref h0, .int x1, .ref h69]) ++ List.replicate (4 - (lg_sl ([.ref h0, .int x1, .ref h69])).length) Slot.unset).toArray = ls at hl ⊢
  have hl : lv_has ls 4 [(0, .ref h0), (1, .int x1), (2, .ref h69)] := hl
  have b_ := zk_0
  have b_ := zk_1
  refine lv_aload_n hx hb dL_code_0 rfl (lv_at hl 2 rfl) ?_
  refine lv_iconst (v := 0) hx hb dL_code_1 (by decide) ?_
  refine lv_aload_n hx hb dL_code_2 rfl (lv_at hl 0 rfl) ?_
  refine lv_iload_n hx hb dL_code_3 rfl (lv_at hl 1 rfl) ?_
  have hPc := hP.sub (ws' := [(h0, .inr (11, mX11 h1 h4 h11 h18 h23 h32 h33 h40 h48 h49 sp0 lw0)), (h40, .inr (7, mX7 h41 h42 h43 h44 h45 h46 h47 v40)), (h47, zi k47 270 f47)]) [0, 1, 2] rfl
  have hDc := hD.sub (ws' := [(h0, .inr (11, mX11 h1 h4 h11 h18 h23 h32 h33 h40 h48 h49 sp0 lw0)), (h40, .inr (7, mX7 h41 h42 h43 h44 h45 h46 h47 v40)), (h47, zi k47 270 f47)]) [0, 1, 2] (by decide) rfl
  have hKc := hK.sub (tys' := [(k47, .int)]) [0] rfl
  have hFc := va_free (wc := [(h0, .inr (11, mX11 h1 h4 h11 h18 h23 h32 h33 h40 h48 h49 sp0 lw0)), (h40, .inr (7, mX7 h41 h42 h43 h44 h45 h46 h47 v40)), (h47, zi k47 270 f47)]) hD hS hA [0, 1, 2] rfl
  refine vx_calli (vx_runV (As := [.int x1]) (rest := [.int 0, .ref h69]) ⟨hx, hb, hml, hown, hG⟩ (sX11_code_0 l hl0 dC dI adK adV h0 h40 h47 h1 h4 h11 h18 h23 h32 h33 h48 h49 h41 h42 h43 h44 h45 h46 k47 s.heap.size sp0 lw0 v40 f47 x1 hv40 hf47) (cwV 1 hG (zgV zv1545 zv1546 zv1547 zv129 zv1548) rfl rfl rfl (by decide +kernel) ⟨Nat.le_of_ble_eq_true rfl, Nat.le_of_ble_eq_true rfl⟩) ⟨zPc_blind, va_recv hKc hPc (ci := 11) (q0 := 0) rfl rfl, zPc_pre hPc hKc hDc hE hS hFc hZ⟩ rfl rfl hl.1 rfl (lv_room (Nat.le_of_ble_eq_true rfl)) dL_code_4 ⟨Nat.le_of_ble_eq_true rfl, Nat.le_of_ble_eq_true rfl⟩) hS (fun q _ h => hFc q h) hFc (fun q _ h => hFc q h) (fun E ce q9 x4_ t H1 locs ht hvm hpx hBX hz1 hk1 hS hce hcv hcl => ?_) (fun r4_ u4_ t H1 locs ht hvm hw hB hz1 hk1 hS => ?_)
  · skip
    obtain ⟨rfl, w4_, a4_, b4_, hP1, hK1, hD1⟩ := hBX
    rw [ht] at hP1
    obtain ⟨hP, hD⟩ := va_join (wr := [(h69, .inl (k69, 1, .inr (.inl f69)))]) (w1 := [(h0, .inr (11, mX11 h1 h4 h11 h18 h23 h32 h33 h40 h48 h49 sp0 lw0)), (h40, .inr (7, mX7 h41 h42 h43 h44 h45 h46 h47 v40)), (h47, zi k47 270 f47)]) hP hD [0, 1, 2] [3] rfl rfl (by decide) (by decide) hk1 hFc hP1 hD1
    have hP : va_P (dC, dI) vwCl [(h0, .inr (11, mX11 h1 h4 h11 h18 h23 h32 h33 h40 h48 h49 sp0 lw0)), (h40, .inr (7, mX7 h41 h42 h43 h44 h45 h46 h47 v40)), (h47, zi k47 270 f47), (h69, .inl (k69, 1, .inr (.inl f69)))] H1 := hP.sub [1, 2, 3, 0] rfl
    have hD : va_D A [(h0, .inr (11, mX11 h1 h4 h11 h18 h23 h32 h33 h40 h48 h49 sp0 lw0)), (h40, .inr (7, mX7 h41 h42 h43 h44 h45 h46 h47 v40)), (h47, zi k47 270 f47), (h69, .inl (k69, 1, .inr (.inl f69)))] := hD.sub [1, 2, 3, 0] (by decide) rfl
    clear hz1
    refine z_catch (x := _) (suf := []) hown htab (by decide) (by decide) (hG _ zv1405) (va_Nw.use rfl (zE_castI hE)) hce hcv hcl ?_
    refine W.eq (g2 := F0 m 12 ls [.ref q9]) rfl ?_
    generalize H1 = H at hP hS ⊢
    refine lv_astore_n (lv' := [(3, .ref q9), (0, .ref h0), (1, .int x1), (2, .ref h69)]) hx hb dL_code_12 rfl hl (by decide) rfl (fun ls hl => ?_)
    refine lv_iconst (v := 1) hx hb dL_code_13 (by decide) ?_
    refine W.widen (k := 1) (n := 6) (by decide) (by decide) ?_
    have hpost : (0 ≤ (1 : Int32).toInt ∧ (1 : Int32).toInt ≤ 1) := (by first | with_reducible assumption | exact ⟨by omega, by omega⟩)
    have hP9 : va_P (dC, dI) vwCl [(h0, .inr (11, mX11 h1 h4 h11 h18 h23 h32 h33 h40 h48 h49 sp0 lw0)), (h40, .inr (7, mX7 h41 h42 h43 h44 h45 h46 h47 v40)), (h47, zi k47 270 f47), (h69, .inl (k69, 1, .inr (.inl f69)))] H := hP
    have hD9 : va_D A [(h0, .inr (11, mX11 h1 h4 h11 h18 h23 h32 h33 h40 h48 h49 sp0 lw0)), (h40, .inr (7, mX7 h41 h42 h43 h44 h45 h46 h47 v40)), (h47, zi k47 270 f47), (h69, .inl (k69, 1, .inr (.inl f69)))] := hD
    exact vx_ret (W.iret (v := 1) hx hb hr (fun t ht hW => ⟨⟨1, (fun _ => 0), rfl, hpost, (fun _ => 0), (fun _ => (fun _ => 0)), (fun i => ([f69] : List (Nat → Int64)).getD i (fun _ => 0)), by rw [ht]; exact hP9, va_K.moved hW.alike hK, hD9⟩, hS.F ht⟩) hS.2.2 dL_code_14)
  · skip
    replace hw : ((-1) ≤ r4_.toInt ∧ r4_.toInt ≤ 12000) := hw
    have b_ := hw
    obtain ⟨w4_, a4_, b4_, hP1, hK1, hD1⟩ := hB
    rw [ht] at hP1
    obtain ⟨hP, hD⟩ := va_join (wr := [(h69, .inl (k69, 1, .inr (.inl f69)))]) (w1 := [(h0, .inr (11, mX11 h1 h4 h11 h18 h23 h32 h33 h40 h48 h49 sp0 lw0)), (h40, .inr (7, mX7 h41 h42 h43 h44 h45 h46 h47 v40)), (h47, zi k47 270 f47)]) hP hD [0, 1, 2] [3] rfl rfl (by decide) (by decide) hk1 hFc hP1 hD1
    have hP : va_P (dC, dI) vwCl [(h0, .inr (11, mX11 h1 h4 h11 h18 h23 h32 h33 h40 h48 h49 sp0 lw0)), (h40, .inr (7, mX7 h41 h42 h43 h44 h45 h46 h47 v40)), (h47, zi k47 270 f47), (h69, .inl (k69, 1, .inr (.inl f69)))] H1 := hP.sub [1, 2, 3, 0] rfl
    have hD : va_D A [(h0, .inr (11, mX11 h1 h4 h11 h18 h23 h32 h33 h40 h48 h49 sp0 lw0)), (h40, .inr (7, mX7 h41 h42 h43 h44 h45 h46 h47 v40)), (h47, zi k47 270 f47), (h69, .inl (k69, 1, .inr (.inl f69)))] := hD.sub [1, 2, 3, 0] (by decide) rfl
    generalize H1 = H at hP hS ⊢
    clear hz1
    refine lv_i2l hx hb dL_code_7 rfl ?_
    refine lv_topl (fun y_7 e_y_7 => ?_)
    refine va_last hx hb hK hP hD hS 3 1 rfl rfl (zin_lit (by decide)) dL_code_8 (fun H locs hP hD hS => ?_)
    obtain ⟨f_8, e_f_8⟩ : ∃ z : Nat → Int64, z = vp_updL f69 (0 : Int32).toNatClampNeg y_7 := ⟨_, rfl⟩
    have hP : va_P (dC, dI) vwCl [(h0, .inr (11, mX11 h1 h4 h11 h18 h23 h32 h33 h40 h48 h49 sp0 lw0)), (h40, .inr (7, mX7 h41 h42 h43 h44 h45 h46 h47 v40)), (h47, zi k47 270 f47), (h69, .inl (k69, 1, .inr (.inl f_8)))] H := by rw [e_f_8]; exact hP
    have hD : va_D A [(h0, .inr (11, mX11 h1 h4 h11 h18 h23 h32 h33 h40 h48 h49 sp0 lw0)), (h40, .inr (7, mX7 h41 h42 h43 h44 h45 h46 h47 v40)), (h47, zi k47 270 f47), (h69, .inl (k69, 1, .inr (.inl f_8)))] := by rw [e_f_8]; exact hD
    refine lv_goto (tgt := 15) hx hb dL_code_9 (by decide) ?_
    refine lv_iconst (v := 0) hx hb dL_code_15 (by decide) ?_
    refine W.widen (k := 1) (n := 6) (by decide) (by decide) ?_
    have hpost : (0 ≤ (0 : Int32).toInt ∧ (0 : Int32).toInt ≤ 1) := (by first | with_reducible assumption | exact ⟨by omega, by omega⟩)
    have hP9 : va_P (dC, dI) vwCl [(h0, .inr (11, mX11 h1 h4 h11 h18 h23 h32 h33 h40 h48 h49 sp0 lw0)), (h40, .inr (7, mX7 h41 h42 h43 h44 h45 h46 h47 v40)), (h47, zi k47 270 f47), (h69, .inl (k69, 1, .inr (.inl f_8)))] H := hP
    have hD9 : va_D A [(h0, .inr (11, mX11 h1 h4 h11 h18 h23 h32 h33 h40 h48 h49 sp0 lw0)), (h40, .inr (7, mX7 h41 h42 h43 h44 h45 h46 h47 v40)), (h47, zi k47 270 f47), (h69, .inl (k69, 1, .inr (.inl f_8)))] := hD
    exact vx_ret (W.iret (v := 0) hx hb hr (fun t ht hW => ⟨⟨0, (fun _ => 0), rfl, hpost, (fun _ => 0), (fun _ => (fun _ => 0)), (fun i => ([f_8] : List (Nat → Int64)).getD i (fun _ => 0)), by rw [ht]; exact hP9, va_K.moved hW.alike hK, hD9⟩, hS.F ht⟩) hS.2.2 dL_code_16)
set_option maxHeartbeats 8000000 in
set_option maxRecDepth 100000 in
theorem sL_like_0 (l : Launch) (hl0 : l.stackTraces = false) (dC : Nat → ClassId) (dI : Nat → Nat → Nat) (adK adV : Nat → Nat) (h0 : Nat) (h18 : Nat) (h19 : Nat) (h49 : Nat) (h66 : Nat) (h4 : Nat) (h6 : Nat) (h32 : Nat) (h23 : Nat) (h29 : Nat) (h27 : Nat) (h24 : Nat) (h25 : Nat) (h26 : Nat) (h28 : Nat) (h67 : Nat) (h69 : Nat) (h1 : Nat) (h11 : Nat) (h33 : Nat) (h40 : Nat) (h48 : Nat) (h20 : Nat) (h21 : Nat) (h22 : Nat) (h50 : Nat) (h56 : Nat) (h57 : Nat) (h59 : Nat) (h60 : Nat) (h61 : Nat) (h62 : Nat) (h63 : Nat) (h64 : Nat) (h65 : Nat) (h68 : Nat) (h5 : Nat) (h7 : Nat) (h8 : Nat) (h9 : Nat) (h10 : Nat) (h30 : Nat) (h31 : Nat) (k19 : ClassId) (k66 : ClassId) (k6 : ClassId) (k29 : ClassId) (k27 : ClassId) (k24 : ClassId) (k25 : ClassId) (k26 : ClassId) (k28 : ClassId) (k67 : ClassId) (k69 : ClassId) (sz : Nat) (sp0 : Value) (lw0 : Int64) (v18 : Nat → Int32) (f19 : Nat → Int32) (v49 : Nat → Int32) (f66 : Nat → Int32) (v4 : Nat → Int32) (f6 : Nat → Int32) (v32 : Nat → Int32) (v23 : Nat → Int32) (f29 : Nat → Int32) (f27 : Nat → Int32) (f24 : Nat → Int32) (f25 : Nat → Int32) (f26 : Nat → Int32) (f28 : Nat → Int32) (f67 : Nat → Int32) (f69 : Nat → Int64) (x1 : Int32) (hv18 : zR rg_Documents v18) (hv49 : zR rg_Finder v49) (hv4 : zR rg_Words400 v4) (hf6 : zA 0 399 f6) (hv23 : zR rg_Postings v23) (hf25 : zA 0 1250 f25) (hf28 : zA 0 832 f28) : Met l yL_like (.codeWith yL_like cL_like 4 (some .int) [(0, 9, 12, 13)] :: zG) { frames := 9, cells := 1, slots := 6, locals := 158 } (zPc dC dI adK adV [.ref h0, .int x1, .ref h69] sz [(h0, .inr (11, mX11 h1 h4 h11 h18 h23 h32 h33 h40 h48 h49 sp0 lw0)), (h18, .inr (0, mX0 h19 h20 h21 h22 v18)), (h19, zi k19 120 f19), (h49, .inr (1, mX1 h18 h4 h40 h50 h56 h57 h59 h60 h61 h62 h63 h64 h65 h66 h67 h68 v49)), (h66, zi k66 120 f66), (h4, .inr (10, mX10 h5 h6 h7 h8 h9 h10 v4)), (h6, zi k6 400 f6), (h32, .inr (8, mX8 h23 v32)), (h23, .inr (6, mX6 h24 h25 h26 h27 h28 h29 h30 h31 v23)), (h29, zi k29 400 f29), (h27, zi k27 400 f27), (h24, zi k24 1250 f24), (h25, zi k25 833 f25), (h26, zi k26 833 f26), (h28, zi k28 400 f28), (h67, zi k67 120 f67), (h69, .inl (k69, 1, .inr (.inl f69)))] [(k19, .boolean), (k66, .int), (k6, .int), (k29, .int), (k27, .int), (k24, .int), (k25, .int), (k26, .int), (k28, .int), (k67, .int), (k69, .long)]) (va_Qi (fun (r : Int32) (u : Nat → Int32) => (0 ≤ r.toInt ∧ r.toInt ≤ 1)) (fun (u : Nat → Int32) (t : State) => ∃ (ww : Nat → Int64) (aa : Nat → Nat → Int32) (bb : Nat → Nat → Int64), va_P (dC, dI) vwCl [(h0, .inr (11, mX11 h1 h4 h11 h18 h23 h32 h33 h40 h48 h49 sp0 lw0)), (h18, .inr (0, mX0 h19 h20 h21 h22 v18)), (h19, zi k19 120 f19), (h49, .inr (1, mX1 h18 h4 h40 h50 h56 h57 h59 h60 h61 h62 h63 h64 h65 h66 h67 h68 v49)), (h66, zi k66 120 (aa 0)), (h4, .inr (10, mX10 h5 h6 h7 h8 h9 h10 v4)), (h6, zi k6 400 f6), (h32, .inr (8, mX8 h23 (upd (upd (upd (upd (upd (upd (upd (upd v32 1 (u 0)) 2 (u 1)) 3 (u 2)) 4 (u 3)) 5 (u 4)) 6 (u 5)) 7 (u 6)) 8 (u 7)))), (h23, .inr (6, mX6 h24 h25 h26 h27 h28 h29 h30 h31 v23)), (h29, zi k29 400 f29), (h27, zi k27 400 f27), (h24, zi k24 1250 f24), (h25, zi k25 833 f25), (h26, zi k26 833 f26), (h28, zi k28 400 f28), (h67, zi k67 120 (aa 1)), (h69, .inl (k69, 1, .inr (.inl (bb 0))))] t.heap ∧ va_K (dC, dI) vwCl [(k19, .boolean), (k66, .int), (k6, .int), (k29, .int), (k27, .int), (k24, .int), (k25, .int), (k26, .int), (k28, .int), (k67, .int), (k69, .long)] t ∧ va_D (va_A [(h0, .inr (11, mX11 h1 h4 h11 h18 h23 h32 h33 h40 h48 h49 sp0 lw0)), (h18, .inr (0, mX0 h19 h20 h21 h22 v18)), (h19, zi k19 120 f19), (h49, .inr (1, mX1 h18 h4 h40 h50 h56 h57 h59 h60 h61 h62 h63 h64 h65 h66 h67 h68 v49)), (h66, zi k66 120 f66), (h4, .inr (10, mX10 h5 h6 h7 h8 h9 h10 v4)), (h6, zi k6 400 f6), (h32, .inr (8, mX8 h23 v32)), (h23, .inr (6, mX6 h24 h25 h26 h27 h28 h29 h30 h31 v23)), (h29, zi k29 400 f29), (h27, zi k27 400 f27), (h24, zi k24 1250 f24), (h25, zi k25 833 f25), (h26, zi k26 833 f26), (h28, zi k28 400 f28), (h67, zi k67 120 f67), (h69, .inl (k69, 1, .inr (.inl f69)))] sz) [(h0, .inr (11, mX11 h1 h4 h11 h18 h23 h32 h33 h40 h48 h49 sp0 lw0)), (h18, .inr (0, mX0 h19 h20 h21 h22 v18)), (h19, zi k19 120 f19), (h49, .inr (1, mX1 h18 h4 h40 h50 h56 h57 h59 h60 h61 h62 h63 h64 h65 h66 h67 h68 v49)), (h66, zi k66 120 (aa 0)), (h4, .inr (10, mX10 h5 h6 h7 h8 h9 h10 v4)), (h6, zi k6 400 f6), (h32, .inr (8, mX8 h23 (upd (upd (upd (upd (upd (upd (upd (upd v32 1 (u 0)) 2 (u 1)) 3 (u 2)) 4 (u 3)) 5 (u 4)) 6 (u 5)) 7 (u 6)) 8 (u 7)))), (h23, .inr (6, mX6 h24 h25 h26 h27 h28 h29 h30 h31 v23)), (h29, zi k29 400 f29), (h27, zi k27 400 f27), (h24, zi k24 1250 f24), (h25, zi k25 833 f25), (h26, zi k26 833 f26), (h28, zi k28 400 f28), (h67, zi k67 120 (aa 1)), (h69, .inl (k69, 1, .inr (.inl (bb 0))))]) (va_A [(h0, .inr (11, mX11 h1 h4 h11 h18 h23 h32 h33 h40 h48 h49 sp0 lw0)), (h18, .inr (0, mX0 h19 h20 h21 h22 v18)), (h19, zi k19 120 f19), (h49, .inr (1, mX1 h18 h4 h40 h50 h56 h57 h59 h60 h61 h62 h63 h64 h65 h66 h67 h68 v49)), (h66, zi k66 120 f66), (h4, .inr (10, mX10 h5 h6 h7 h8 h9 h10 v4)), (h6, zi k6 400 f6), (h32, .inr (8, mX8 h23 v32)), (h23, .inr (6, mX6 h24 h25 h26 h27 h28 h29 h30 h31 v23)), (h29, zi k29 400 f29), (h27, zi k27 400 f27), (h24, zi k24 1250 f24), (h25, zi k25 833 f25), (h26, zi k26 833 f26), (h28, zi k28 400 f28), (h67, zi k67 120 f67), (h69, .inl (k69, 1, .inr (.inl f69)))] sz)) 1 6 (va_A [(h0, .inr (11, mX11 h1 h4 h11 h18 h23 h32 h33 h40 h48 h49 sp0 lw0)), (h18, .inr (0, mX0 h19 h20 h21 h22 v18)), (h19, zi k19 120 f19), (h49, .inr (1, mX1 h18 h4 h40 h50 h56 h57 h59 h60 h61 h62 h63 h64 h65 h66 h67 h68 v49)), (h66, zi k66 120 f66), (h4, .inr (10, mX10 h5 h6 h7 h8 h9 h10 v4)), (h6, zi k6 400 f6), (h32, .inr (8, mX8 h23 v32)), (h23, .inr (6, mX6 h24 h25 h26 h27 h28 h29 h30 h31 v23)), (h29, zi k29 400 f29), (h27, zi k27 400 f27), (h24, zi k24 1250 f24), (h25, zi k25 833 f25), (h26, zi k26 833 f26), (h28, zi k28 400 f28), (h67, zi k67 120 f67), (h69, .inl (k69, 1, .inr (.inl f69)))] sz) := by
  refine zmet_of (vx_ofWH (cc := cL_like) (maxL := 4) (ret := (some .int)) (hh := [(0, 9, 12, 13)]) (by decide) rfl ?_)
  intro p e s m args below meth c s₁ B hml hv
  obtain ⟨rfl, hsz, hP, hK, hD0, hE, hZ⟩ := hv
  have hx := B.exec
  have hb := B.bytes
  have hr := B.returns
  have hG : ∀ w ∈ zG, w.before _ s = true := fun w h => atoms_spec (ws := (.codeWith yL_like cL_like 4 (some .int) [(0, 9, 12, 13)] :: zG)) B.pre w (List.mem_cons_of_mem _ h)
  have hown : s.vm.findClass RL = some m.cls := findClass_of_methodNamed B.named
  have hlocks := B.notSynchronized
  have htab : c.exceptionTable.toList = tableOf [(0, 9, 12, 13)] := vx_table (x := yL_like) B (atoms_spec (ws := (.codeWith yL_like cL_like 4 (some .int) [(0, 9, 12, 13)] :: zG)) B.pre _ List.mem_cons_self)
  subst hsz
  have hD := hD0.self (sz := s.heap.size)
  generalize hAe : va_A [(h0, .inr (11, mX11 h1 h4 h11 h18 h23 h32 h33 h40 h48 h49 sp0 lw0)), (h18, .inr (0, mX0 h19 h20 h21 h22 v18)), (h19, zi k19 120 f19), (h49, .inr (1, mX1 h18 h4 h40 h50 h56 h57 h59 h60 h61 h62 h63 h64 h65 h66 h67 h68 v49)), (h66, zi k66 120 f66), (h4, .inr (10, mX10 h5 h6 h7 h8 h9 h10 v4)), (h6, zi k6 400 f6), (h32, .inr (8, mX8 h23 v32)), (h23, .inr (6, mX6 h24 h25 h26 h27 h28 h29 h30 h31 v23)), (h29, zi k29 400 f29), (h27, zi k27 400 f27), (h24, zi k24 1250 f24), (h25, zi k25 833 f25), (h26, zi k26 833 f26), (h28, zi k28 400 f28), (h67, zi k67 120 f67), (h69, .inl (k69, 1, .inr (.inl f69)))] s.heap.size = A at hD hZ ⊢
  have hA : ∀ q : Nat, s.heap.size ≤ q → A q := fun q h => by rw [← hAe]; exact Or.inr h
  have hS : va_S A s.heap s.heap [] := va_S.rf
  have hl := lv_entry ([.ref h0, .int x1, .ref h69]) (n := 4) (Nat.le_of_ble_eq_true rfl)
  rw [lg_entry_eq]
  generalize (lg_sl ([.ref h0, .int x1, .ref h69]) ++ List.replicate (4 - (lg_sl ([.ref h0, .int x1, .ref h69])).length) Slot.unset).toArray = ls at hl ⊢
  have hl : lv_has ls 4 [(0, .ref h0), (1, .int x1), (2, .ref h69)] := hl
  have b_ := zk_0
  have b_ := zk_1
  refine lv_aload_n hx hb dL_like_0 rfl (lv_at hl 2 rfl) ?_
  refine lv_iconst (v := 0) hx hb dL_like_1 (by decide) ?_
  refine lv_aload_n hx hb dL_like_2 rfl (lv_at hl 0 rfl) ?_
  refine lv_iload_n hx hb dL_like_3 rfl (lv_at hl 1 rfl) ?_
  have hPc := hP.sub (ws' := [(h0, .inr (11, mX11 h1 h4 h11 h18 h23 h32 h33 h40 h48 h49 sp0 lw0)), (h18, .inr (0, mX0 h19 h20 h21 h22 v18)), (h19, zi k19 120 f19), (h49, .inr (1, mX1 h18 h4 h40 h50 h56 h57 h59 h60 h61 h62 h63 h64 h65 h66 h67 h68 v49)), (h66, zi k66 120 f66), (h4, .inr (10, mX10 h5 h6 h7 h8 h9 h10 v4)), (h6, zi k6 400 f6), (h32, .inr (8, mX8 h23 v32)), (h23, .inr (6, mX6 h24 h25 h26 h27 h28 h29 h30 h31 v23)), (h29, zi k29 400 f29), (h27, zi k27 400 f27), (h24, zi k24 1250 f24), (h25, zi k25 833 f25), (h26, zi k26 833 f26), (h28, zi k28 400 f28), (h67, zi k67 120 f67)]) [0, 1, 2, 3, 4, 5, 6, 7, 8, 9, 10, 11, 12, 13, 14, 15] rfl
  have hDc := hD.sub (ws' := [(h0, .inr (11, mX11 h1 h4 h11 h18 h23 h32 h33 h40 h48 h49 sp0 lw0)), (h18, .inr (0, mX0 h19 h20 h21 h22 v18)), (h19, zi k19 120 f19), (h49, .inr (1, mX1 h18 h4 h40 h50 h56 h57 h59 h60 h61 h62 h63 h64 h65 h66 h67 h68 v49)), (h66, zi k66 120 f66), (h4, .inr (10, mX10 h5 h6 h7 h8 h9 h10 v4)), (h6, zi k6 400 f6), (h32, .inr (8, mX8 h23 v32)), (h23, .inr (6, mX6 h24 h25 h26 h27 h28 h29 h30 h31 v23)), (h29, zi k29 400 f29), (h27, zi k27 400 f27), (h24, zi k24 1250 f24), (h25, zi k25 833 f25), (h26, zi k26 833 f26), (h28, zi k28 400 f28), (h67, zi k67 120 f67)]) [0, 1, 2, 3, 4, 5, 6, 7, 8, 9, 10, 11, 12, 13, 14, 15] (by decide) rfl
  have hKc := hK.sub (tys' := [(k19, .boolean), (k66, .int), (k6, .int), (k29, .int), (k27, .int), (k24, .int), (k25, .int), (k26, .int), (k28, .int), (k67, .int)]) [0, 1, 2, 3, 4, 5, 6, 7, 8, 9] rfl
  have hFc := va_free (wc := [(h0, .inr (11, mX11 h1 h4 h11 h18 h23 h32 h33 h40 h48 h49 sp0 lw0)), (h18, .inr (0, mX0 h19 h20 h21 h22 v18)), (h19, zi k19 120 f19), (h49, .inr (1, mX1 h18 h4 h40 h50 h56 h57 h59 h60 h61 h62 h63 h64 h65 h66 h67 h68 v49)), (h66, zi k66 120 f66), (h4, .inr (10, mX10 h5 h6 h7 h8 h9 h10 v4)), (h6, zi k6 400 f6), (h32, .inr (8, mX8 h23 v32)), (h23, .inr (6, mX6 h24 h25 h26 h27 h28 h29 h30 h31 v23)), (h29, zi k29 400 f29), (h27, zi k27 400 f27), (h24, zi k24 1250 f24), (h25, zi k25 833 f25), (h26, zi k26 833 f26), (h28, zi k28 400 f28), (h67, zi k67 120 f67)]) hD hS hA [0, 1, 2, 3, 4, 5, 6, 7, 8, 9, 10, 11, 12, 13, 14, 15] rfl
  refine vx_calli (vx_runV (As := [.int x1]) (rest := [.int 0, .ref h69]) ⟨hx, hb, hml, hown, hG⟩ (sX11_like_0 l hl0 dC dI adK adV h0 h18 h19 h49 h66 h4 h6 h32 h23 h29 h27 h24 h25 h26 h28 h67 h1 h11 h33 h40 h48 h20 h21 h22 h50 h56 h57 h59 h60 h61 h62 h63 h64 h65 h68 h5 h7 h8 h9 h10 h30 h31 k19 k66 k6 k29 k27 k24 k25 k26 k28 k67 s.heap.size sp0 lw0 v18 f19 v49 f66 v4 f6 v32 v23 f29 f27 f24 f25 f26 f28 f67 x1 hv18 hv49 hv4 hf6 hv23 hf25 hf28) (cwV 1 hG (zgV zv1554 zv1555 zv1556 zv129 zv1557) rfl rfl rfl (by decide +kernel) ⟨Nat.le_of_ble_eq_true rfl, Nat.le_of_ble_eq_true rfl⟩) ⟨zPc_blind, va_recv hKc hPc (ci := 11) (q0 := 0) rfl rfl, zPc_pre hPc hKc hDc hE hS hFc hZ⟩ rfl rfl hl.1 rfl (lv_room (Nat.le_of_ble_eq_true rfl)) dL_like_4 ⟨Nat.le_of_ble_eq_true rfl, Nat.le_of_ble_eq_true rfl⟩) hS (fun q _ h => hFc q h) hFc (fun q _ h => hFc q h) (fun E ce q9 x4_ t H1 locs ht hvm hpx hBX hz1 hk1 hS hce hcv hcl => ?_) (fun r4_ u4_ t H1 locs ht hvm hw hB hz1 hk1 hS => ?_)
  · skip
    obtain ⟨rfl, w4_, a4_, b4_, hP1, hK1, hD1⟩ := hBX
    rw [ht] at hP1
    obtain ⟨hP, hD⟩ := va_join (wr := [(h69, .inl (k69, 1, .inr (.inl f69)))]) (w1 := [(h0, .inr (11, mX11 h1 h4 h11 h18 h23 h32 h33 h40 h48 h49 sp0 lw0)), (h18, .inr (0, mX0 h19 h20 h21 h22 v18)), (h19, zi k19 120 f19), (h49, .inr (1, mX1 h18 h4 h40 h50 h56 h57 h59 h60 h61 h62 h63 h64 h65 h66 h67 h68 v49)), (h66, zi k66 120 (a4_ 0)), (h4, .inr (10, mX10 h5 h6 h7 h8 h9 h10 v4)), (h6, zi k6 400 f6), (h32, .inr (8, mX8 h23 (upd (upd (upd (upd (upd (upd (upd (upd v32 1 (x4_ 0)) 2 (x4_ 1)) 3 (x4_ 2)) 4 (x4_ 3)) 5 (x4_ 4)) 6 (x4_ 5)) 7 (x4_ 6)) 8 (x4_ 7)))), (h23, .inr (6, mX6 h24 h25 h26 h27 h28 h29 h30 h31 v23)), (h29, zi k29 400 f29), (h27, zi k27 400 f27), (h24, zi k24 1250 f24), (h25, zi k25 833 f25), (h26, zi k26 833 f26), (h28, zi k28 400 f28), (h67, zi k67 120 (a4_ 1))]) hP hD [0, 1, 2, 3, 4, 5, 6, 7, 8, 9, 10, 11, 12, 13, 14, 15] [16] rfl rfl (by decide) (by decide) hk1 hFc hP1 hD1
    have hP : va_P (dC, dI) vwCl [(h0, .inr (11, mX11 h1 h4 h11 h18 h23 h32 h33 h40 h48 h49 sp0 lw0)), (h18, .inr (0, mX0 h19 h20 h21 h22 v18)), (h19, zi k19 120 f19), (h49, .inr (1, mX1 h18 h4 h40 h50 h56 h57 h59 h60 h61 h62 h63 h64 h65 h66 h67 h68 v49)), (h66, zi k66 120 (a4_ 0)), (h4, .inr (10, mX10 h5 h6 h7 h8 h9 h10 v4)), (h6, zi k6 400 f6), (h32, .inr (8, mX8 h23 (upd (upd (upd (upd (upd (upd (upd (upd v32 1 (x4_ 0)) 2 (x4_ 1)) 3 (x4_ 2)) 4 (x4_ 3)) 5 (x4_ 4)) 6 (x4_ 5)) 7 (x4_ 6)) 8 (x4_ 7)))), (h23, .inr (6, mX6 h24 h25 h26 h27 h28 h29 h30 h31 v23)), (h29, zi k29 400 f29), (h27, zi k27 400 f27), (h24, zi k24 1250 f24), (h25, zi k25 833 f25), (h26, zi k26 833 f26), (h28, zi k28 400 f28), (h67, zi k67 120 (a4_ 1)), (h69, .inl (k69, 1, .inr (.inl f69)))] H1 := hP.sub [1, 2, 3, 4, 5, 6, 7, 8, 9, 10, 11, 12, 13, 14, 15, 16, 0] rfl
    have hD : va_D A [(h0, .inr (11, mX11 h1 h4 h11 h18 h23 h32 h33 h40 h48 h49 sp0 lw0)), (h18, .inr (0, mX0 h19 h20 h21 h22 v18)), (h19, zi k19 120 f19), (h49, .inr (1, mX1 h18 h4 h40 h50 h56 h57 h59 h60 h61 h62 h63 h64 h65 h66 h67 h68 v49)), (h66, zi k66 120 (a4_ 0)), (h4, .inr (10, mX10 h5 h6 h7 h8 h9 h10 v4)), (h6, zi k6 400 f6), (h32, .inr (8, mX8 h23 (upd (upd (upd (upd (upd (upd (upd (upd v32 1 (x4_ 0)) 2 (x4_ 1)) 3 (x4_ 2)) 4 (x4_ 3)) 5 (x4_ 4)) 6 (x4_ 5)) 7 (x4_ 6)) 8 (x4_ 7)))), (h23, .inr (6, mX6 h24 h25 h26 h27 h28 h29 h30 h31 v23)), (h29, zi k29 400 f29), (h27, zi k27 400 f27), (h24, zi k24 1250 f24), (h25, zi k25 833 f25), (h26, zi k26 833 f26), (h28, zi k28 400 f28), (h67, zi k67 120 (a4_ 1)), (h69, .inl (k69, 1, .inr (.inl f69)))] := hD.sub [1, 2, 3, 4, 5, 6, 7, 8, 9, 10, 11, 12, 13, 14, 15, 16, 0] (by decide) rfl
    clear hz1
    refine z_catch (x := _) (suf := []) hown htab (by decide) (by decide) (hG _ zv1405) (va_Nw.use rfl (zE_castI hE)) hce hcv hcl ?_
    refine W.eq (g2 := F0 m 12 ls [.ref q9]) rfl ?_
    generalize H1 = H at hP hS ⊢
    refine lv_astore_n (lv' := [(3, .ref q9), (0, .ref h0), (1, .int x1), (2, .ref h69)]) hx hb dL_like_12 rfl hl (by decide) rfl (fun ls hl => ?_)
    refine lv_iconst (v := 1) hx hb dL_like_13 (by decide) ?_
    refine W.widen (k := 1) (n := 6) (by decide) (by decide) ?_
    have b_ : -2147483648 ≤ (x4_ 0).toInt ∧ (x4_ 0).toInt ≤ 2147483647 := ⟨zlo _, zhi _⟩
    have b_ : -2147483648 ≤ (x4_ 1).toInt ∧ (x4_ 1).toInt ≤ 2147483647 := ⟨zlo _, zhi _⟩
    have b_ : -2147483648 ≤ (x4_ 2).toInt ∧ (x4_ 2).toInt ≤ 2147483647 := ⟨zlo _, zhi _⟩
    have b_ : -2147483648 ≤ (x4_ 3).toInt ∧ (x4_ 3).toInt ≤ 2147483647 := ⟨zlo _, zhi _⟩
    have b_ : -2147483648 ≤ (x4_ 4).toInt ∧ (x4_ 4).toInt ≤ 2147483647 := ⟨zlo _, zhi _⟩
    have b_ : -2147483648 ≤ (x4_ 5).toInt ∧ (x4_ 5).toInt ≤ 2147483647 := ⟨zlo _, zhi _⟩
    have b_ : -2147483648 ≤ (x4_ 6).toInt ∧ (x4_ 6).toInt ≤ 2147483647 := ⟨zlo _, zhi _⟩
    have b_ : -2147483648 ≤ (x4_ 7).toInt ∧ (x4_ 7).toInt ≤ 2147483647 := ⟨zlo _, zhi _⟩
    have hpost : (0 ≤ (1 : Int32).toInt ∧ (1 : Int32).toInt ≤ 1) := (by first | with_reducible assumption | exact ⟨by omega, by omega⟩)
    have hP9 : va_P (dC, dI) vwCl [(h0, .inr (11, mX11 h1 h4 h11 h18 h23 h32 h33 h40 h48 h49 sp0 lw0)), (h18, .inr (0, mX0 h19 h20 h21 h22 v18)), (h19, zi k19 120 f19), (h49, .inr (1, mX1 h18 h4 h40 h50 h56 h57 h59 h60 h61 h62 h63 h64 h65 h66 h67 h68 v49)), (h66, zi k66 120 (a4_ 0)), (h4, .inr (10, mX10 h5 h6 h7 h8 h9 h10 v4)), (h6, zi k6 400 f6), (h32, .inr (8, mX8 h23 (upd (upd (upd (upd (upd (upd (upd (upd v32 1 (x4_ 0)) 2 (x4_ 1)) 3 (x4_ 2)) 4 (x4_ 3)) 5 (x4_ 4)) 6 (x4_ 5)) 7 (x4_ 6)) 8 (x4_ 7)))), (h23, .inr (6, mX6 h24 h25 h26 h27 h28 h29 h30 h31 v23)), (h29, zi k29 400 f29), (h27, zi k27 400 f27), (h24, zi k24 1250 f24), (h25, zi k25 833 f25), (h26, zi k26 833 f26), (h28, zi k28 400 f28), (h67, zi k67 120 (a4_ 1)), (h69, .inl (k69, 1, .inr (.inl f69)))] H := hP
    have hD9 : va_D A [(h0, .inr (11, mX11 h1 h4 h11 h18 h23 h32 h33 h40 h48 h49 sp0 lw0)), (h18, .inr (0, mX0 h19 h20 h21 h22 v18)), (h19, zi k19 120 f19), (h49, .inr (1, mX1 h18 h4 h40 h50 h56 h57 h59 h60 h61 h62 h63 h64 h65 h66 h67 h68 v49)), (h66, zi k66 120 (a4_ 0)), (h4, .inr (10, mX10 h5 h6 h7 h8 h9 h10 v4)), (h6, zi k6 400 f6), (h32, .inr (8, mX8 h23 (upd (upd (upd (upd (upd (upd (upd (upd v32 1 (x4_ 0)) 2 (x4_ 1)) 3 (x4_ 2)) 4 (x4_ 3)) 5 (x4_ 4)) 6 (x4_ 5)) 7 (x4_ 6)) 8 (x4_ 7)))), (h23, .inr (6, mX6 h24 h25 h26 h27 h28 h29 h30 h31 v23)), (h29, zi k29 400 f29), (h27, zi k27 400 f27), (h24, zi k24 1250 f24), (h25, zi k25 833 f25), (h26, zi k26 833 f26), (h28, zi k28 400 f28), (h67, zi k67 120 (a4_ 1)), (h69, .inl (k69, 1, .inr (.inl f69)))] := hD
    exact vx_ret (W.iret (v := 1) hx hb hr (fun t ht hW => ⟨⟨1, (fun i => ([(x4_ 0), (x4_ 1), (x4_ 2), (x4_ 3), (x4_ 4), (x4_ 5), (x4_ 6), (x4_ 7)] : List (Int32)).getD i 0), rfl, hpost, (fun _ => 0), (fun i => ([(a4_ 0), (a4_ 1)] : List (Nat → Int32)).getD i (fun _ => 0)), (fun i => ([f69] : List (Nat → Int64)).getD i (fun _ => 0)), by rw [ht]; exact hP9, va_K.moved hW.alike hK, hD9⟩, hS.F ht⟩) hS.2.2 dL_like_14)
  · skip
    replace hw : ((-1) ≤ r4_.toInt ∧ r4_.toInt ≤ 119) := hw
    have b_ := hw
    obtain ⟨w4_, a4_, b4_, hP1, hK1, hD1⟩ := hB
    rw [ht] at hP1
    obtain ⟨hP, hD⟩ := va_join (wr := [(h69, .inl (k69, 1, .inr (.inl f69)))]) (w1 := [(h0, .inr (11, mX11 h1 h4 h11 h18 h23 h32 h33 h40 h48 h49 sp0 lw0)), (h18, .inr (0, mX0 h19 h20 h21 h22 v18)), (h19, zi k19 120 f19), (h49, .inr (1, mX1 h18 h4 h40 h50 h56 h57 h59 h60 h61 h62 h63 h64 h65 h66 h67 h68 v49)), (h66, zi k66 120 (a4_ 0)), (h4, .inr (10, mX10 h5 h6 h7 h8 h9 h10 v4)), (h6, zi k6 400 f6), (h32, .inr (8, mX8 h23 (upd (upd (upd (upd (upd (upd (upd (upd v32 1 (u4_ 0)) 2 (u4_ 1)) 3 (u4_ 2)) 4 (u4_ 3)) 5 (u4_ 4)) 6 (u4_ 5)) 7 (u4_ 6)) 8 (u4_ 7)))), (h23, .inr (6, mX6 h24 h25 h26 h27 h28 h29 h30 h31 v23)), (h29, zi k29 400 f29), (h27, zi k27 400 f27), (h24, zi k24 1250 f24), (h25, zi k25 833 f25), (h26, zi k26 833 f26), (h28, zi k28 400 f28), (h67, zi k67 120 (a4_ 1))]) hP hD [0, 1, 2, 3, 4, 5, 6, 7, 8, 9, 10, 11, 12, 13, 14, 15] [16] rfl rfl (by decide) (by decide) hk1 hFc hP1 hD1
    have hP : va_P (dC, dI) vwCl [(h0, .inr (11, mX11 h1 h4 h11 h18 h23 h32 h33 h40 h48 h49 sp0 lw0)), (h18, .inr (0, mX0 h19 h20 h21 h22 v18)), (h19, zi k19 120 f19), (h49, .inr (1, mX1 h18 h4 h40 h50 h56 h57 h59 h60 h61 h62 h63 h64 h65 h66 h67 h68 v49)), (h66, zi k66 120 (a4_ 0)), (h4, .inr (10, mX10 h5 h6 h7 h8 h9 h10 v4)), (h6, zi k6 400 f6), (h32, .inr (8, mX8 h23 (upd (upd (upd (upd (upd (upd (upd (upd v32 1 (u4_ 0)) 2 (u4_ 1)) 3 (u4_ 2)) 4 (u4_ 3)) 5 (u4_ 4)) 6 (u4_ 5)) 7 (u4_ 6)) 8 (u4_ 7)))), (h23, .inr (6, mX6 h24 h25 h26 h27 h28 h29 h30 h31 v23)), (h29, zi k29 400 f29), (h27, zi k27 400 f27), (h24, zi k24 1250 f24), (h25, zi k25 833 f25), (h26, zi k26 833 f26), (h28, zi k28 400 f28), (h67, zi k67 120 (a4_ 1)), (h69, .inl (k69, 1, .inr (.inl f69)))] H1 := hP.sub [1, 2, 3, 4, 5, 6, 7, 8, 9, 10, 11, 12, 13, 14, 15, 16, 0] rfl
    have hD : va_D A [(h0, .inr (11, mX11 h1 h4 h11 h18 h23 h32 h33 h40 h48 h49 sp0 lw0)), (h18, .inr (0, mX0 h19 h20 h21 h22 v18)), (h19, zi k19 120 f19), (h49, .inr (1, mX1 h18 h4 h40 h50 h56 h57 h59 h60 h61 h62 h63 h64 h65 h66 h67 h68 v49)), (h66, zi k66 120 (a4_ 0)), (h4, .inr (10, mX10 h5 h6 h7 h8 h9 h10 v4)), (h6, zi k6 400 f6), (h32, .inr (8, mX8 h23 (upd (upd (upd (upd (upd (upd (upd (upd v32 1 (u4_ 0)) 2 (u4_ 1)) 3 (u4_ 2)) 4 (u4_ 3)) 5 (u4_ 4)) 6 (u4_ 5)) 7 (u4_ 6)) 8 (u4_ 7)))), (h23, .inr (6, mX6 h24 h25 h26 h27 h28 h29 h30 h31 v23)), (h29, zi k29 400 f29), (h27, zi k27 400 f27), (h24, zi k24 1250 f24), (h25, zi k25 833 f25), (h26, zi k26 833 f26), (h28, zi k28 400 f28), (h67, zi k67 120 (a4_ 1)), (h69, .inl (k69, 1, .inr (.inl f69)))] := hD.sub [1, 2, 3, 4, 5, 6, 7, 8, 9, 10, 11, 12, 13, 14, 15, 16, 0] (by decide) rfl
    generalize H1 = H at hP hS ⊢
    clear hz1
    refine lv_i2l hx hb dL_like_7 rfl ?_
    refine lv_topl (fun y_7 e_y_7 => ?_)
    refine va_last hx hb hK hP hD hS 16 10 rfl rfl (zin_lit (by decide)) dL_like_8 (fun H locs hP hD hS => ?_)
    obtain ⟨f_8, e_f_8⟩ : ∃ z : Nat → Int64, z = vp_updL f69 (0 : Int32).toNatClampNeg y_7 := ⟨_, rfl⟩
    have hP : va_P (dC, dI) vwCl [(h0, .inr (11, mX11 h1 h4 h11 h18 h23 h32 h33 h40 h48 h49 sp0 lw0)), (h18, .inr (0, mX0 h19 h20 h21 h22 v18)), (h19, zi k19 120 f19), (h49, .inr (1, mX1 h18 h4 h40 h50 h56 h57 h59 h60 h61 h62 h63 h64 h65 h66 h67 h68 v49)), (h66, zi k66 120 (a4_ 0)), (h4, .inr (10, mX10 h5 h6 h7 h8 h9 h10 v4)), (h6, zi k6 400 f6), (h32, .inr (8, mX8 h23 (upd (upd (upd (upd (upd (upd (upd (upd v32 1 (u4_ 0)) 2 (u4_ 1)) 3 (u4_ 2)) 4 (u4_ 3)) 5 (u4_ 4)) 6 (u4_ 5)) 7 (u4_ 6)) 8 (u4_ 7)))), (h23, .inr (6, mX6 h24 h25 h26 h27 h28 h29 h30 h31 v23)), (h29, zi k29 400 f29), (h27, zi k27 400 f27), (h24, zi k24 1250 f24), (h25, zi k25 833 f25), (h26, zi k26 833 f26), (h28, zi k28 400 f28), (h67, zi k67 120 (a4_ 1)), (h69, .inl (k69, 1, .inr (.inl f_8)))] H := by rw [e_f_8]; exact hP
    have hD : va_D A [(h0, .inr (11, mX11 h1 h4 h11 h18 h23 h32 h33 h40 h48 h49 sp0 lw0)), (h18, .inr (0, mX0 h19 h20 h21 h22 v18)), (h19, zi k19 120 f19), (h49, .inr (1, mX1 h18 h4 h40 h50 h56 h57 h59 h60 h61 h62 h63 h64 h65 h66 h67 h68 v49)), (h66, zi k66 120 (a4_ 0)), (h4, .inr (10, mX10 h5 h6 h7 h8 h9 h10 v4)), (h6, zi k6 400 f6), (h32, .inr (8, mX8 h23 (upd (upd (upd (upd (upd (upd (upd (upd v32 1 (u4_ 0)) 2 (u4_ 1)) 3 (u4_ 2)) 4 (u4_ 3)) 5 (u4_ 4)) 6 (u4_ 5)) 7 (u4_ 6)) 8 (u4_ 7)))), (h23, .inr (6, mX6 h24 h25 h26 h27 h28 h29 h30 h31 v23)), (h29, zi k29 400 f29), (h27, zi k27 400 f27), (h24, zi k24 1250 f24), (h25, zi k25 833 f25), (h26, zi k26 833 f26), (h28, zi k28 400 f28), (h67, zi k67 120 (a4_ 1)), (h69, .inl (k69, 1, .inr (.inl f_8)))] := by rw [e_f_8]; exact hD
    refine lv_goto (tgt := 15) hx hb dL_like_9 (by decide) ?_
    refine lv_iconst (v := 0) hx hb dL_like_15 (by decide) ?_
    refine W.widen (k := 1) (n := 6) (by decide) (by decide) ?_
    have b_ : -2147483648 ≤ (u4_ 0).toInt ∧ (u4_ 0).toInt ≤ 2147483647 := ⟨zlo _, zhi _⟩
    have b_ : -2147483648 ≤ (u4_ 1).toInt ∧ (u4_ 1).toInt ≤ 2147483647 := ⟨zlo _, zhi _⟩
    have b_ : -2147483648 ≤ (u4_ 2).toInt ∧ (u4_ 2).toInt ≤ 2147483647 := ⟨zlo _, zhi _⟩
    have b_ : -2147483648 ≤ (u4_ 3).toInt ∧ (u4_ 3).toInt ≤ 2147483647 := ⟨zlo _, zhi _⟩
    have b_ : -2147483648 ≤ (u4_ 4).toInt ∧ (u4_ 4).toInt ≤ 2147483647 := ⟨zlo _, zhi _⟩
    have b_ : -2147483648 ≤ (u4_ 5).toInt ∧ (u4_ 5).toInt ≤ 2147483647 := ⟨zlo _, zhi _⟩
    have b_ : -2147483648 ≤ (u4_ 6).toInt ∧ (u4_ 6).toInt ≤ 2147483647 := ⟨zlo _, zhi _⟩
    have b_ : -2147483648 ≤ (u4_ 7).toInt ∧ (u4_ 7).toInt ≤ 2147483647 := ⟨zlo _, zhi _⟩
    have hpost : (0 ≤ (0 : Int32).toInt ∧ (0 : Int32).toInt ≤ 1) := (by first | with_reducible assumption | exact ⟨by omega, by omega⟩)
    have hP9 : va_P (dC, dI) vwCl [(h0, .inr (11, mX11 h1 h4 h11 h18 h23 h32 h33 h40 h48 h49 sp0 lw0)), (h18, .inr (0, mX0 h19 h20 h21 h22 v18)), (h19, zi k19 120 f19), (h49, .inr (1, mX1 h18 h4 h40 h50 h56 h57 h59 h60 h61 h62 h63 h64 h65 h66 h67 h68 v49)), (h66, zi k66 120 (a4_ 0)), (h4, .inr (10, mX10 h5 h6 h7 h8 h9 h10 v4)), (h6, zi k6 400 f6), (h32, .inr (8, mX8 h23 (upd (upd (upd (upd (upd (upd (upd (upd v32 1 (u4_ 0)) 2 (u4_ 1)) 3 (u4_ 2)) 4 (u4_ 3)) 5 (u4_ 4)) 6 (u4_ 5)) 7 (u4_ 6)) 8 (u4_ 7)))), (h23, .inr (6, mX6 h24 h25 h26 h27 h28 h29 h30 h31 v23)), (h29, zi k29 400 f29), (h27, zi k27 400 f27), (h24, zi k24 1250 f24), (h25, zi k25 833 f25), (h26, zi k26 833 f26), (h28, zi k28 400 f28), (h67, zi k67 120 (a4_ 1)), (h69, .inl (k69, 1, .inr (.inl f_8)))] H := hP
    have hD9 : va_D A [(h0, .inr (11, mX11 h1 h4 h11 h18 h23 h32 h33 h40 h48 h49 sp0 lw0)), (h18, .inr (0, mX0 h19 h20 h21 h22 v18)), (h19, zi k19 120 f19), (h49, .inr (1, mX1 h18 h4 h40 h50 h56 h57 h59 h60 h61 h62 h63 h64 h65 h66 h67 h68 v49)), (h66, zi k66 120 (a4_ 0)), (h4, .inr (10, mX10 h5 h6 h7 h8 h9 h10 v4)), (h6, zi k6 400 f6), (h32, .inr (8, mX8 h23 (upd (upd (upd (upd (upd (upd (upd (upd v32 1 (u4_ 0)) 2 (u4_ 1)) 3 (u4_ 2)) 4 (u4_ 3)) 5 (u4_ 4)) 6 (u4_ 5)) 7 (u4_ 6)) 8 (u4_ 7)))), (h23, .inr (6, mX6 h24 h25 h26 h27 h28 h29 h30 h31 v23)), (h29, zi k29 400 f29), (h27, zi k27 400 f27), (h24, zi k24 1250 f24), (h25, zi k25 833 f25), (h26, zi k26 833 f26), (h28, zi k28 400 f28), (h67, zi k67 120 (a4_ 1)), (h69, .inl (k69, 1, .inr (.inl f_8)))] := hD
    exact vx_ret (W.iret (v := 0) hx hb hr (fun t ht hW => ⟨⟨0, (fun i => ([(u4_ 0), (u4_ 1), (u4_ 2), (u4_ 3), (u4_ 4), (u4_ 5), (u4_ 6), (u4_ 7)] : List (Int32)).getD i 0), rfl, hpost, (fun _ => 0), (fun i => ([(a4_ 0), (a4_ 1)] : List (Nat → Int32)).getD i (fun _ => 0)), (fun i => ([f_8] : List (Nat → Int64)).getD i (fun _ => 0)), by rw [ht]; exact hP9, va_K.moved hW.alike hK, hD9⟩, hS.F ht⟩) hS.2.2 dL_like_16)
set_option maxHeartbeats 8000000 in
set_option maxRecDepth 100000 in
theorem sX13_isSame_0 (l : Launch) (dC : Nat → ClassId) (dI : Nat → Nat → Nat) (adK adV : Nat → Nat) (h0 : Nat) (q0 : Nat → Nat) (h50 : Nat) (k50 : ClassId) (k15 : ClassId) (sz : Nat) (v0 : Nat → Int32) (f50 : Nat → Int32) (f15 : Nat → Int32) (x2 : Int32) (x3 : Int32) (hv0 : zR rg_Model v0) (hx2 : 0 ≤ x2.toInt ∧ x2.toInt ≤ 4788) (hx3 : 0 ≤ x3.toInt ∧ x3.toInt ≤ 12) : Met l yX13_isSame (zw yX13_isSame cX13_isSame 5 (some .boolean)) { frames := 0, cells := 0, slots := 0, locals := 0 } (zPc dC dI adK adV [.ref h0, .ref h50, .int x2, .int x3] sz [(h0, .inr (13, mX13 q0 v0)), (h50, zi k50 4800 f50), ((q0 19), zi k15 12 f15)] [(k50, .byte), (k15, .byte)]) (va_Qi (fun (r : Int32) (u : Nat → Int32) => (0 ≤ r.toInt ∧ r.toInt ≤ 1) ∧ (r.toInt = 1 → zSme f50 x2.toInt x3.toInt f15 (v0 20).toInt) ∧ (r.toInt = 0 → ¬ zSme f50 x2.toInt x3.toInt f15 (v0 20).toInt)) (fun (u : Nat → Int32) (t : State) => ∃ (ww : Nat → Int64) (aa : Nat → Nat → Int32) (bb : Nat → Nat → Int64), va_P (dC, dI) vwCl [(h0, .inr (13, mX13 q0 v0)), (h50, zi k50 4800 f50), ((q0 19), zi k15 12 f15)] t.heap ∧ va_K (dC, dI) vwCl [(k50, .byte), (k15, .byte)] t ∧ va_D (va_A [(h0, .inr (13, mX13 q0 v0)), (h50, zi k50 4800 f50), ((q0 19), zi k15 12 f15)] sz) [(h0, .inr (13, mX13 q0 v0)), (h50, zi k50 4800 f50), ((q0 19), zi k15 12 f15)]) (va_A [(h0, .inr (13, mX13 q0 v0)), (h50, zi k50 4800 f50), ((q0 19), zi k15 12 f15)] sz)) 0 0 (va_A [(h0, .inr (13, mX13 q0 v0)), (h50, zi k50 4800 f50), ((q0 19), zi k15 12 f15)] sz) := by
  refine Met.ofW (cc := cX13_isSame) (maxL := 5) (ret := (some .boolean)) (by decide) rfl ?_
  intro p e s m args below meth c s₁ B hml hv
  obtain ⟨rfl, hsz, hP, hK, hD0, hE, hZ⟩ := hv
  have hx := B.exec
  have hb := B.bytes
  have hr := B.returns
  have hG : ∀ w ∈ zG, w.before _ s = true := fun w h => atoms_spec (ws := (zw yX13_isSame cX13_isSame 5 (some .boolean))) B.pre w (List.mem_cons_of_mem _ h)
  have hown : s.vm.findClass RX13 = some m.cls := findClass_of_methodNamed B.named
  have hlocks := B.notSynchronized

  subst hsz
  have hD := hD0.self (sz := s.heap.size)
  generalize hAe : va_A [(h0, .inr (13, mX13 q0 v0)), (h50, zi k50 4800 f50), ((q0 19), zi k15 12 f15)] s.heap.size = A at hD hZ ⊢
  have hA : ∀ q : Nat, s.heap.size ≤ q → A q := fun q h => by rw [← hAe]; exact Or.inr h
  have hS : va_S A s.heap s.heap [] := va_S.rf
  have hl := lv_entry ([.ref h0, .ref h50, .int x2, .int x3]) (n := 5) (Nat.le_of_ble_eq_true rfl)
  rw [lg_entry_eq]
  generalize (lg_sl ([.ref h0, .ref h50, .int x2, .int x3]) ++ List.replicate (5 - (lg_sl ([.ref h0, .ref h50, .int x2, .int x3])).length) Slot.unset).toArray = ls at hl ⊢
  have hl : lv_has ls 5 [(0, .ref h0), (1, .ref h50), (2, .int x2), (3, .int x3)] := hl
  have b_ := zk_0
  have b_ := zk_1
  have b_ : 0 ≤ (v0 20).toInt ∧ (v0 20).toInt ≤ 12 := hv0 20
  refine lv_iload_n hx hb dX13_isSame_0 rfl (lv_at hl 3 rfl) ?_
  refine lv_aload_n hx hb dX13_isSame_1 rfl (lv_at hl 0 rfl) ?_
  refine va_get (D := (dC, dI)) (ci := 13) (v := .int (v0 20)) (C := RX13) (T := TX13) (N := 75) hx hb hG zuX13 hown hK hP 0 rfl rfl 20 (by decide) (hG _ zv1624) (fun _ h9 => h9) rfl dX13_isSame_2 ?_
  refine lv_icmp_eq (tgt := 10) hx hb dX13_isSame_5 (by decide) (fun c_ => ?_) (fun c_ => ?_)
  · skip
    have b_ := zT_eq rfl rfl c_
    refine lv_iconst (v := 0) hx hb dX13_isSame_10 (by decide) ?_
    refine lv_istore (lv' := [(4, .int 0), (0, .ref h0), (1, .ref h50), (2, .int x2), (3, .int x3)]) hx hb dX13_isSame_11 hl (by decide) rfl (fun ls hl => ?_)
    refine zcutL (fun u13_ => (12 - (u13_ 0).toInt).toNat) (fun H locs ls u13_ w13_ a13_ b13_ => va_P (dC, dI) vwCl [(h0, .inr (13, mX13 q0 v0)), (h50, zi k50 4800 f50), ((q0 19), zi k15 12 f15)] H ∧ va_D A [(h0, .inr (13, mX13 q0 v0)), (h50, zi k50 4800 f50), ((q0 19), zi k15 12 f15)] ∧ va_S A s.heap H locs ∧ lv_has ls 5 [(0, .ref h0), (1, .ref h50), (2, .int x2), (3, .int x3), (4, .int (u13_ 0))] ∧ (0 ≤ (u13_ 0).toInt ∧ (u13_ 0).toInt ≤ 12) ∧ (zSmk f50 x2.toInt f15 (u13_ 0).toInt)) (fun ls u13_ w13_ => F0 m 13 ls []) 0 0 ?_ (fun hJ13 => ?_)
    · skip
      intro H locs ls u13_ w13_ a13_ b13_ hc hJ13
      obtain ⟨hP, hD, hS, hl, b_, hI13_0⟩ := hc
      refine lv_iload hx hb dX13_isSame_13 (lv_at hl 4 rfl) ?_
      refine lv_iload_n hx hb dX13_isSame_15 rfl (lv_at hl 3 rfl) ?_
      refine lv_icmp_ge (tgt := 43) hx hb dX13_isSame_16 (by decide) (fun c_ => ?_) (fun c_ => ?_)
      · skip
        have b_ := zT_ge rfl rfl c_
        refine lv_iconst (v := 1) hx hb dX13_isSame_43 (by decide) ?_
        refine W.widen (k := 0) (n := 0) (by decide) (by decide) ?_
        have hpost : (0 ≤ (1 : Int32).toInt ∧ (1 : Int32).toInt ≤ 1) ∧ ((1 : Int32).toInt = 1 → zSme f50 x2.toInt x3.toInt f15 (v0 20).toInt) ∧ ((1 : Int32).toInt = 0 → ¬ zSme f50 x2.toInt x3.toInt f15 (v0 20).toInt) := ⟨(by first | with_reducible assumption | exact ⟨by omega, by omega⟩), by first | (intro q; exact absurd q (by decide)) | exact fun _ => zSme_y (by assumption) (by omega) (by omega), by first | (intro q; exact absurd q (by decide)) | exact fun _ => zSme_n e_z24 e_z31 (by omega) (by omega) (by omega) (by omega) (by omega) | exact fun _ q => absurd q.1 (by omega)⟩
        have hP9 : va_P (dC, dI) vwCl [(h0, .inr (13, mX13 q0 v0)), (h50, zi k50 4800 f50), ((q0 19), zi k15 12 f15)] H := hP
        have hD9 : va_D A [(h0, .inr (13, mX13 q0 v0)), (h50, zi k50 4800 f50), ((q0 19), zi k15 12 f15)] := hD
        exact W.zret (v := 1) hx hb hr rfl (fun t ht hW => ⟨⟨1, (fun _ => 0), rfl, hpost, (fun _ => 0), (fun _ => (fun _ => 0)), (fun _ => (fun _ => 0)), by rw [ht]; exact hP9, va_K.moved hW.alike hK, hD9⟩, hS.F ht⟩) hS.2.2 dX13_isSame_44
      · skip
        have b_ := zF_ge rfl rfl c_
        refine lv_aload_n hx hb dX13_isSame_19 rfl (lv_at hl 1 rfl) ?_
        refine lv_iload_n hx hb dX13_isSame_20 rfl (lv_at hl 2 rfl) ?_
        refine lv_iload hx hb dX13_isSame_21 (lv_at hl 4 rfl) ?_
        refine lv_iadd hx hb dX13_isSame_23 ?_
        refine lv_topi (fun z23 e_z23 => ?_)
        have b_ := zadd rfl rfl e_z23 (by omega) (by omega)
        refine va_bald hx hb hK hP 1 0 rfl rfl (zin_lit ⟨by omega, by omega⟩) dX13_isSame_24 ?_
        refine lv_topi (fun z24 e_z24 => ?_)
        refine lv_aload_n hx hb dX13_isSame_25 rfl (lv_at hl 0 rfl) ?_
        refine va_get (D := (dC, dI)) (ci := 13) (v := .ref (q0 19)) (C := RX13) (T := TX13) (N := 75) hx hb hG zuX13 hown hK hP 0 rfl rfl 19 (by decide) (hG _ zv1623) (fun _ h9 => h9) rfl dX13_isSame_26 ?_
        refine lv_iload hx hb dX13_isSame_29 (lv_at hl 4 rfl) ?_
        refine va_bald hx hb hK hP 2 1 rfl rfl (zin_lit ⟨by omega, by omega⟩) dX13_isSame_31 ?_
        refine lv_topi (fun z31 e_z31 => ?_)
        have b_ : -2147483648 ≤ z24.toInt ∧ z24.toInt ≤ 2147483647 := ⟨zlo _, zhi _⟩
        have b_ : -2147483648 ≤ z31.toInt ∧ z31.toInt ≤ 2147483647 := ⟨zlo _, zhi _⟩
        refine lv_icmp_eq (tgt := 37) hx hb dX13_isSame_32 (by decide) (fun c_ => ?_) (fun c_ => ?_)
        · skip
          have b_ := zT_eq rfl rfl c_
          obtain ⟨z37, e_z37⟩ : ∃ z : Int32, z = (u13_ 0) + Int32.ofInt 1 := ⟨_, rfl⟩
          have b_ := zadd (x := (u13_ 0)) (y := Int32.ofInt 1) rfl (show (Int32.ofInt 1).toInt = 1 from by decide) e_z37 (by omega) (by omega)
          refine lv_iinc (v := z37) (lv' := [(4, .int z37), (0, .ref h0), (1, .ref h50), (2, .int x2), (3, .int x3)]) hx hb dX13_isSame_37 hl (k := 4) rfl e_z37.symm (by decide) rfl (fun ls hl => ?_)
          refine lv_goto (tgt := 13) hx hb dX13_isSame_40 (by decide) ?_
          have hc : va_P (dC, dI) vwCl [(h0, .inr (13, mX13 q0 v0)), (h50, zi k50 4800 f50), ((q0 19), zi k15 12 f15)] H ∧ va_D A [(h0, .inr (13, mX13 q0 v0)), (h50, zi k50 4800 f50), ((q0 19), zi k15 12 f15)] ∧ va_S A s.heap H locs ∧ lv_has ls 5 [(0, .ref h0), (1, .ref h50), (2, .int x2), (3, .int x3), (4, .int z37)] ∧ (0 ≤ z37.toInt ∧ z37.toInt ≤ 12) ∧ (zSmk f50 x2.toInt f15 z37.toInt) := ⟨hP, hD, hS, lv_sub hl [1, 2, 3, 4, 0] rfl, (by first | with_reducible assumption | exact ⟨by omega, by omega⟩), by first | exact zSmk_0 (by omega) | exact zSmk_s (by assumption) e_z24 e_z31 (by omega) (by omega) (by omega) (by omega) (by omega)⟩
          exact hJ13 H locs ls (fun i => ([z37] : List (Int32)).getD i 0) (fun _ => 0) (fun _ => (fun _ => 0)) (fun _ => (fun _ => 0)) hc (show (12 - z37.toInt).toNat < (12 - (u13_ 0).toInt).toNat from by omega)
        · skip
          have b_ := zF_eq rfl rfl c_
          refine lv_iconst (v := 0) hx hb dX13_isSame_35 (by decide) ?_
          refine W.widen (k := 0) (n := 0) (by decide) (by decide) ?_
          have hpost : (0 ≤ (0 : Int32).toInt ∧ (0 : Int32).toInt ≤ 1) ∧ ((0 : Int32).toInt = 1 → zSme f50 x2.toInt x3.toInt f15 (v0 20).toInt) ∧ ((0 : Int32).toInt = 0 → ¬ zSme f50 x2.toInt x3.toInt f15 (v0 20).toInt) := ⟨(by first | with_reducible assumption | exact ⟨by omega, by omega⟩), by first | (intro q; exact absurd q (by decide)) | exact fun _ => zSme_y (by assumption) (by omega) (by omega), by first | (intro q; exact absurd q (by decide)) | exact fun _ => zSme_n e_z24 e_z31 (by omega) (by omega) (by omega) (by omega) (by omega) | exact fun _ q => absurd q.1 (by omega)⟩
          have hP9 : va_P (dC, dI) vwCl [(h0, .inr (13, mX13 q0 v0)), (h50, zi k50 4800 f50), ((q0 19), zi k15 12 f15)] H := hP
          have hD9 : va_D A [(h0, .inr (13, mX13 q0 v0)), (h50, zi k50 4800 f50), ((q0 19), zi k15 12 f15)] := hD
          exact W.zret (v := 0) hx hb hr rfl (fun t ht hW => ⟨⟨0, (fun _ => 0), rfl, hpost, (fun _ => 0), (fun _ => (fun _ => 0)), (fun _ => (fun _ => 0)), by rw [ht]; exact hP9, va_K.moved hW.alike hK, hD9⟩, hS.F ht⟩) hS.2.2 dX13_isSame_36
    · skip
      have hc : va_P (dC, dI) vwCl [(h0, .inr (13, mX13 q0 v0)), (h50, zi k50 4800 f50), ((q0 19), zi k15 12 f15)] s.heap ∧ va_D A [(h0, .inr (13, mX13 q0 v0)), (h50, zi k50 4800 f50), ((q0 19), zi k15 12 f15)] ∧ va_S A s.heap s.heap [] ∧ lv_has ls 5 [(0, .ref h0), (1, .ref h50), (2, .int x2), (3, .int x3), (4, .int 0)] ∧ (0 ≤ (0 : Int32).toInt ∧ (0 : Int32).toInt ≤ 12) ∧ (zSmk f50 x2.toInt f15 (0 : Int32).toInt) := ⟨hP, hD, hS, lv_sub hl [1, 2, 3, 4, 0] rfl, (by first | with_reducible assumption | exact ⟨by omega, by omega⟩), by first | exact zSmk_0 (by omega) | exact zSmk_s (by assumption) e_z24 e_z31 (by omega) (by omega) (by omega) (by omega) (by omega)⟩
      exact hJ13 s.heap [] ls (fun i => ([0] : List (Int32)).getD i 0) (fun _ => 0) (fun _ => (fun _ => 0)) (fun _ => (fun _ => 0)) hc
  · skip
    have b_ := zF_eq rfl rfl c_
    refine lv_iconst (v := 0) hx hb dX13_isSame_8 (by decide) ?_
    refine W.widen (k := 0) (n := 0) (by decide) (by decide) ?_
    have hpost : (0 ≤ (0 : Int32).toInt ∧ (0 : Int32).toInt ≤ 1) ∧ ((0 : Int32).toInt = 1 → zSme f50 x2.toInt x3.toInt f15 (v0 20).toInt) ∧ ((0 : Int32).toInt = 0 → ¬ zSme f50 x2.toInt x3.toInt f15 (v0 20).toInt) := ⟨(by first | with_reducible assumption | exact ⟨by omega, by omega⟩), by first | (intro q; exact absurd q (by decide)) | exact fun _ => zSme_y (by assumption) (by omega) (by omega), by first | (intro q; exact absurd q (by decide)) | exact fun _ => zSme_n e_z24 e_z31 (by omega) (by omega) (by omega) (by omega) (by omega) | exact fun _ q => absurd q.1 (by omega)⟩
    have hP9 : va_P (dC, dI) vwCl [(h0, .inr (13, mX13 q0 v0)), (h50, zi k50 4800 f50), ((q0 19), zi k15 12 f15)] s.heap := hP
    have hD9 : va_D A [(h0, .inr (13, mX13 q0 v0)), (h50, zi k50 4800 f50), ((q0 19), zi k15 12 f15)] := hD
    exact W.zret (v := 0) hx hb hr rfl (fun t ht hW => ⟨⟨0, (fun _ => 0), rfl, hpost, (fun _ => 0), (fun _ => (fun _ => 0)), (fun _ => (fun _ => 0)), by rw [ht]; exact hP9, va_K.moved hW.alike hK, hD9⟩, hS.F ht⟩) hS.2.2 dX13_isSame_9
set_option maxHeartbeats 8000000 in
set_option maxRecDepth 100000 in
theorem sX13_find_0 (l : Launch) (dC : Nat → ClassId) (dI : Nat → Nat → Nat) (adK adV : Nat → Nat) (h0 : Nat) (q0 : Nat → Nat) (k3 : ClassId) (k2 : ClassId) (k15 : ClassId) (sz : Nat) (v0 : Nat → Int32) (f3 : Nat → Int32) (f2 : Nat → Int32) (f15 : Nat → Int32) (hv0 : zR rg_Model v0) (hf3 : zA 0 12 f3) : Met l yX13_find (zw yX13_find cX13_find 2 (some .int)) { frames := 1, cells := 0, slots := 0, locals := 24 } (zPc dC dI adK adV [.ref h0] sz [(h0, .inr (13, mX13 q0 v0)), ((q0 3), zi k3 400 f3), ((q0 2), zi k2 4800 f2), ((q0 19), zi k15 12 f15)] [(k3, .int), (k2, .byte), (k15, .byte)]) (va_Qi (fun (r : Int32) (u : Nat → Int32) => ((-1) ≤ r.toInt ∧ r.toInt ≤ 399) ∧ (r.toInt < (v0 4).toInt) ∧ (zFd f2 f3 f15 (v0 20).toInt (v0 4).toInt r.toInt)) (fun (u : Nat → Int32) (t : State) => ∃ (ww : Nat → Int64) (aa : Nat → Nat → Int32) (bb : Nat → Nat → Int64), va_P (dC, dI) vwCl [(h0, .inr (13, mX13 q0 v0)), ((q0 3), zi k3 400 f3), ((q0 2), zi k2 4800 f2), ((q0 19), zi k15 12 f15)] t.heap ∧ va_K (dC, dI) vwCl [(k3, .int), (k2, .byte), (k15, .byte)] t ∧ va_D (va_A [(h0, .inr (13, mX13 q0 v0)), ((q0 3), zi k3 400 f3), ((q0 2), zi k2 4800 f2), ((q0 19), zi k15 12 f15)] sz) [(h0, .inr (13, mX13 q0 v0)), ((q0 3), zi k3 400 f3), ((q0 2), zi k2 4800 f2), ((q0 19), zi k15 12 f15)]) (va_A [(h0, .inr (13, mX13 q0 v0)), ((q0 3), zi k3 400 f3), ((q0 2), zi k2 4800 f2), ((q0 19), zi k15 12 f15)] sz)) 0 0 (va_A [(h0, .inr (13, mX13 q0 v0)), ((q0 3), zi k3 400 f3), ((q0 2), zi k2 4800 f2), ((q0 19), zi k15 12 f15)] sz) := by
  refine Met.ofW (cc := cX13_find) (maxL := 2) (ret := (some .int)) (by decide) rfl ?_
  intro p e s m args below meth c s₁ B hml hv
  obtain ⟨rfl, hsz, hP, hK, hD0, hE, hZ⟩ := hv
  have hx := B.exec
  have hb := B.bytes
  have hr := B.returns
  have hG : ∀ w ∈ zG, w.before _ s = true := fun w h => atoms_spec (ws := (zw yX13_find cX13_find 2 (some .int))) B.pre w (List.mem_cons_of_mem _ h)
  have hown : s.vm.findClass RX13 = some m.cls := findClass_of_methodNamed B.named
  have hlocks := B.notSynchronized

  subst hsz
  have hD := hD0.self (sz := s.heap.size)
  generalize hAe : va_A [(h0, .inr (13, mX13 q0 v0)), ((q0 3), zi k3 400 f3), ((q0 2), zi k2 4800 f2), ((q0 19), zi k15 12 f15)] s.heap.size = A at hD hZ ⊢
  have hA : ∀ q : Nat, s.heap.size ≤ q → A q := fun q h => by rw [← hAe]; exact Or.inr h
  have hS : va_S A s.heap s.heap [] := va_S.rf
  have hl := lv_entry ([.ref h0]) (n := 2) (Nat.le_of_ble_eq_true rfl)
  rw [lg_entry_eq]
  generalize (lg_sl ([.ref h0]) ++ List.replicate (2 - (lg_sl ([.ref h0])).length) Slot.unset).toArray = ls at hl ⊢
  have hl : lv_has ls 2 [(0, .ref h0)] := hl
  have b_ := zk_m1
  have b_ := zk_0
  have b_ : 0 ≤ (v0 4).toInt ∧ (v0 4).toInt ≤ 400 := hv0 4
  have b_ : 0 ≤ (v0 20).toInt ∧ (v0 20).toInt ≤ 12 := hv0 20
  refine lv_iconst (v := 0) hx hb dX13_find_0 (by decide) ?_
  refine lv_istore_n (lv' := [(1, .int 0), (0, .ref h0)]) hx hb dX13_find_1 rfl hl (by decide) rfl (fun ls hl => ?_)
  refine zcutL (fun u2_ => (400 - (u2_ 0).toInt).toNat) (fun H locs ls u2_ w2_ a2_ b2_ => va_P (dC, dI) vwCl [(h0, .inr (13, mX13 q0 v0)), ((q0 3), zi k3 400 f3), ((q0 2), zi k2 4800 f2), ((q0 19), zi k15 12 f15)] H ∧ va_D A [(h0, .inr (13, mX13 q0 v0)), ((q0 3), zi k3 400 f3), ((q0 2), zi k2 4800 f2), ((q0 19), zi k15 12 f15)] ∧ va_S A s.heap H locs ∧ lv_has ls 2 [(0, .ref h0), (1, .int (u2_ 0))] ∧ (0 ≤ (u2_ 0).toInt ∧ (u2_ 0).toInt ≤ 400) ∧ (zFn f2 f3 f15 (v0 20).toInt (u2_ 0).toInt)) (fun ls u2_ w2_ => F0 m 2 ls []) 0 0 ?_ (fun hJ2 => ?_)
  · skip
    intro H locs ls u2_ w2_ a2_ b2_ hc hJ2
    obtain ⟨hP, hD, hS, hl, b_, hI2_0⟩ := hc
    refine lv_iload_n hx hb dX13_find_2 rfl (lv_at hl 1 rfl) ?_
    refine lv_aload_n hx hb dX13_find_3 rfl (lv_at hl 0 rfl) ?_
    refine va_get (D := (dC, dI)) (ci := 13) (v := .int (v0 4)) (C := RX13) (T := TX13) (N := 75) hx hb hG zuX13 hown hK hP 0 rfl rfl 4 (by decide) (hG _ zv1608) (fun _ h9 => h9) rfl dX13_find_4 ?_
    refine lv_icmp_ge (tgt := 39) hx hb dX13_find_7 (by decide) (fun c_ => ?_) (fun c_ => ?_)
    · skip
      have b_ := zT_ge rfl rfl c_
      refine lv_iconst (v := (-1)) hx hb dX13_find_39 (by decide) ?_
      refine W.widen (k := 0) (n := 0) (by decide) (by decide) ?_
      have hpost : ((-1) ≤ ((-1) : Int32).toInt ∧ ((-1) : Int32).toInt ≤ 399) ∧ (((-1) : Int32).toInt < (v0 4).toInt) ∧ (zFd f2 f3 f15 (v0 20).toInt (v0 4).toInt ((-1) : Int32).toInt) := ⟨(by first | with_reducible assumption | exact ⟨by omega, by omega⟩), by omega, by first | exact zFd_y e_z24 (hX25_0 (by omega)) (by omega) (by omega) (by omega) | exact zFd_n (by assumption) (by omega) (by first | decide | omega)⟩
      have hP9 : va_P (dC, dI) vwCl [(h0, .inr (13, mX13 q0 v0)), ((q0 3), zi k3 400 f3), ((q0 2), zi k2 4800 f2), ((q0 19), zi k15 12 f15)] H := hP
      have hD9 : va_D A [(h0, .inr (13, mX13 q0 v0)), ((q0 3), zi k3 400 f3), ((q0 2), zi k2 4800 f2), ((q0 19), zi k15 12 f15)] := hD
      exact W.iret (v := (-1)) hx hb hr (fun t ht hW => ⟨⟨(-1), (fun _ => 0), rfl, hpost, (fun _ => 0), (fun _ => (fun _ => 0)), (fun _ => (fun _ => 0)), by rw [ht]; exact hP9, va_K.moved hW.alike hK, hD9⟩, hS.F ht⟩) hS.2.2 dX13_find_40
    · skip
      have b_ := zF_ge rfl rfl c_
      refine lv_aload_n hx hb dX13_find_10 rfl (lv_at hl 0 rfl) ?_
      refine lv_aload_n hx hb dX13_find_11 rfl (lv_at hl 0 rfl) ?_
      refine va_get (D := (dC, dI)) (ci := 13) (v := .ref (q0 2)) (C := RX13) (T := TX13) (N := 75) hx hb hG zuX13 hown hK hP 0 rfl rfl 2 (by decide) (hG _ zv1606) (fun _ h9 => h9) rfl dX13_find_12 ?_
      refine lv_bipush (v := 12) hx hb dX13_find_15 (by decide) ?_
      refine lv_iload_n hx hb dX13_find_17 rfl (lv_at hl 1 rfl) ?_
      refine lv_imul hx hb dX13_find_18 ?_
      refine lv_topi (fun z18 e_z18 => ?_)
      have b_ := zmul zk_12 rfl e_z18 (by omega) (by omega)
      refine lv_aload_n hx hb dX13_find_19 rfl (lv_at hl 0 rfl) ?_
      refine va_get (D := (dC, dI)) (ci := 13) (v := .ref (q0 3)) (C := RX13) (T := TX13) (N := 75) hx hb hG zuX13 hown hK hP 0 rfl rfl 3 (by decide) (hG _ zv1607) (fun _ h9 => h9) rfl dX13_find_20 ?_
      refine lv_iload_n hx hb dX13_find_23 rfl (lv_at hl 1 rfl) ?_
      refine va_iald hx hb hK hP 1 0 rfl rfl (zin_lit ⟨by omega, by omega⟩) dX13_find_24 ?_
      refine lv_topi (fun z24 e_z24 => ?_)
      have b_ : 0 ≤ z24.toInt ∧ z24.toInt ≤ 12 := by rw [e_z24]; exact hf3 _
      have hPc := hP.sub (ws' := [(h0, .inr (13, mX13 q0 v0)), ((q0 2), zi k2 4800 f2), ((q0 19), zi k15 12 f15)]) [0, 2, 3] rfl
      have hDc := hD.sub (ws' := [(h0, .inr (13, mX13 q0 v0)), ((q0 2), zi k2 4800 f2), ((q0 19), zi k15 12 f15)]) [0, 2, 3] (by decide) rfl
      have hKc := hK.sub (tys' := [(k2, .byte), (k15, .byte)]) [1, 2] rfl
      have hFc := va_free (wc := [(h0, .inr (13, mX13 q0 v0)), ((q0 2), zi k2 4800 f2), ((q0 19), zi k15 12 f15)]) hD hS hA [0, 2, 3] rfl
      refine va_calli (va_runV (As := [.ref (q0 2), .int z18, .int z24]) (rest := []) ⟨hx, hb, hml, hown, hG⟩ (sX13_isSame_0 l dC dI adK adV h0 q0 (q0 2) k2 k15 H.size v0 f2 f15 z18 z24 hv0 (show (0 : Int) ≤ (z18 : Int32).toInt ∧ (z18 : Int32).toInt ≤ (4788 : Int) from (by first | with_reducible assumption | exact ⟨by omega, by omega⟩)) (show (0 : Int) ≤ (z24 : Int32).toInt ∧ (z24 : Int32).toInt ≤ (12 : Int) from (by first | with_reducible assumption | exact ⟨by omega, by omega⟩))) (cwV 3 hG (zgV zv1885 zv1887 zv56 zv142 zv1888) rfl rfl rfl (by decide +kernel) ⟨Nat.le_of_ble_eq_true rfl, Nat.le_of_ble_eq_true rfl⟩) ⟨zPc_blind, va_recv hKc hPc (ci := 13) (q0 := 0) rfl rfl, zPc_pre hPc hKc hDc hE hS hFc hZ⟩ rfl rfl hl.1 rfl (lv_room (Nat.le_of_ble_eq_true rfl)) dX13_find_25 ⟨Nat.le_of_ble_eq_true rfl, Nat.le_of_ble_eq_true rfl⟩) hS (fun q _ h => hFc q h) hFc (fun r25_ u25_ t H1 locs ht hvm hw hB hz1 hk1 hS => ?_)
      replace hw : (0 ≤ r25_.toInt ∧ r25_.toInt ≤ 1) ∧ (r25_.toInt = 1 → zSme f2 z18.toInt z24.toInt f15 (v0 20).toInt) ∧ (r25_.toInt = 0 → ¬ zSme f2 z18.toInt z24.toInt f15 (v0 20).toInt) := hw
      obtain ⟨b_, hX25_0, hX25_1⟩ := hw
      obtain ⟨w25_, a25_, b25_, hP1, hK1, hD1⟩ := hB
      rw [ht] at hP1
      obtain ⟨hP, hD⟩ := va_join (wr := [((q0 3), zi k3 400 f3)]) (w1 := [(h0, .inr (13, mX13 q0 v0)), ((q0 2), zi k2 4800 f2), ((q0 19), zi k15 12 f15)]) hP hD [0, 2, 3] [1] rfl rfl (by decide) (by decide) hk1 hFc hP1 hD1
      have hP : va_P (dC, dI) vwCl [(h0, .inr (13, mX13 q0 v0)), ((q0 3), zi k3 400 f3), ((q0 2), zi k2 4800 f2), ((q0 19), zi k15 12 f15)] H1 := hP.sub [1, 0, 2, 3] rfl
      have hD : va_D A [(h0, .inr (13, mX13 q0 v0)), ((q0 3), zi k3 400 f3), ((q0 2), zi k2 4800 f2), ((q0 19), zi k15 12 f15)] := hD.sub [1, 0, 2, 3] (by decide) rfl
      generalize H1 = H at hP hS ⊢
      clear hz1
      refine lv_if_eq (tgt := 33) hx hb dX13_find_28 (by decide) (fun c_ => ?_) (fun c_ => ?_)
      · skip
        have b_ := zT_eq rfl zk_0 c_
        obtain ⟨z33, e_z33⟩ : ∃ z : Int32, z = (u2_ 0) + Int32.ofInt 1 := ⟨_, rfl⟩
        have b_ := zadd (x := (u2_ 0)) (y := Int32.ofInt 1) rfl (show (Int32.ofInt 1).toInt = 1 from by decide) e_z33 (by omega) (by omega)
        refine lv_iinc (v := z33) (lv' := [(1, .int z33), (0, .ref h0)]) hx hb dX13_find_33 hl (k := 1) rfl e_z33.symm (by decide) rfl (fun ls hl => ?_)
        refine lv_goto (tgt := 2) hx hb dX13_find_36 (by decide) ?_
        have hc : va_P (dC, dI) vwCl [(h0, .inr (13, mX13 q0 v0)), ((q0 3), zi k3 400 f3), ((q0 2), zi k2 4800 f2), ((q0 19), zi k15 12 f15)] H ∧ va_D A [(h0, .inr (13, mX13 q0 v0)), ((q0 3), zi k3 400 f3), ((q0 2), zi k2 4800 f2), ((q0 19), zi k15 12 f15)] ∧ va_S A s.heap H locs ∧ lv_has ls 2 [(0, .ref h0), (1, .int z33)] ∧ (0 ≤ z33.toInt ∧ z33.toInt ≤ 400) ∧ (zFn f2 f3 f15 (v0 20).toInt z33.toInt) := ⟨hP, hD, hS, lv_sub hl [1, 0] rfl, (by first | with_reducible assumption | exact ⟨by omega, by omega⟩), by first | exact zFn_s (by assumption) e_z24 (by omega) (by omega) (hX25_1 (by omega)) (by omega) | exact zFn_0 (by omega)⟩
        exact hJ2 H locs ls (fun i => ([z33] : List (Int32)).getD i 0) (fun _ => 0) (fun _ => (fun _ => 0)) (fun _ => (fun _ => 0)) hc (show (400 - z33.toInt).toNat < (400 - (u2_ 0).toInt).toNat from by omega)
      · skip
        have b_ := zF_eq rfl zk_0 c_
        refine lv_iload_n hx hb dX13_find_31 rfl (lv_at hl 1 rfl) ?_
        refine W.widen (k := 0) (n := 0) (by decide) (by decide) ?_
        have hpost : ((-1) ≤ (u2_ 0).toInt ∧ (u2_ 0).toInt ≤ 399) ∧ ((u2_ 0).toInt < (v0 4).toInt) ∧ (zFd f2 f3 f15 (v0 20).toInt (v0 4).toInt (u2_ 0).toInt) := ⟨(by first | with_reducible assumption | exact ⟨by omega, by omega⟩), by omega, by first | exact zFd_y e_z24 (hX25_0 (by omega)) (by omega) (by omega) (by omega) | exact zFd_n (by assumption) (by omega) (by first | decide | omega)⟩
        have hP9 : va_P (dC, dI) vwCl [(h0, .inr (13, mX13 q0 v0)), ((q0 3), zi k3 400 f3), ((q0 2), zi k2 4800 f2), ((q0 19), zi k15 12 f15)] H := hP
        have hD9 : va_D A [(h0, .inr (13, mX13 q0 v0)), ((q0 3), zi k3 400 f3), ((q0 2), zi k2 4800 f2), ((q0 19), zi k15 12 f15)] := hD
        exact W.iret (v := (u2_ 0)) hx hb hr (fun t ht hW => ⟨⟨(u2_ 0), (fun _ => 0), rfl, hpost, (fun _ => 0), (fun _ => (fun _ => 0)), (fun _ => (fun _ => 0)), by rw [ht]; exact hP9, va_K.moved hW.alike hK, hD9⟩, hS.F ht⟩) hS.2.2 dX13_find_32
  · skip
    have hc : va_P (dC, dI) vwCl [(h0, .inr (13, mX13 q0 v0)), ((q0 3), zi k3 400 f3), ((q0 2), zi k2 4800 f2), ((q0 19), zi k15 12 f15)] s.heap ∧ va_D A [(h0, .inr (13, mX13 q0 v0)), ((q0 3), zi k3 400 f3), ((q0 2), zi k2 4800 f2), ((q0 19), zi k15 12 f15)] ∧ va_S A s.heap s.heap [] ∧ lv_has ls 2 [(0, .ref h0), (1, .int 0)] ∧ (0 ≤ (0 : Int32).toInt ∧ (0 : Int32).toInt ≤ 400) ∧ (zFn f2 f3 f15 (v0 20).toInt (0 : Int32).toInt) := ⟨hP, hD, hS, lv_sub hl [1, 0] rfl, (by first | with_reducible assumption | exact ⟨by omega, by omega⟩), by first | exact zFn_s (by assumption) e_z24 (by omega) (by omega) (hX25_1 (by omega)) (by omega) | exact zFn_0 (by omega)⟩
    exact hJ2 s.heap [] ls (fun i => ([0] : List (Int32)).getD i 0) (fun _ => 0) (fun _ => (fun _ => 0)) (fun _ => (fun _ => 0)) hc
set_option maxHeartbeats 8000000 in
set_option maxRecDepth 100000 in
theorem sX13_lookedWord_0 (l : Launch) (dC : Nat → ClassId) (dI : Nat → Nat → Nat) (adK adV : Nat → Nat) (h0 : Nat) (q0 : Nat → Nat) (k14 : ClassId) (k15 : ClassId) (k3 : ClassId) (k2 : ClassId) (sz : Nat) (v0 : Nat → Int32) (f14 : Nat → Int32) (f15 : Nat → Int32) (f3 : Nat → Int32) (f2 : Nat → Int32) (hv0 : zR rg_Model v0) (hf3 : zA 0 12 f3) : Met l yX13_lookedWord (zw yX13_lookedWord cX13_lookedWord 2 (some .int)) { frames := 2, cells := 0, slots := 0, locals := 45 } (zPc dC dI adK adV [.ref h0] sz [(h0, .inr (13, mX13 q0 v0)), ((q0 17), zi k14 12 f14), ((q0 19), zi k15 12 f15), ((q0 3), zi k3 400 f3), ((q0 2), zi k2 4800 f2)] [(k14, .byte), (k15, .byte), (k3, .int), (k2, .byte)]) (va_Qi (fun (r : Int32) (u : Nat → Int32) => ((-1) ≤ r.toInt ∧ r.toInt ≤ 399) ∧ (0 ≤ (u 0).toInt ∧ (u 0).toInt ≤ 12) ∧ (r.toInt < (v0 4).toInt)) (fun (u : Nat → Int32) (t : State) => ∃ (ww : Nat → Int64) (aa : Nat → Nat → Int32) (bb : Nat → Nat → Int64), va_P (dC, dI) vwCl [(h0, .inr (13, mX13 q0 (upd v0 20 (u 0)))), ((q0 17), zi k14 12 f14), ((q0 19), zi k15 12 (aa 0)), ((q0 3), zi k3 400 f3), ((q0 2), zi k2 4800 f2)] t.heap ∧ va_K (dC, dI) vwCl [(k14, .byte), (k15, .byte), (k3, .int), (k2, .byte)] t ∧ va_D (va_A [(h0, .inr (13, mX13 q0 v0)), ((q0 17), zi k14 12 f14), ((q0 19), zi k15 12 f15), ((q0 3), zi k3 400 f3), ((q0 2), zi k2 4800 f2)] sz) [(h0, .inr (13, mX13 q0 (upd v0 20 (u 0)))), ((q0 17), zi k14 12 f14), ((q0 19), zi k15 12 (aa 0)), ((q0 3), zi k3 400 f3), ((q0 2), zi k2 4800 f2)]) (va_A [(h0, .inr (13, mX13 q0 v0)), ((q0 17), zi k14 12 f14), ((q0 19), zi k15 12 f15), ((q0 3), zi k3 400 f3), ((q0 2), zi k2 4800 f2)] sz)) 0 0 (va_A [(h0, .inr (13, mX13 q0 v0)), ((q0 17), zi k14 12 f14), ((q0 19), zi k15 12 f15), ((q0 3), zi k3 400 f3), ((q0 2), zi k2 4800 f2)] sz) := by
  refine Met.ofW (cc := cX13_lookedWord) (maxL := 2) (ret := (some .int)) (by decide) rfl ?_
  intro p e s m args below meth c s₁ B hml hv
  obtain ⟨rfl, hsz, hP, hK, hD0, hE, hZ⟩ := hv
  have hx := B.exec
  have hb := B.bytes
  have hr := B.returns
  have hG : ∀ w ∈ zG, w.before _ s = true := fun w h => atoms_spec (ws := (zw yX13_lookedWord cX13_lookedWord 2 (some .int))) B.pre w (List.mem_cons_of_mem _ h)
  have hown : s.vm.findClass RX13 = some m.cls := findClass_of_methodNamed B.named
  have hlocks := B.notSynchronized

  subst hsz
  have hD := hD0.self (sz := s.heap.size)
  generalize hAe : va_A [(h0, .inr (13, mX13 q0 v0)), ((q0 17), zi k14 12 f14), ((q0 19), zi k15 12 f15), ((q0 3), zi k3 400 f3), ((q0 2), zi k2 4800 f2)] s.heap.size = A at hD hZ ⊢
  have hA : ∀ q : Nat, s.heap.size ≤ q → A q := fun q h => by rw [← hAe]; exact Or.inr h
  have hS : va_S A s.heap s.heap [] := va_S.rf
  have hl := lv_entry ([.ref h0]) (n := 2) (Nat.le_of_ble_eq_true rfl)
  rw [lg_entry_eq]
  generalize (lg_sl ([.ref h0]) ++ List.replicate (2 - (lg_sl ([.ref h0])).length) Slot.unset).toArray = ls at hl ⊢
  have hl : lv_has ls 2 [(0, .ref h0)] := hl
  have b_ := zk_m1
  have b_ := zk_0
  have b_ : 0 ≤ (v0 4).toInt ∧ (v0 4).toInt ≤ 400 := hv0 4
  refine lv_aload_n hx hb dX13_lookedWord_0 rfl (lv_at hl 0 rfl) ?_
  have b_ : (-1) ≤ (v0 18).toInt ∧ (v0 18).toInt ≤ 12 := hv0 18
  refine va_get (D := (dC, dI)) (ci := 13) (v := .int (v0 18)) (C := RX13) (T := TX13) (N := 75) hx hb hG zuX13 hown hK hP 0 rfl rfl 18 (by decide) (hG _ zv1622) (fun _ h9 => h9) rfl dX13_lookedWord_1 ?_
  refine lv_if_gt (tgt := 9) hx hb dX13_lookedWord_4 (by decide) (fun c_ => ?_) (fun c_ => ?_)
  · skip
    have b_ := zT_gt rfl zk_0 c_
    refine lv_aload_n hx hb dX13_lookedWord_9 rfl (lv_at hl 0 rfl) ?_
    refine lv_aload_n hx hb dX13_lookedWord_10 rfl (lv_at hl 0 rfl) ?_
    refine va_get (D := (dC, dI)) (ci := 13) (v := .int (v0 18)) (C := RX13) (T := TX13) (N := 75) hx hb hG zuX13 hown hK hP 0 rfl rfl 18 (by decide) (hG _ zv1622) (fun _ h9 => h9) rfl dX13_lookedWord_11 ?_
    refine va_put (D := (dC, dI)) (ci := 13) (v := .int (v0 18)) (ty := .int) (C := RX13) (T := TX13) (N := 75) hx hb hG zuX13 tyX13 tyX13_ok nmX13 hown hK hP hD hS 0 rfl rfl 20 (by decide) (hG _ zv1624) (fun _ h9 => h9) rfl (by decide +kernel) rfl rfl (Nat.le_of_ble_eq_true rfl) dX13_lookedWord_14 (fun H locs hP hD hS => ?_)
    have hP : va_P (dC, dI) vwCl [(h0, .inr (13, mX13 q0 (upd v0 20 (v0 18)))), ((q0 17), zi k14 12 f14), ((q0 19), zi k15 12 f15), ((q0 3), zi k3 400 f3), ((q0 2), zi k2 4800 f2)] H := hP
    have hD : va_D A [(h0, .inr (13, mX13 q0 (upd v0 20 (v0 18)))), ((q0 17), zi k14 12 f14), ((q0 19), zi k15 12 f15), ((q0 3), zi k3 400 f3), ((q0 2), zi k2 4800 f2)] := hD
    refine lv_iconst (v := 0) hx hb dX13_lookedWord_17 (by decide) ?_
    refine lv_istore_n (lv' := [(1, .int 0), (0, .ref h0)]) hx hb dX13_lookedWord_18 rfl hl (by decide) rfl (fun ls hl => ?_)
    refine zcutL (fun u19_ => (12 - (u19_ 0).toInt).toNat) (fun H locs ls u19_ w19_ a19_ b19_ => va_P (dC, dI) vwCl [(h0, .inr (13, mX13 q0 (upd v0 20 (v0 18)))), ((q0 17), zi k14 12 f14), ((q0 19), zi k15 12 (a19_ 0)), ((q0 3), zi k3 400 f3), ((q0 2), zi k2 4800 f2)] H ∧ va_D A [(h0, .inr (13, mX13 q0 (upd v0 20 (v0 18)))), ((q0 17), zi k14 12 f14), ((q0 19), zi k15 12 (a19_ 0)), ((q0 3), zi k3 400 f3), ((q0 2), zi k2 4800 f2)] ∧ va_S A s.heap H locs ∧ lv_has ls 2 [(0, .ref h0), (1, .int (u19_ 0))] ∧ (0 ≤ (u19_ 0).toInt ∧ (u19_ 0).toInt ≤ 12)) (fun ls u19_ w19_ => F0 m 19 ls []) 0 0 ?_ (fun hJ19 => ?_)
    · skip
      intro H locs ls u19_ w19_ a19_ b19_ hc hJ19
      obtain ⟨hP, hD, hS, hl, b_⟩ := hc
      refine lv_iload_n hx hb dX13_lookedWord_19 rfl (lv_at hl 1 rfl) ?_
      refine lv_aload_n hx hb dX13_lookedWord_20 rfl (lv_at hl 0 rfl) ?_
      refine va_get (D := (dC, dI)) (ci := 13) (v := .int (v0 18)) (C := RX13) (T := TX13) (N := 75) hx hb hG zuX13 hown hK hP 0 rfl rfl 20 (by decide) (hG _ zv1624) (fun _ h9 => h9) rfl dX13_lookedWord_21 ?_
      refine lv_icmp_ge (tgt := 45) hx hb dX13_lookedWord_24 (by decide) (fun c_ => ?_) (fun c_ => ?_)
      · skip
        have b_ := zT_ge rfl rfl c_
        refine lv_aload_n hx hb dX13_lookedWord_45 rfl (lv_at hl 0 rfl) ?_
        have hPc := hP.sub (ws' := [(h0, .inr (13, mX13 q0 (upd v0 20 (v0 18)))), ((q0 3), zi k3 400 f3), ((q0 2), zi k2 4800 f2), ((q0 19), zi k15 12 (a19_ 0))]) [0, 3, 4, 2] rfl
        have hDc := hD.sub (ws' := [(h0, .inr (13, mX13 q0 (upd v0 20 (v0 18)))), ((q0 3), zi k3 400 f3), ((q0 2), zi k2 4800 f2), ((q0 19), zi k15 12 (a19_ 0))]) [0, 3, 4, 2] (by decide) rfl
        have hKc := hK.sub (tys' := [(k3, .int), (k2, .byte), (k15, .byte)]) [2, 3, 1] rfl
        have hFc := va_free (wc := [(h0, .inr (13, mX13 q0 (upd v0 20 (v0 18)))), ((q0 3), zi k3 400 f3), ((q0 2), zi k2 4800 f2), ((q0 19), zi k15 12 (a19_ 0))]) hD hS hA [0, 3, 4, 2] rfl
        refine va_calli (va_runV (As := []) (rest := []) ⟨hx, hb, hml, hown, hG⟩ (sX13_find_0 l dC dI adK adV h0 q0 k3 k2 k15 H.size (upd v0 20 (v0 18)) f3 f2 (a19_ 0) (zR_up2 hv0 20 (show (0 : Int) ≤ ((v0 18) : Int32).toInt ∧ ((v0 18) : Int32).toInt ≤ (12 : Int) from (by first | with_reducible assumption | exact ⟨by omega, by omega⟩))) hf3) (cwV 0 hG (zgV zv1889 zv1891 zv57 zv142 zv1892) rfl rfl rfl (by decide +kernel) ⟨Nat.le_of_ble_eq_true rfl, Nat.le_of_ble_eq_true rfl⟩) ⟨zPc_blind, va_recv hKc hPc (ci := 13) (q0 := 0) rfl rfl, zPc_pre hPc hKc hDc hE hS hFc hZ⟩ rfl rfl hl.1 rfl (lv_room (Nat.le_of_ble_eq_true rfl)) dX13_lookedWord_46 ⟨Nat.le_of_ble_eq_true rfl, Nat.le_of_ble_eq_true rfl⟩) hS (fun q _ h => hFc q h) hFc (fun r46_ u46_ t H1 locs ht hvm hw hB hz1 hk1 hS => ?_)
        replace hw : ((-1) ≤ r46_.toInt ∧ r46_.toInt ≤ 399) ∧ (r46_.toInt < (v0 4).toInt) ∧ (zFd f2 f3 (a19_ 0) (v0 18).toInt (v0 4).toInt r46_.toInt) := hw
        obtain ⟨b_, hX46_0, hX46_1⟩ := hw
        obtain ⟨w46_, a46_, b46_, hP1, hK1, hD1⟩ := hB
        rw [ht] at hP1
        obtain ⟨hP, hD⟩ := va_join (wr := [((q0 17), zi k14 12 f14)]) (w1 := [(h0, .inr (13, mX13 q0 (upd v0 20 (v0 18)))), ((q0 3), zi k3 400 f3), ((q0 2), zi k2 4800 f2), ((q0 19), zi k15 12 (a19_ 0))]) hP hD [0, 3, 4, 2] [1] rfl rfl (by decide) (by decide) hk1 hFc hP1 hD1
        have hP : va_P (dC, dI) vwCl [(h0, .inr (13, mX13 q0 (upd v0 20 (v0 18)))), ((q0 17), zi k14 12 f14), ((q0 19), zi k15 12 (a19_ 0)), ((q0 3), zi k3 400 f3), ((q0 2), zi k2 4800 f2)] H1 := hP.sub [1, 0, 4, 2, 3] rfl
        have hD : va_D A [(h0, .inr (13, mX13 q0 (upd v0 20 (v0 18)))), ((q0 17), zi k14 12 f14), ((q0 19), zi k15 12 (a19_ 0)), ((q0 3), zi k3 400 f3), ((q0 2), zi k2 4800 f2)] := hD.sub [1, 0, 4, 2, 3] (by decide) rfl
        generalize H1 = H at hP hS ⊢
        clear hz1
        refine W.widen (k := 0) (n := 0) (by decide) (by decide) ?_
        have hpost : ((-1) ≤ r46_.toInt ∧ r46_.toInt ≤ 399) ∧ (0 ≤ (v0 18).toInt ∧ (v0 18).toInt ≤ 12) ∧ (r46_.toInt < (v0 4).toInt) := ⟨(by first | with_reducible assumption | exact ⟨by omega, by omega⟩), (by first | with_reducible assumption | exact ⟨by omega, by omega⟩), by omega⟩
        have hP9 : va_P (dC, dI) vwCl [(h0, .inr (13, mX13 q0 (upd v0 20 (v0 18)))), ((q0 17), zi k14 12 f14), ((q0 19), zi k15 12 (a19_ 0)), ((q0 3), zi k3 400 f3), ((q0 2), zi k2 4800 f2)] H := hP
        have hD9 : va_D A [(h0, .inr (13, mX13 q0 (upd v0 20 (v0 18)))), ((q0 17), zi k14 12 f14), ((q0 19), zi k15 12 (a19_ 0)), ((q0 3), zi k3 400 f3), ((q0 2), zi k2 4800 f2)] := hD
        exact W.iret (v := r46_) hx hb hr (fun t ht hW => ⟨⟨r46_, (fun i => ([(v0 18)] : List (Int32)).getD i 0), rfl, hpost, (fun _ => 0), (fun i => ([(a19_ 0)] : List (Nat → Int32)).getD i (fun _ => 0)), (fun _ => (fun _ => 0)), by rw [ht]; exact hP9, va_K.moved hW.alike hK, hD9⟩, hS.F ht⟩) hS.2.2 dX13_lookedWord_49
      · skip
        have b_ := zF_ge rfl rfl c_
        refine lv_aload_n hx hb dX13_lookedWord_27 rfl (lv_at hl 0 rfl) ?_
        refine va_get (D := (dC, dI)) (ci := 13) (v := .ref (q0 19)) (C := RX13) (T := TX13) (N := 75) hx hb hG zuX13 hown hK hP 0 rfl rfl 19 (by decide) (hG _ zv1623) (fun _ h9 => h9) rfl dX13_lookedWord_28 ?_
        refine lv_iload_n hx hb dX13_lookedWord_31 rfl (lv_at hl 1 rfl) ?_
        refine lv_aload_n hx hb dX13_lookedWord_32 rfl (lv_at hl 0 rfl) ?_
        refine va_get (D := (dC, dI)) (ci := 13) (v := .ref (q0 17)) (C := RX13) (T := TX13) (N := 75) hx hb hG zuX13 hown hK hP 0 rfl rfl 17 (by decide) (hG _ zv1621) (fun _ h9 => h9) rfl dX13_lookedWord_33 ?_
        refine lv_iload_n hx hb dX13_lookedWord_36 rfl (lv_at hl 1 rfl) ?_
        refine va_bald hx hb hK hP 1 0 rfl rfl (zin_lit ⟨by omega, by omega⟩) dX13_lookedWord_37 ?_
        refine lv_topi (fun z37 e_z37 => ?_)
        refine va_bast hx hb hK hP hD hS 2 1 rfl rfl (zin_lit ⟨by omega, by omega⟩) dX13_lookedWord_38 (fun H locs hP hD hS => ?_)
        obtain ⟨f_38, e_f_38⟩ : ∃ z : Nat → Int32, z = upd (a19_ 0) ((u19_ 0) : Int32).toNatClampNeg (vp_nar .byte z37) := ⟨_, rfl⟩
        have hP : va_P (dC, dI) vwCl [(h0, .inr (13, mX13 q0 (upd v0 20 (v0 18)))), ((q0 17), zi k14 12 f14), ((q0 19), zi k15 12 f_38), ((q0 3), zi k3 400 f3), ((q0 2), zi k2 4800 f2)] H := by rw [e_f_38]; exact hP
        have hD : va_D A [(h0, .inr (13, mX13 q0 (upd v0 20 (v0 18)))), ((q0 17), zi k14 12 f14), ((q0 19), zi k15 12 f_38), ((q0 3), zi k3 400 f3), ((q0 2), zi k2 4800 f2)] := by rw [e_f_38]; exact hD
        obtain ⟨z39, e_z39⟩ : ∃ z : Int32, z = (u19_ 0) + Int32.ofInt 1 := ⟨_, rfl⟩
        have b_ := zadd (x := (u19_ 0)) (y := Int32.ofInt 1) rfl (show (Int32.ofInt 1).toInt = 1 from by decide) e_z39 (by omega) (by omega)
        refine lv_iinc (v := z39) (lv' := [(1, .int z39), (0, .ref h0)]) hx hb dX13_lookedWord_39 hl (k := 1) rfl e_z39.symm (by decide) rfl (fun ls hl => ?_)
        refine lv_goto (tgt := 19) hx hb dX13_lookedWord_42 (by decide) ?_
        have hc : va_P (dC, dI) vwCl [(h0, .inr (13, mX13 q0 (upd v0 20 (v0 18)))), ((q0 17), zi k14 12 f14), ((q0 19), zi k15 12 f_38), ((q0 3), zi k3 400 f3), ((q0 2), zi k2 4800 f2)] H ∧ va_D A [(h0, .inr (13, mX13 q0 (upd v0 20 (v0 18)))), ((q0 17), zi k14 12 f14), ((q0 19), zi k15 12 f_38), ((q0 3), zi k3 400 f3), ((q0 2), zi k2 4800 f2)] ∧ va_S A s.heap H locs ∧ lv_has ls 2 [(0, .ref h0), (1, .int z39)] ∧ (0 ≤ z39.toInt ∧ z39.toInt ≤ 12) := ⟨hP, hD, hS, lv_sub hl [1, 0] rfl, (by first | with_reducible assumption | exact ⟨by omega, by omega⟩)⟩
        exact hJ19 H locs ls (fun i => ([z39] : List (Int32)).getD i 0) (fun _ => 0) (fun i => ([f_38] : List (Nat → Int32)).getD i (fun _ => 0)) (fun _ => (fun _ => 0)) hc (show (12 - z39.toInt).toNat < (12 - (u19_ 0).toInt).toNat from by omega)
    · skip
      have hc : va_P (dC, dI) vwCl [(h0, .inr (13, mX13 q0 (upd v0 20 (v0 18)))), ((q0 17), zi k14 12 f14), ((q0 19), zi k15 12 f15), ((q0 3), zi k3 400 f3), ((q0 2), zi k2 4800 f2)] H ∧ va_D A [(h0, .inr (13, mX13 q0 (upd v0 20 (v0 18)))), ((q0 17), zi k14 12 f14), ((q0 19), zi k15 12 f15), ((q0 3), zi k3 400 f3), ((q0 2), zi k2 4800 f2)] ∧ va_S A s.heap H locs ∧ lv_has ls 2 [(0, .ref h0), (1, .int 0)] ∧ (0 ≤ (0 : Int32).toInt ∧ (0 : Int32).toInt ≤ 12) := ⟨hP, hD, hS, lv_sub hl [1, 0] rfl, (by first | with_reducible assumption | exact ⟨by omega, by omega⟩)⟩
      exact hJ19 H locs ls (fun i => ([0] : List (Int32)).getD i 0) (fun _ => 0) (fun i => ([f15] : List (Nat → Int32)).getD i (fun _ => 0)) (fun _ => (fun _ => 0)) hc
  · skip
    have b_ := zF_gt rfl zk_0 c_
    refine lv_iconst (v := (-1)) hx hb dX13_lookedWord_7 (by decide) ?_
    refine W.widen (k := 0) (n := 0) (by decide) (by decide) ?_
    have b_ : 0 ≤ (v0 20).toInt ∧ (v0 20).toInt ≤ 12 := hv0 20
    have hpost : ((-1) ≤ ((-1) : Int32).toInt ∧ ((-1) : Int32).toInt ≤ 399) ∧ (0 ≤ (v0 20).toInt ∧ (v0 20).toInt ≤ 12) ∧ (((-1) : Int32).toInt < (v0 4).toInt) := ⟨(by first | with_reducible assumption | exact ⟨by omega, by omega⟩), (by first | with_reducible assumption | exact ⟨by omega, by omega⟩), by omega⟩
    have hP9 : va_P (dC, dI) vwCl [(h0, .inr (13, mX13 q0 (upd v0 20 (v0 20)))), ((q0 17), zi k14 12 f14), ((q0 19), zi k15 12 f15), ((q0 3), zi k3 400 f3), ((q0 2), zi k2 4800 f2)] s.heap := hP
    have hD9 : va_D A [(h0, .inr (13, mX13 q0 (upd v0 20 (v0 20)))), ((q0 17), zi k14 12 f14), ((q0 19), zi k15 12 f15), ((q0 3), zi k3 400 f3), ((q0 2), zi k2 4800 f2)] := hD
    exact W.iret (v := (-1)) hx hb hr (fun t ht hW => ⟨⟨(-1), (fun i => ([(v0 20)] : List (Int32)).getD i 0), rfl, hpost, (fun _ => 0), (fun i => ([f15] : List (Nat → Int32)).getD i (fun _ => 0)), (fun _ => (fun _ => 0)), by rw [ht]; exact hP9, va_K.moved hW.alike hK, hD9⟩, hS.F ht⟩) hS.2.2 dX13_lookedWord_8
set_option maxHeartbeats 8000000 in
set_option maxRecDepth 100000 in
theorem sX13_timesOf_0 (l : Launch) (dC : Nat → ClassId) (dI : Nat → Nat → Nat) (adK adV : Nat → Nat) (h0 : Nat) (q0 : Nat → Nat) (k10 : ClassId) (k4 : ClassId) (k11 : ClassId) (sz : Nat) (v0 : Nat → Int32) (f10 : Nat → Int32) (f4 : Nat → Int32) (f11 : Nat → Int32) (x1 : Int32) (x2 : Int32) (hv0 : zR rg_Model v0) (hf10 : zA 0 512 f10) (hf4 : zA 0 400 f4) (hf11 : zA 0 512 f11) (hx1 : 0 ≤ x1.toInt ∧ x1.toInt ≤ 119) (hx2 : 0 ≤ x2.toInt ∧ x2.toInt ≤ 399) : Met l yX13_timesOf (zw yX13_timesOf cX13_timesOf 5 (some .int)) { frames := 0, cells := 0, slots := 0, locals := 0 } (zPc dC dI adK adV [.ref h0, .int x1, .int x2] sz [(h0, .inr (13, mX13 q0 v0)), ((q0 11), zi k10 120 f10), ((q0 5), zi k4 122880 f4), ((q0 12), zi k11 120 f11)] [(k10, .int), (k4, .short), (k11, .int)]) (va_Qi (fun (r : Int32) (u : Nat → Int32) => (0 ≤ r.toInt ∧ r.toInt ≤ 1024) ∧ (r.toInt ≤ (zp f4 x1.toInt x2.toInt 1024).1)) (fun (u : Nat → Int32) (t : State) => ∃ (ww : Nat → Int64) (aa : Nat → Nat → Int32) (bb : Nat → Nat → Int64), va_P (dC, dI) vwCl [(h0, .inr (13, mX13 q0 v0)), ((q0 11), zi k10 120 f10), ((q0 5), zi k4 122880 f4), ((q0 12), zi k11 120 f11)] t.heap ∧ va_K (dC, dI) vwCl [(k10, .int), (k4, .short), (k11, .int)] t ∧ va_D (va_A [(h0, .inr (13, mX13 q0 v0)), ((q0 11), zi k10 120 f10), ((q0 5), zi k4 122880 f4), ((q0 12), zi k11 120 f11)] sz) [(h0, .inr (13, mX13 q0 v0)), ((q0 11), zi k10 120 f10), ((q0 5), zi k4 122880 f4), ((q0 12), zi k11 120 f11)]) (va_A [(h0, .inr (13, mX13 q0 v0)), ((q0 11), zi k10 120 f10), ((q0 5), zi k4 122880 f4), ((q0 12), zi k11 120 f11)] sz)) 0 0 (va_A [(h0, .inr (13, mX13 q0 v0)), ((q0 11), zi k10 120 f10), ((q0 5), zi k4 122880 f4), ((q0 12), zi k11 120 f11)] sz) := by
  refine Met.ofW (cc := cX13_timesOf) (maxL := 5) (ret := (some .int)) (by decide) rfl ?_
  intro p e s m args below meth c s₁ B hml hv
  obtain ⟨rfl, hsz, hP, hK, hD0, hE, hZ⟩ := hv
  have hx := B.exec
  have hb := B.bytes
  have hr := B.returns
  have hG : ∀ w ∈ zG, w.before _ s = true := fun w h => atoms_spec (ws := (zw yX13_timesOf cX13_timesOf 5 (some .int))) B.pre w (List.mem_cons_of_mem _ h)
  have hown : s.vm.findClass RX13 = some m.cls := findClass_of_methodNamed B.named
  have hlocks := B.notSynchronized

  subst hsz
  have hD := hD0.self (sz := s.heap.size)
  generalize hAe : va_A [(h0, .inr (13, mX13 q0 v0)), ((q0 11), zi k10 120 f10), ((q0 5), zi k4 122880 f4), ((q0 12), zi k11 120 f11)] s.heap.size = A at hD hZ ⊢
  have hA : ∀ q : Nat, s.heap.size ≤ q → A q := fun q h => by rw [← hAe]; exact Or.inr h
  have hS : va_S A s.heap s.heap [] := va_S.rf
  have hl := lv_entry ([.ref h0, .int x1, .int x2]) (n := 5) (Nat.le_of_ble_eq_true rfl)
  rw [lg_entry_eq]
  generalize (lg_sl ([.ref h0, .int x1, .int x2]) ++ List.replicate (5 - (lg_sl ([.ref h0, .int x1, .int x2])).length) Slot.unset).toArray = ls at hl ⊢
  have hl : lv_has ls 5 [(0, .ref h0), (1, .int x1), (2, .int x2)] := hl
  have b_ := zk_0
  have b_ := zk_512
  have b_ := hf10 (x1 : Int32).toNatClampNeg
  have b_ := hf11 (x1 : Int32).toNatClampNeg
  refine lv_iconst (v := 0) hx hb dX13_timesOf_0 (by decide) ?_
  refine lv_istore_n (lv' := [(3, .int 0), (0, .ref h0), (1, .int x1), (2, .int x2)]) hx hb dX13_timesOf_1 rfl hl (by decide) rfl (fun ls hl => ?_)
  refine lv_iconst (v := 0) hx hb dX13_timesOf_2 (by decide) ?_
  refine lv_istore (lv' := [(4, .int 0), (3, .int 0), (0, .ref h0), (1, .int x1), (2, .int x2)]) hx hb dX13_timesOf_3 hl (by decide) rfl (fun ls hl => ?_)
  refine zcutL (fun u5_ => (512 - (u5_ 1).toInt).toNat) (fun H locs ls u5_ w5_ a5_ b5_ => va_P (dC, dI) vwCl [(h0, .inr (13, mX13 q0 v0)), ((q0 11), zi k10 120 f10), ((q0 5), zi k4 122880 f4), ((q0 12), zi k11 120 f11)] H ∧ va_D A [(h0, .inr (13, mX13 q0 v0)), ((q0 11), zi k10 120 f10), ((q0 5), zi k4 122880 f4), ((q0 12), zi k11 120 f11)] ∧ va_S A s.heap H locs ∧ lv_has ls 5 [(0, .ref h0), (1, .int x1), (2, .int x2), (3, .int (u5_ 0)), (4, .int (u5_ 1))] ∧ (0 ≤ (u5_ 0).toInt ∧ (u5_ 0).toInt ≤ 512) ∧ (0 ≤ (u5_ 1).toInt ∧ (u5_ 1).toInt ≤ 512) ∧ ((u5_ 0).toInt ≤ (zp f4 x1.toInt x2.toInt ((u5_ 1).toInt).toNat).1) ∧ ((u5_ 1).toInt ≤ (f10 ((x1 : Int32)).toNatClampNeg).toInt) ∧ ((u5_ 0).toInt ≤ (u5_ 1).toInt)) (fun ls u5_ w5_ => F0 m 5 ls []) 0 0 ?_ (fun hJ5 => ?_)
  · skip
    intro H locs ls u5_ w5_ a5_ b5_ hc hJ5
    obtain ⟨hP, hD, hS, hl, b_, b_, hI5_0, b_, b_⟩ := hc
    refine lv_iload hx hb dX13_timesOf_5 (lv_at hl 4 rfl) ?_
    refine lv_aload_n hx hb dX13_timesOf_7 rfl (lv_at hl 0 rfl) ?_
    refine va_get (D := (dC, dI)) (ci := 13) (v := .ref (q0 11)) (C := RX13) (T := TX13) (N := 75) hx hb hG zuX13 hown hK hP 0 rfl rfl 11 (by decide) (hG _ zv1615) (fun _ h9 => h9) rfl dX13_timesOf_8 ?_
    refine lv_iload_n hx hb dX13_timesOf_11 rfl (lv_at hl 1 rfl) ?_
    refine va_iald hx hb hK hP 1 0 rfl rfl (zin_lit ⟨by omega, by omega⟩) dX13_timesOf_12 ?_
    refine lv_topi (fun z12 e_z12 => ?_)
    have b_ : 0 ≤ z12.toInt ∧ z12.toInt ≤ 512 := by rw [e_z12]; exact hf10 _
    have b_ : z12.toInt = (f10 (x1 : Int32).toNatClampNeg).toInt := by rw [e_z12]
    refine lv_icmp_ge (tgt := 49) hx hb dX13_timesOf_13 (by decide) (fun c_ => ?_) (fun c_ => ?_)
    · skip
      have b_ := zT_ge rfl rfl c_
      refine lv_sipush (v := 512) hx hb dX13_timesOf_49 (by decide) ?_
      refine lv_istore (lv' := [(4, .int 512), (0, .ref h0), (1, .int x1), (2, .int x2), (3, .int (u5_ 0))]) hx hb dX13_timesOf_52 hl (by decide) rfl (fun ls hl => ?_)
      refine zcutL (fun u54_ => (1024 - (u54_ 1).toInt).toNat) (fun H locs ls u54_ w54_ a54_ b54_ => va_P (dC, dI) vwCl [(h0, .inr (13, mX13 q0 v0)), ((q0 11), zi k10 120 f10), ((q0 5), zi k4 122880 f4), ((q0 12), zi k11 120 f11)] H ∧ va_D A [(h0, .inr (13, mX13 q0 v0)), ((q0 11), zi k10 120 f10), ((q0 5), zi k4 122880 f4), ((q0 12), zi k11 120 f11)] ∧ va_S A s.heap H locs ∧ lv_has ls 5 [(0, .ref h0), (1, .int x1), (2, .int x2), (3, .int (u54_ 0)), (4, .int (u54_ 1))] ∧ (0 ≤ (u54_ 0).toInt ∧ (u54_ 0).toInt ≤ 1024) ∧ (512 ≤ (u54_ 1).toInt ∧ (u54_ 1).toInt ≤ 1024) ∧ ((u54_ 0).toInt ≤ (zp f4 x1.toInt x2.toInt ((u54_ 1).toInt).toNat).1) ∧ ((u54_ 1).toInt ≤ 512 + (f11 ((x1 : Int32)).toNatClampNeg).toInt) ∧ ((u54_ 0).toInt ≤ (u54_ 1).toInt)) (fun ls u54_ w54_ => F0 m 54 ls []) 0 0 ?_ (fun hJ54 => ?_)
      · skip
        intro H locs ls u54_ w54_ a54_ b54_ hc hJ54
        obtain ⟨hP, hD, hS, hl, b_, b_, hI54_0, b_, b_⟩ := hc
        refine lv_iload hx hb dX13_timesOf_54 (lv_at hl 4 rfl) ?_
        refine lv_sipush (v := 512) hx hb dX13_timesOf_56 (by decide) ?_
        refine lv_aload_n hx hb dX13_timesOf_59 rfl (lv_at hl 0 rfl) ?_
        refine va_get (D := (dC, dI)) (ci := 13) (v := .ref (q0 12)) (C := RX13) (T := TX13) (N := 75) hx hb hG zuX13 hown hK hP 0 rfl rfl 12 (by decide) (hG _ zv1616) (fun _ h9 => h9) rfl dX13_timesOf_60 ?_
        refine lv_iload_n hx hb dX13_timesOf_63 rfl (lv_at hl 1 rfl) ?_
        refine va_iald hx hb hK hP 3 2 rfl rfl (zin_lit ⟨by omega, by omega⟩) dX13_timesOf_64 ?_
        refine lv_topi (fun z64 e_z64 => ?_)
        have b_ : 0 ≤ z64.toInt ∧ z64.toInt ≤ 512 := by rw [e_z64]; exact hf11 _
        have b_ : z64.toInt = (f11 (x1 : Int32).toNatClampNeg).toInt := by rw [e_z64]
        refine lv_iadd hx hb dX13_timesOf_65 ?_
        refine lv_topi (fun z65 e_z65 => ?_)
        have b_ := zadd zk_512 rfl e_z65 (by omega) (by omega)
        refine lv_icmp_ge (tgt := 102) hx hb dX13_timesOf_66 (by decide) (fun c_ => ?_) (fun c_ => ?_)
        · skip
          have b_ := zT_ge rfl rfl c_
          refine lv_iload_n hx hb dX13_timesOf_102 rfl (lv_at hl 3 rfl) ?_
          refine W.widen (k := 0) (n := 0) (by decide) (by decide) ?_
          have hpost : (0 ≤ (u54_ 0).toInt ∧ (u54_ 0).toInt ≤ 1024) ∧ ((u54_ 0).toInt ≤ (zp f4 x1.toInt x2.toInt 1024).1) := ⟨(by first | with_reducible assumption | exact ⟨by omega, by omega⟩), by exact zti_m (k' := 1024) hI54_0 (by omega) (by omega) (by omega) rfl⟩
          have hP9 : va_P (dC, dI) vwCl [(h0, .inr (13, mX13 q0 v0)), ((q0 11), zi k10 120 f10), ((q0 5), zi k4 122880 f4), ((q0 12), zi k11 120 f11)] H := hP
          have hD9 : va_D A [(h0, .inr (13, mX13 q0 v0)), ((q0 11), zi k10 120 f10), ((q0 5), zi k4 122880 f4), ((q0 12), zi k11 120 f11)] := hD
          exact W.iret (v := (u54_ 0)) hx hb hr (fun t ht hW => ⟨⟨(u54_ 0), (fun _ => 0), rfl, hpost, (fun _ => 0), (fun _ => (fun _ => 0)), (fun _ => (fun _ => 0)), by rw [ht]; exact hP9, va_K.moved hW.alike hK, hD9⟩, hS.F ht⟩) hS.2.2 dX13_timesOf_103
        · skip
          have b_ := zF_ge rfl rfl c_
          refine lv_iload_n hx hb dX13_timesOf_69 rfl (lv_at hl 3 rfl) ?_
          refine lv_aload_n hx hb dX13_timesOf_70 rfl (lv_at hl 0 rfl) ?_
          refine va_get (D := (dC, dI)) (ci := 13) (v := .ref (q0 5)) (C := RX13) (T := TX13) (N := 75) hx hb hG zuX13 hown hK hP 0 rfl rfl 5 (by decide) (hG _ zv1609) (fun _ h9 => h9) rfl dX13_timesOf_71 ?_
          refine lv_sipush (v := 1024) hx hb dX13_timesOf_74 (by decide) ?_
          refine lv_iload_n hx hb dX13_timesOf_77 rfl (lv_at hl 1 rfl) ?_
          refine lv_imul hx hb dX13_timesOf_78 ?_
          refine lv_topi (fun z78 e_z78 => ?_)
          have b_ := zmul zk_1024 rfl e_z78 (by omega) (by omega)
          refine lv_iload hx hb dX13_timesOf_79 (lv_at hl 4 rfl) ?_
          refine lv_iadd hx hb dX13_timesOf_81 ?_
          refine lv_topi (fun z81 e_z81 => ?_)
          have b_ := zadd rfl rfl e_z81 (by omega) (by omega)
          refine va_sald hx hb hK hP 2 1 rfl rfl (zin_lit ⟨by omega, by omega⟩) dX13_timesOf_82 ?_
          refine lv_topi (fun z82 e_z82 => ?_)
          have b_ : 0 ≤ z82.toInt ∧ z82.toInt ≤ 400 := by rw [e_z82]; exact hf4 _
          have hat : (f4 (1024 * x1.toInt + (u54_ 1).toInt).toNat).toInt = z82.toInt := congrArg Int32.toInt ((e_z82.trans (zix (by omega))).symm)
          refine lv_iload_n hx hb dX13_timesOf_83 rfl (lv_at hl 2 rfl) ?_
          refine lv_iconst (v := 1) hx hb dX13_timesOf_84 (by decide) ?_
          refine lv_iadd hx hb dX13_timesOf_85 ?_
          refine lv_topi (fun z85 e_z85 => ?_)
          have b_ := zadd rfl zk_1 e_z85 (by omega) (by omega)
          refine lv_icmp_ne (tgt := 93) hx hb dX13_timesOf_86 (by decide) (fun c_ => ?_) (fun c_ => ?_)
          · skip
            have b_ := zT_ne rfl rfl c_
            refine lv_iconst (v := 0) hx hb dX13_timesOf_93 (by decide) ?_
            refine lv_iadd hx hb dX13_timesOf_94 ?_
            refine lv_topi (fun z94 e_z94 => ?_)
            have b_ := zadd rfl zk_0 e_z94 (by omega) (by omega)
            refine lv_istore_n (lv' := [(3, .int z94), (0, .ref h0), (1, .int x1), (2, .int x2), (4, .int (u54_ 1))]) hx hb dX13_timesOf_95 rfl hl (by decide) rfl (fun ls hl => ?_)
            obtain ⟨z96, e_z96⟩ : ∃ z : Int32, z = (u54_ 1) + Int32.ofInt 1 := ⟨_, rfl⟩
            have b_ := zadd (x := (u54_ 1)) (y := Int32.ofInt 1) rfl (show (Int32.ofInt 1).toInt = 1 from by decide) e_z96 (by omega) (by omega)
            refine lv_iinc (v := z96) (lv' := [(4, .int z96), (3, .int z94), (0, .ref h0), (1, .int x1), (2, .int x2)]) hx hb dX13_timesOf_96 hl (k := 4) rfl e_z96.symm (by decide) rfl (fun ls hl => ?_)
            have hti : z94.toInt ≤ (zp f4 x1.toInt x2.toInt (z96.toInt).toNat).1 := zti_m hI54_0 (by omega) (by omega) (by omega) (by omega)
            refine lv_goto (tgt := 54) hx hb dX13_timesOf_99 (by decide) ?_
            have hc : va_P (dC, dI) vwCl [(h0, .inr (13, mX13 q0 v0)), ((q0 11), zi k10 120 f10), ((q0 5), zi k4 122880 f4), ((q0 12), zi k11 120 f11)] H ∧ va_D A [(h0, .inr (13, mX13 q0 v0)), ((q0 11), zi k10 120 f10), ((q0 5), zi k4 122880 f4), ((q0 12), zi k11 120 f11)] ∧ va_S A s.heap H locs ∧ lv_has ls 5 [(0, .ref h0), (1, .int x1), (2, .int x2), (3, .int z94), (4, .int z96)] ∧ (0 ≤ z94.toInt ∧ z94.toInt ≤ 1024) ∧ (512 ≤ z96.toInt ∧ z96.toInt ≤ 1024) ∧ (z94.toInt ≤ (zp f4 x1.toInt x2.toInt (z96.toInt).toNat).1) ∧ (z96.toInt ≤ 512 + (f11 ((x1 : Int32)).toNatClampNeg).toInt) ∧ (z94.toInt ≤ z96.toInt) := ⟨hP, hD, hS, lv_sub hl [2, 3, 4, 1, 0] rfl, (by first | with_reducible assumption | exact ⟨by omega, by omega⟩), (by first | with_reducible assumption | exact ⟨by omega, by omega⟩), by first | exact hti | exact zti_m hI5_0 (by omega) (by omega) (by omega) rfl, by omega, by omega⟩
            exact hJ54 H locs ls (fun i => ([z94, z96] : List (Int32)).getD i 0) (fun _ => 0) (fun _ => (fun _ => 0)) (fun _ => (fun _ => 0)) hc (show (1024 - z96.toInt).toNat < (1024 - (u54_ 1).toInt).toNat from by omega)
          · skip
            have b_ := zF_ne rfl rfl c_
            refine lv_iconst (v := 1) hx hb dX13_timesOf_89 (by decide) ?_
            refine lv_goto (tgt := 94) hx hb dX13_timesOf_90 (by decide) ?_
            refine lv_iadd hx hb dX13_timesOf_94 ?_
            refine lv_topi (fun z94 e_z94 => ?_)
            have b_ := zadd rfl zk_1 e_z94 (by omega) (by omega)
            refine lv_istore_n (lv' := [(3, .int z94), (0, .ref h0), (1, .int x1), (2, .int x2), (4, .int (u54_ 1))]) hx hb dX13_timesOf_95 rfl hl (by decide) rfl (fun ls hl => ?_)
            obtain ⟨z96, e_z96⟩ : ∃ z : Int32, z = (u54_ 1) + Int32.ofInt 1 := ⟨_, rfl⟩
            have b_ := zadd (x := (u54_ 1)) (y := Int32.ofInt 1) rfl (show (Int32.ofInt 1).toInt = 1 from by decide) e_z96 (by omega) (by omega)
            refine lv_iinc (v := z96) (lv' := [(4, .int z96), (3, .int z94), (0, .ref h0), (1, .int x1), (2, .int x2)]) hx hb dX13_timesOf_96 hl (k := 4) rfl e_z96.symm (by decide) rfl (fun ls hl => ?_)
            have hti : z94.toInt ≤ (zp f4 x1.toInt x2.toInt (z96.toInt).toNat).1 := zti_y hI54_0 (by omega) (hat.trans (by omega)) (by omega) (by omega)
            refine lv_goto (tgt := 54) hx hb dX13_timesOf_99 (by decide) ?_
            have hc : va_P (dC, dI) vwCl [(h0, .inr (13, mX13 q0 v0)), ((q0 11), zi k10 120 f10), ((q0 5), zi k4 122880 f4), ((q0 12), zi k11 120 f11)] H ∧ va_D A [(h0, .inr (13, mX13 q0 v0)), ((q0 11), zi k10 120 f10), ((q0 5), zi k4 122880 f4), ((q0 12), zi k11 120 f11)] ∧ va_S A s.heap H locs ∧ lv_has ls 5 [(0, .ref h0), (1, .int x1), (2, .int x2), (3, .int z94), (4, .int z96)] ∧ (0 ≤ z94.toInt ∧ z94.toInt ≤ 1024) ∧ (512 ≤ z96.toInt ∧ z96.toInt ≤ 1024) ∧ (z94.toInt ≤ (zp f4 x1.toInt x2.toInt (z96.toInt).toNat).1) ∧ (z96.toInt ≤ 512 + (f11 ((x1 : Int32)).toNatClampNeg).toInt) ∧ (z94.toInt ≤ z96.toInt) := ⟨hP, hD, hS, lv_sub hl [2, 3, 4, 1, 0] rfl, (by first | with_reducible assumption | exact ⟨by omega, by omega⟩), (by first | with_reducible assumption | exact ⟨by omega, by omega⟩), by first | exact hti | exact zti_m hI5_0 (by omega) (by omega) (by omega) rfl, by omega, by omega⟩
            exact hJ54 H locs ls (fun i => ([z94, z96] : List (Int32)).getD i 0) (fun _ => 0) (fun _ => (fun _ => 0)) (fun _ => (fun _ => 0)) hc (show (1024 - z96.toInt).toNat < (1024 - (u54_ 1).toInt).toNat from by omega)
      · skip
        have hc : va_P (dC, dI) vwCl [(h0, .inr (13, mX13 q0 v0)), ((q0 11), zi k10 120 f10), ((q0 5), zi k4 122880 f4), ((q0 12), zi k11 120 f11)] H ∧ va_D A [(h0, .inr (13, mX13 q0 v0)), ((q0 11), zi k10 120 f10), ((q0 5), zi k4 122880 f4), ((q0 12), zi k11 120 f11)] ∧ va_S A s.heap H locs ∧ lv_has ls 5 [(0, .ref h0), (1, .int x1), (2, .int x2), (3, .int (u5_ 0)), (4, .int 512)] ∧ (0 ≤ (u5_ 0).toInt ∧ (u5_ 0).toInt ≤ 1024) ∧ (512 ≤ (512 : Int32).toInt ∧ (512 : Int32).toInt ≤ 1024) ∧ ((u5_ 0).toInt ≤ (zp f4 x1.toInt x2.toInt ((512 : Int32).toInt).toNat).1) ∧ ((512 : Int32).toInt ≤ 512 + (f11 ((x1 : Int32)).toNatClampNeg).toInt) ∧ ((u5_ 0).toInt ≤ (512 : Int32).toInt) := ⟨hP, hD, hS, lv_sub hl [1, 2, 3, 4, 0] rfl, (by first | with_reducible assumption | exact ⟨by omega, by omega⟩), (by first | with_reducible assumption | exact ⟨by omega, by omega⟩), by first | exact hti | exact zti_m hI5_0 (by omega) (by omega) (by omega) rfl, by omega, by omega⟩
        exact hJ54 H locs ls (fun i => ([(u5_ 0), 512] : List (Int32)).getD i 0) (fun _ => 0) (fun _ => (fun _ => 0)) (fun _ => (fun _ => 0)) hc
    · skip
      have b_ := zF_ge rfl rfl c_
      refine lv_iload_n hx hb dX13_timesOf_16 rfl (lv_at hl 3 rfl) ?_
      refine lv_aload_n hx hb dX13_timesOf_17 rfl (lv_at hl 0 rfl) ?_
      refine va_get (D := (dC, dI)) (ci := 13) (v := .ref (q0 5)) (C := RX13) (T := TX13) (N := 75) hx hb hG zuX13 hown hK hP 0 rfl rfl 5 (by decide) (hG _ zv1609) (fun _ h9 => h9) rfl dX13_timesOf_18 ?_
      refine lv_sipush (v := 1024) hx hb dX13_timesOf_21 (by decide) ?_
      refine lv_iload_n hx hb dX13_timesOf_24 rfl (lv_at hl 1 rfl) ?_
      refine lv_imul hx hb dX13_timesOf_25 ?_
      refine lv_topi (fun z25 e_z25 => ?_)
      have b_ := zmul zk_1024 rfl e_z25 (by omega) (by omega)
      refine lv_iload hx hb dX13_timesOf_26 (lv_at hl 4 rfl) ?_
      refine lv_iadd hx hb dX13_timesOf_28 ?_
      refine lv_topi (fun z28 e_z28 => ?_)
      have b_ := zadd rfl rfl e_z28 (by omega) (by omega)
      refine va_sald hx hb hK hP 2 1 rfl rfl (zin_lit ⟨by omega, by omega⟩) dX13_timesOf_29 ?_
      refine lv_topi (fun z29 e_z29 => ?_)
      have b_ : 0 ≤ z29.toInt ∧ z29.toInt ≤ 400 := by rw [e_z29]; exact hf4 _
      have hat : (f4 (1024 * x1.toInt + (u5_ 1).toInt).toNat).toInt = z29.toInt := congrArg Int32.toInt ((e_z29.trans (zix (by omega))).symm)
      refine lv_iload_n hx hb dX13_timesOf_30 rfl (lv_at hl 2 rfl) ?_
      refine lv_iconst (v := 1) hx hb dX13_timesOf_31 (by decide) ?_
      refine lv_iadd hx hb dX13_timesOf_32 ?_
      refine lv_topi (fun z32 e_z32 => ?_)
      have b_ := zadd rfl zk_1 e_z32 (by omega) (by omega)
      refine lv_icmp_ne (tgt := 40) hx hb dX13_timesOf_33 (by decide) (fun c_ => ?_) (fun c_ => ?_)
      · skip
        have b_ := zT_ne rfl rfl c_
        refine lv_iconst (v := 0) hx hb dX13_timesOf_40 (by decide) ?_
        refine lv_iadd hx hb dX13_timesOf_41 ?_
        refine lv_topi (fun z41 e_z41 => ?_)
        have b_ := zadd rfl zk_0 e_z41 (by omega) (by omega)
        refine lv_istore_n (lv' := [(3, .int z41), (0, .ref h0), (1, .int x1), (2, .int x2), (4, .int (u5_ 1))]) hx hb dX13_timesOf_42 rfl hl (by decide) rfl (fun ls hl => ?_)
        obtain ⟨z43, e_z43⟩ : ∃ z : Int32, z = (u5_ 1) + Int32.ofInt 1 := ⟨_, rfl⟩
        have b_ := zadd (x := (u5_ 1)) (y := Int32.ofInt 1) rfl (show (Int32.ofInt 1).toInt = 1 from by decide) e_z43 (by omega) (by omega)
        refine lv_iinc (v := z43) (lv' := [(4, .int z43), (3, .int z41), (0, .ref h0), (1, .int x1), (2, .int x2)]) hx hb dX13_timesOf_43 hl (k := 4) rfl e_z43.symm (by decide) rfl (fun ls hl => ?_)
        have hti : z41.toInt ≤ (zp f4 x1.toInt x2.toInt (z43.toInt).toNat).1 := zti_m hI5_0 (by omega) (by omega) (by omega) (by omega)
        refine lv_goto (tgt := 5) hx hb dX13_timesOf_46 (by decide) ?_
        have hc : va_P (dC, dI) vwCl [(h0, .inr (13, mX13 q0 v0)), ((q0 11), zi k10 120 f10), ((q0 5), zi k4 122880 f4), ((q0 12), zi k11 120 f11)] H ∧ va_D A [(h0, .inr (13, mX13 q0 v0)), ((q0 11), zi k10 120 f10), ((q0 5), zi k4 122880 f4), ((q0 12), zi k11 120 f11)] ∧ va_S A s.heap H locs ∧ lv_has ls 5 [(0, .ref h0), (1, .int x1), (2, .int x2), (3, .int z41), (4, .int z43)] ∧ (0 ≤ z41.toInt ∧ z41.toInt ≤ 512) ∧ (0 ≤ z43.toInt ∧ z43.toInt ≤ 512) ∧ (z41.toInt ≤ (zp f4 x1.toInt x2.toInt (z43.toInt).toNat).1) ∧ (z43.toInt ≤ (f10 ((x1 : Int32)).toNatClampNeg).toInt) ∧ (z41.toInt ≤ z43.toInt) := ⟨hP, hD, hS, lv_sub hl [2, 3, 4, 1, 0] rfl, (by first | with_reducible assumption | exact ⟨by omega, by omega⟩), (by first | with_reducible assumption | exact ⟨by omega, by omega⟩), by first | exact hti | exact zti_0 (by omega) (by omega), by omega, by omega⟩
        exact hJ5 H locs ls (fun i => ([z41, z43] : List (Int32)).getD i 0) (fun _ => 0) (fun _ => (fun _ => 0)) (fun _ => (fun _ => 0)) hc (show (512 - z43.toInt).toNat < (512 - (u5_ 1).toInt).toNat from by omega)
      · skip
        have b_ := zF_ne rfl rfl c_
        refine lv_iconst (v := 1) hx hb dX13_timesOf_36 (by decide) ?_
        refine lv_goto (tgt := 41) hx hb dX13_timesOf_37 (by decide) ?_
        refine lv_iadd hx hb dX13_timesOf_41 ?_
        refine lv_topi (fun z41 e_z41 => ?_)
        have b_ := zadd rfl zk_1 e_z41 (by omega) (by omega)
        refine lv_istore_n (lv' := [(3, .int z41), (0, .ref h0), (1, .int x1), (2, .int x2), (4, .int (u5_ 1))]) hx hb dX13_timesOf_42 rfl hl (by decide) rfl (fun ls hl => ?_)
        obtain ⟨z43, e_z43⟩ : ∃ z : Int32, z = (u5_ 1) + Int32.ofInt 1 := ⟨_, rfl⟩
        have b_ := zadd (x := (u5_ 1)) (y := Int32.ofInt 1) rfl (show (Int32.ofInt 1).toInt = 1 from by decide) e_z43 (by omega) (by omega)
        refine lv_iinc (v := z43) (lv' := [(4, .int z43), (3, .int z41), (0, .ref h0), (1, .int x1), (2, .int x2)]) hx hb dX13_timesOf_43 hl (k := 4) rfl e_z43.symm (by decide) rfl (fun ls hl => ?_)
        have hti : z41.toInt ≤ (zp f4 x1.toInt x2.toInt (z43.toInt).toNat).1 := zti_y hI5_0 (by omega) (hat.trans (by omega)) (by omega) (by omega)
        refine lv_goto (tgt := 5) hx hb dX13_timesOf_46 (by decide) ?_
        have hc : va_P (dC, dI) vwCl [(h0, .inr (13, mX13 q0 v0)), ((q0 11), zi k10 120 f10), ((q0 5), zi k4 122880 f4), ((q0 12), zi k11 120 f11)] H ∧ va_D A [(h0, .inr (13, mX13 q0 v0)), ((q0 11), zi k10 120 f10), ((q0 5), zi k4 122880 f4), ((q0 12), zi k11 120 f11)] ∧ va_S A s.heap H locs ∧ lv_has ls 5 [(0, .ref h0), (1, .int x1), (2, .int x2), (3, .int z41), (4, .int z43)] ∧ (0 ≤ z41.toInt ∧ z41.toInt ≤ 512) ∧ (0 ≤ z43.toInt ∧ z43.toInt ≤ 512) ∧ (z41.toInt ≤ (zp f4 x1.toInt x2.toInt (z43.toInt).toNat).1) ∧ (z43.toInt ≤ (f10 ((x1 : Int32)).toNatClampNeg).toInt) ∧ (z41.toInt ≤ z43.toInt) := ⟨hP, hD, hS, lv_sub hl [2, 3, 4, 1, 0] rfl, (by first | with_reducible assumption | exact ⟨by omega, by omega⟩), (by first | with_reducible assumption | exact ⟨by omega, by omega⟩), by first | exact hti | exact zti_0 (by omega) (by omega), by omega, by omega⟩
        exact hJ5 H locs ls (fun i => ([z41, z43] : List (Int32)).getD i 0) (fun _ => 0) (fun _ => (fun _ => 0)) (fun _ => (fun _ => 0)) hc (show (512 - z43.toInt).toNat < (512 - (u5_ 1).toInt).toNat from by omega)
  · skip
    have hc : va_P (dC, dI) vwCl [(h0, .inr (13, mX13 q0 v0)), ((q0 11), zi k10 120 f10), ((q0 5), zi k4 122880 f4), ((q0 12), zi k11 120 f11)] s.heap ∧ va_D A [(h0, .inr (13, mX13 q0 v0)), ((q0 11), zi k10 120 f10), ((q0 5), zi k4 122880 f4), ((q0 12), zi k11 120 f11)] ∧ va_S A s.heap s.heap [] ∧ lv_has ls 5 [(0, .ref h0), (1, .int x1), (2, .int x2), (3, .int 0), (4, .int 0)] ∧ (0 ≤ (0 : Int32).toInt ∧ (0 : Int32).toInt ≤ 512) ∧ (0 ≤ (0 : Int32).toInt ∧ (0 : Int32).toInt ≤ 512) ∧ ((0 : Int32).toInt ≤ (zp f4 x1.toInt x2.toInt ((0 : Int32).toInt).toNat).1) ∧ ((0 : Int32).toInt ≤ (f10 ((x1 : Int32)).toNatClampNeg).toInt) ∧ ((0 : Int32).toInt ≤ (0 : Int32).toInt) := ⟨hP, hD, hS, lv_sub hl [2, 3, 4, 1, 0] rfl, (by first | with_reducible assumption | exact ⟨by omega, by omega⟩), (by first | with_reducible assumption | exact ⟨by omega, by omega⟩), by first | exact hti | exact zti_0 (by omega) (by omega), by omega, by omega⟩
    exact hJ5 s.heap [] ls (fun i => ([0, 0] : List (Int32)).getD i 0) (fun _ => 0) (fun _ => (fun _ => 0)) (fun _ => (fun _ => 0)) hc
