set_option maxHeartbeats 8000000 in
set_option maxRecDepth 100000 in
theorem sX3_open_0 (l : Launch) (dC : Nat → ClassId) (dI : Nat → Nat → Nat) (adK adV : Nat → Nat) (h0 : Nat) (h26 : Nat) (h27 : Nat) (h17 : Nat) (h18 : Nat) (h19 : Nat) (h20 : Nat) (h23 : Nat) (h1 : Nat) (h25 : Nat) (h3 : Nat) (h8 : Nat) (h14 : Nat) (h12 : Nat) (h28 : Nat) (h29 : Nat) (h21 : Nat) (h22 : Nat) (h24 : Nat) (h2 : Nat) (h4 : Nat) (h5 : Nat) (h6 : Nat) (h7 : Nat) (h9 : Nat) (h10 : Nat) (h11 : Nat) (h13 : Nat) (h15 : Nat) (h16 : Nat) (k26 : ClassId) (k27 : ClassId) (k18 : ClassId) (k19 : ClassId) (k20 : ClassId) (k23 : ClassId) (k25 : ClassId) (k3 : ClassId) (k14 : ClassId) (k12 : ClassId) (pl0 : va_W) (sz : Nat) (v0 : Nat → Int32) (f26 : Nat → Int32) (f27 : Nat → Int32) (v17 : Nat → Int32) (f18 : Nat → Int32) (f19 : Nat → Int32) (f20 : Nat → Int32) (f23 : Nat → Int32) (v1 : Nat → Int32) (f25 : Nat → Option Nat) (f3 : Nat → Int32) (v8 : Nat → Int32) (f14 : Nat → Int32) (f12 : Nat → Int32) (hv0 : zR rg_Page v0) (hf26 : zA 0 399 f26) (hv17 : zR rg_Query v17) (hv1 : zR rg_Words400 v1) (hf3 : zA 0 399 f3) (hv8 : zR rg_Postings v8) (hp0_ : zRd h8 f25 pl0) : Met l yX3_open (zw yX3_open cX3_open 4 none) { frames := 4, cells := 400, slots := 3600, locals := 83 } (zPc dC dI adK adV [.ref h0] sz ([(h0, .inr (3, mX3 h1 h8 h17 h25 h26 h27 h28 h29 v0)), (h26, zi k26 400 f26), (h27, zi k27 400 f27), (h17, .inr (7, mX7 h18 h19 h20 h21 h22 h23 h24 v17)), (h18, zi k18 40 f18), (h19, zi k19 40 f19), (h20, zi k20 40 f20), (h23, zi k23 160 f23), (h1, .inr (10, mX10 h2 h3 h4 h5 h6 h7 v1)), (h25, .inl (k25, 400, .inr (.inr (.inr (.inr f25))))), (h3, zi k3 400 f3), (h8, .inr (6, mX6 h9 h10 h11 h12 h13 h14 h15 h16 v8)), (h14, zi k14 400 f14), (h12, zi k12 400 f12)] ++ pl0) [(k26, .int), (k27, .boolean), (k18, .int), (k19, .int), (k20, .int), (k23, .int), (k25, .object RX8), (k3, .int), (k14, .int), (k12, .int)]) (va_Qv (fun (u : Nat → Int32) => (0 ≤ (u 0).toInt ∧ (u 0).toInt ≤ 400)) (fun (u : Nat → Int32) (t : State) => ∃ (ww : Nat → Int64) (aa : Nat → Nat → Int32) (bb : Nat → Nat → Int64) (qq : Nat → Nat → Option Nat) (pl1 : va_W), zA 0 399 (aa 0) ∧ (zRd h8 (qq 0) pl1) ∧ (zKp h8 pl0 pl1) ∧ va_P (dC, dI) vwCl ([(h0, .inr (3, mX3 h1 h8 h17 h25 h26 h27 h28 h29 (upd v0 8 (u 0)))), (h26, zi k26 400 (aa 0)), (h27, zi k27 400 (aa 1)), (h17, .inr (7, mX7 h18 h19 h20 h21 h22 h23 h24 v17)), (h18, zi k18 40 f18), (h19, zi k19 40 f19), (h20, zi k20 40 f20), (h23, zi k23 160 f23), (h1, .inr (10, mX10 h2 h3 h4 h5 h6 h7 v1)), (h25, .inl (k25, 400, .inr (.inr (.inr (.inr (qq 0)))))), (h3, zi k3 400 f3), (h8, .inr (6, mX6 h9 h10 h11 h12 h13 h14 h15 h16 v8)), (h14, zi k14 400 f14), (h12, zi k12 400 f12)] ++ pl1) t.heap ∧ va_K (dC, dI) vwCl [(k26, .int), (k27, .boolean), (k18, .int), (k19, .int), (k20, .int), (k23, .int), (k25, .object RX8), (k3, .int), (k14, .int), (k12, .int)] t ∧ va_D (va_A ([(h0, .inr (3, mX3 h1 h8 h17 h25 h26 h27 h28 h29 v0)), (h26, zi k26 400 f26), (h27, zi k27 400 f27), (h17, .inr (7, mX7 h18 h19 h20 h21 h22 h23 h24 v17)), (h18, zi k18 40 f18), (h19, zi k19 40 f19), (h20, zi k20 40 f20), (h23, zi k23 160 f23), (h1, .inr (10, mX10 h2 h3 h4 h5 h6 h7 v1)), (h25, .inl (k25, 400, .inr (.inr (.inr (.inr f25))))), (h3, zi k3 400 f3), (h8, .inr (6, mX6 h9 h10 h11 h12 h13 h14 h15 h16 v8)), (h14, zi k14 400 f14), (h12, zi k12 400 f12)] ++ pl0) sz) ([(h0, .inr (3, mX3 h1 h8 h17 h25 h26 h27 h28 h29 (upd v0 8 (u 0)))), (h26, zi k26 400 (aa 0)), (h27, zi k27 400 (aa 1)), (h17, .inr (7, mX7 h18 h19 h20 h21 h22 h23 h24 v17)), (h18, zi k18 40 f18), (h19, zi k19 40 f19), (h20, zi k20 40 f20), (h23, zi k23 160 f23), (h1, .inr (10, mX10 h2 h3 h4 h5 h6 h7 v1)), (h25, .inl (k25, 400, .inr (.inr (.inr (.inr (qq 0)))))), (h3, zi k3 400 f3), (h8, .inr (6, mX6 h9 h10 h11 h12 h13 h14 h15 h16 v8)), (h14, zi k14 400 f14), (h12, zi k12 400 f12)] ++ pl1)) (va_A ([(h0, .inr (3, mX3 h1 h8 h17 h25 h26 h27 h28 h29 v0)), (h26, zi k26 400 f26), (h27, zi k27 400 f27), (h17, .inr (7, mX7 h18 h19 h20 h21 h22 h23 h24 v17)), (h18, zi k18 40 f18), (h19, zi k19 40 f19), (h20, zi k20 40 f20), (h23, zi k23 160 f23), (h1, .inr (10, mX10 h2 h3 h4 h5 h6 h7 v1)), (h25, .inl (k25, 400, .inr (.inr (.inr (.inr f25))))), (h3, zi k3 400 f3), (h8, .inr (6, mX6 h9 h10 h11 h12 h13 h14 h15 h16 v8)), (h14, zi k14 400 f14), (h12, zi k12 400 f12)] ++ pl0) sz)) 400 3600 (va_A ([(h0, .inr (3, mX3 h1 h8 h17 h25 h26 h27 h28 h29 v0)), (h26, zi k26 400 f26), (h27, zi k27 400 f27), (h17, .inr (7, mX7 h18 h19 h20 h21 h22 h23 h24 v17)), (h18, zi k18 40 f18), (h19, zi k19 40 f19), (h20, zi k20 40 f20), (h23, zi k23 160 f23), (h1, .inr (10, mX10 h2 h3 h4 h5 h6 h7 v1)), (h25, .inl (k25, 400, .inr (.inr (.inr (.inr f25))))), (h3, zi k3 400 f3), (h8, .inr (6, mX6 h9 h10 h11 h12 h13 h14 h15 h16 v8)), (h14, zi k14 400 f14), (h12, zi k12 400 f12)] ++ pl0) sz) := by
  refine Met.ofW (cc := cX3_open) (maxL := 4) (ret := none) (by decide) rfl ?_
  intro p e s m args below meth c s₁ B hml hv
  obtain ⟨rfl, hsz, hP, hK, hD0, hE, hZ⟩ := hv
  have hx := B.exec
  have hb := B.bytes
  have hr := B.returns
  have hG : ∀ w ∈ zG, w.before _ s = true := fun w h => atoms_spec (ws := (zw yX3_open cX3_open 4 none)) B.pre w (List.mem_cons_of_mem _ h)
  have hown : s.vm.findClass RX3 = some m.cls := findClass_of_methodNamed B.named
  have hlocks := B.notSynchronized

  subst hsz
  have hD := hD0.self (sz := s.heap.size)
  generalize hAe : va_A ([(h0, .inr (3, mX3 h1 h8 h17 h25 h26 h27 h28 h29 v0)), (h26, zi k26 400 f26), (h27, zi k27 400 f27), (h17, .inr (7, mX7 h18 h19 h20 h21 h22 h23 h24 v17)), (h18, zi k18 40 f18), (h19, zi k19 40 f19), (h20, zi k20 40 f20), (h23, zi k23 160 f23), (h1, .inr (10, mX10 h2 h3 h4 h5 h6 h7 v1)), (h25, .inl (k25, 400, .inr (.inr (.inr (.inr f25))))), (h3, zi k3 400 f3), (h8, .inr (6, mX6 h9 h10 h11 h12 h13 h14 h15 h16 v8)), (h14, zi k14 400 f14), (h12, zi k12 400 f12)] ++ pl0) s.heap.size = A at hD hZ ⊢
  have hA : ∀ q : Nat, s.heap.size ≤ q → A q := fun q h => by rw [← hAe]; exact Or.inr h
  have hS : va_S A s.heap s.heap [] := va_S.rf
  have hl := lv_entry ([.ref h0]) (n := 4) (Nat.le_of_ble_eq_true rfl)
  rw [lg_entry_eq]
  generalize (lg_sl ([.ref h0]) ++ List.replicate (4 - (lg_sl ([.ref h0])).length) Slot.unset).toArray = ls at hl ⊢
  have hl : lv_has ls 4 [(0, .ref h0)] := hl
  have b_ := zk_0
  refine lv_iconst (v := 0) hx hb dX3_open_0 (by decide) ?_
  refine lv_istore_n (lv' := [(1, .int 0), (0, .ref h0)]) hx hb dX3_open_1 rfl hl (by decide) rfl (fun ls hl => ?_)
  refine zcutL (fun u2_ => (400 - (u2_ 0).toInt).toNat) (fun H locs ls u2_ w2_ a2_ b2_ => ∃ (q2_ : Nat → Nat → Option Nat) (pl2 : va_W), va_P (dC, dI) vwCl ([(h0, .inr (3, mX3 h1 h8 h17 h25 h26 h27 h28 h29 v0)), (h26, zi k26 400 f26), (h27, zi k27 400 (a2_ 0)), (h17, .inr (7, mX7 h18 h19 h20 h21 h22 h23 h24 v17)), (h18, zi k18 40 f18), (h19, zi k19 40 f19), (h20, zi k20 40 f20), (h23, zi k23 160 f23), (h1, .inr (10, mX10 h2 h3 h4 h5 h6 h7 v1)), (h25, .inl (k25, 400, .inr (.inr (.inr (.inr f25))))), (h3, zi k3 400 f3), (h8, .inr (6, mX6 h9 h10 h11 h12 h13 h14 h15 h16 v8)), (h14, zi k14 400 f14), (h12, zi k12 400 f12)] ++ pl2) H ∧ va_D A ([(h0, .inr (3, mX3 h1 h8 h17 h25 h26 h27 h28 h29 v0)), (h26, zi k26 400 f26), (h27, zi k27 400 (a2_ 0)), (h17, .inr (7, mX7 h18 h19 h20 h21 h22 h23 h24 v17)), (h18, zi k18 40 f18), (h19, zi k19 40 f19), (h20, zi k20 40 f20), (h23, zi k23 160 f23), (h1, .inr (10, mX10 h2 h3 h4 h5 h6 h7 v1)), (h25, .inl (k25, 400, .inr (.inr (.inr (.inr f25))))), (h3, zi k3 400 f3), (h8, .inr (6, mX6 h9 h10 h11 h12 h13 h14 h15 h16 v8)), (h14, zi k14 400 f14), (h12, zi k12 400 f12)] ++ pl2) ∧ va_S A s.heap H locs ∧ lv_has ls 4 [(0, .ref h0), (1, .int (u2_ 0))] ∧ (0 ≤ (u2_ 0).toInt ∧ (u2_ 0).toInt ≤ 400) ∧ (zRd h8 f25 pl2) ∧ (zKp h8 pl0 pl2)) (fun ls u2_ w2_ => F0 m 2 ls []) 0 0 ?_ (fun hJ2 => ?_)
  · skip
    intro H locs ls u2_ w2_ a2_ b2_ hc hJ2
    obtain ⟨q2_, pl2, hP, hD, hS, hl, b_, hI2_0, hI2_1⟩ := hc
    refine lv_iload_n hx hb dX3_open_2 rfl (lv_at hl 1 rfl) ?_
    refine lv_aload_n hx hb dX3_open_3 rfl (lv_at hl 0 rfl) ?_
    have b_ : 0 ≤ (v0 8).toInt ∧ (v0 8).toInt ≤ 400 := hv0 8
    refine va_get (D := (dC, dI)) (ci := 3) (v := .int (v0 8)) (C := RX3) (T := TX3) (N := 10) hx hb hG zuX3 hown hK hP 0 rfl rfl 8 (by decide) (hG _ zv481) (fun _ h9 => h9) rfl dX3_open_4 ?_
    refine lv_icmp_ge (tgt := 28) hx hb dX3_open_7 (by decide) (fun c_ => ?_) (fun c_ => ?_)
    · skip
      have b_ := zT_ge rfl rfl c_
      refine lv_aload_n hx hb dX3_open_28 rfl (lv_at hl 0 rfl) ?_
      refine lv_iconst (v := 0) hx hb dX3_open_29 (by decide) ?_
      refine va_put (D := (dC, dI)) (ci := 3) (v := .int 0) (ty := .int) (C := RX3) (T := TX3) (N := 10) hx hb hG zuX3 tyX3 tyX3_ok nmX3 hown hK hP hD hS 0 rfl rfl 8 (by decide) (hG _ zv481) (fun _ h9 => h9) rfl (by decide +kernel) rfl rfl (Nat.le_of_ble_eq_true rfl) dX3_open_30 (fun H locs hP hD hS => ?_)
      have hP : va_P (dC, dI) vwCl ([(h0, .inr (3, mX3 h1 h8 h17 h25 h26 h27 h28 h29 (upd v0 8 0))), (h26, zi k26 400 f26), (h27, zi k27 400 (a2_ 0)), (h17, .inr (7, mX7 h18 h19 h20 h21 h22 h23 h24 v17)), (h18, zi k18 40 f18), (h19, zi k19 40 f19), (h20, zi k20 40 f20), (h23, zi k23 160 f23), (h1, .inr (10, mX10 h2 h3 h4 h5 h6 h7 v1)), (h25, .inl (k25, 400, .inr (.inr (.inr (.inr f25))))), (h3, zi k3 400 f3), (h8, .inr (6, mX6 h9 h10 h11 h12 h13 h14 h15 h16 v8)), (h14, zi k14 400 f14), (h12, zi k12 400 f12)] ++ pl2) H := hP
      have hD : va_D A ([(h0, .inr (3, mX3 h1 h8 h17 h25 h26 h27 h28 h29 (upd v0 8 0))), (h26, zi k26 400 f26), (h27, zi k27 400 (a2_ 0)), (h17, .inr (7, mX7 h18 h19 h20 h21 h22 h23 h24 v17)), (h18, zi k18 40 f18), (h19, zi k19 40 f19), (h20, zi k20 40 f20), (h23, zi k23 160 f23), (h1, .inr (10, mX10 h2 h3 h4 h5 h6 h7 v1)), (h25, .inl (k25, 400, .inr (.inr (.inr (.inr f25))))), (h3, zi k3 400 f3), (h8, .inr (6, mX6 h9 h10 h11 h12 h13 h14 h15 h16 v8)), (h14, zi k14 400 f14), (h12, zi k12 400 f12)] ++ pl2) := hD
      refine W.widen (k := (0 + 1 * ((0 : Int32).toInt).toNat)) (n := (0 + 9 * ((0 : Int32).toInt).toNat)) (by omega) (by omega) ?_
      refine lv_iconst (v := 0) hx hb dX3_open_33 (by decide) ?_
      refine lv_istore_n (lv' := [(1, .int 0), (0, .ref h0)]) hx hb dX3_open_34 rfl hl (by decide) rfl (fun ls hl => ?_)
      refine zcutLk (fun u35_ => (40 - (u35_ 0).toInt).toNat) (fun H locs ls u35_ w35_ a35_ b35_ => ∃ (q35_ : Nat → Nat → Option Nat) (pl35 : va_W), va_P (dC, dI) vwCl ([(h0, .inr (3, mX3 h1 h8 h17 h25 h26 h27 h28 h29 (upd v0 8 (u35_ 1)))), (h26, zi k26 400 (a35_ 0)), (h27, zi k27 400 (a35_ 1)), (h17, .inr (7, mX7 h18 h19 h20 h21 h22 h23 h24 v17)), (h18, zi k18 40 f18), (h19, zi k19 40 f19), (h20, zi k20 40 f20), (h23, zi k23 160 f23), (h1, .inr (10, mX10 h2 h3 h4 h5 h6 h7 v1)), (h25, .inl (k25, 400, .inr (.inr (.inr (.inr (q35_ 0)))))), (h3, zi k3 400 f3), (h8, .inr (6, mX6 h9 h10 h11 h12 h13 h14 h15 h16 v8)), (h14, zi k14 400 f14), (h12, zi k12 400 f12)] ++ pl35) H ∧ va_D A ([(h0, .inr (3, mX3 h1 h8 h17 h25 h26 h27 h28 h29 (upd v0 8 (u35_ 1)))), (h26, zi k26 400 (a35_ 0)), (h27, zi k27 400 (a35_ 1)), (h17, .inr (7, mX7 h18 h19 h20 h21 h22 h23 h24 v17)), (h18, zi k18 40 f18), (h19, zi k19 40 f19), (h20, zi k20 40 f20), (h23, zi k23 160 f23), (h1, .inr (10, mX10 h2 h3 h4 h5 h6 h7 v1)), (h25, .inl (k25, 400, .inr (.inr (.inr (.inr (q35_ 0)))))), (h3, zi k3 400 f3), (h8, .inr (6, mX6 h9 h10 h11 h12 h13 h14 h15 h16 v8)), (h14, zi k14 400 f14), (h12, zi k12 400 f12)] ++ pl35) ∧ va_S A s.heap H locs ∧ lv_has ls 4 [(0, .ref h0), (1, .int (u35_ 0))] ∧ zA 0 399 (a35_ 0) ∧ (0 ≤ (u35_ 0).toInt ∧ (u35_ 0).toInt ≤ 40) ∧ (0 ≤ (u35_ 1).toInt ∧ (u35_ 1).toInt ≤ 400) ∧ (zRd h8 (q35_ 0) pl35) ∧ (zKp h8 pl0 pl35)) (fun ls u35_ w35_ => F0 m 35 ls []) (fun u35_ => (0 + 1 * ((u35_ 1).toInt).toNat)) (fun u35_ => (0 + 9 * ((u35_ 1).toInt).toNat)) ?_ (fun hJ35 => ?_)
      · skip
        intro H locs ls u35_ w35_ a35_ b35_ hc hJ35
        obtain ⟨q35_, pl35, hP, hD, hS, hl, ha35_0, b_, b_, hI35_0, hI35_1⟩ := hc
        refine lv_iload_n hx hb dX3_open_35 rfl (lv_at hl 1 rfl) ?_
        refine lv_aload_n hx hb dX3_open_36 rfl (lv_at hl 0 rfl) ?_
        refine va_get (D := (dC, dI)) (ci := 3) (v := .ref h17) (C := RX3) (T := TX3) (N := 10) hx hb hG zuX3 hown hK hP 0 rfl rfl 2 (by decide) (hG _ zv475) (fun _ h9 => h9) rfl dX3_open_37 ?_
        have hPc := hP.sub (ws' := [(h17, .inr (7, mX7 h18 h19 h20 h21 h22 h23 h24 v17))]) [3] rfl
        have hDc := hD.sub (ws' := [(h17, .inr (7, mX7 h18 h19 h20 h21 h22 h23 h24 v17))]) [3] (by decide) rfl
        have hKc := hK.sub (tys' := []) [] rfl
        have hFc := va_free (wc := [(h17, .inr (7, mX7 h18 h19 h20 h21 h22 h23 h24 v17))]) hD hS hA [3] rfl
        refine va_calli (va_runV (As := []) (rest := [.int (u35_ 0)]) ⟨hx, hb, hml, hown, hG⟩ (sX7_leaves_0 l dC dI adK adV h17 h18 h19 h20 h21 h22 h23 h24 H.size v17 hv17) (cwV 0 hG (zgV zv1183 zv1093 zv1094 zv136 zv1095) rfl rfl rfl (by decide +kernel) ⟨Nat.le_of_ble_eq_true rfl, Nat.le_of_ble_eq_true rfl⟩) ⟨zPc_blind, va_recv hKc hPc (ci := 7) (q0 := 0) rfl rfl, zPc_pre hPc hKc hDc hE hS hFc hZ⟩ rfl rfl hl.1 rfl (lv_room (Nat.le_of_ble_eq_true rfl)) dX3_open_40 ⟨(show (0 + 1 * ((u35_ 1).toInt).toNat) + 0 ≤ 400 from by omega), (show (0 + 9 * ((u35_ 1).toInt).toNat) + 0 ≤ 3600 from by omega)⟩) hS (fun q _ h => hFc q h) hFc (fun r40_ u40_ t H1 locs ht hvm hw hB hz1 hk1 hS => ?_)
        replace hw : (0 ≤ r40_.toInt ∧ r40_.toInt ≤ 40) ∧ (r40_.toInt = (v17 7).toInt) := hw
        obtain ⟨b_, hX40_0⟩ := hw
        obtain ⟨w40_, a40_, b40_, hP1, hK1, hD1⟩ := hB
        rw [ht] at hP1
        obtain ⟨hP, hD⟩ := va_joinQ (wr := [(h0, .inr (3, mX3 h1 h8 h17 h25 h26 h27 h28 h29 (upd v0 8 (u35_ 1)))), (h26, zi k26 400 (a35_ 0)), (h27, zi k27 400 (a35_ 1)), (h18, zi k18 40 f18), (h19, zi k19 40 f19), (h20, zi k20 40 f20), (h23, zi k23 160 f23), (h1, .inr (10, mX10 h2 h3 h4 h5 h6 h7 v1)), (h25, .inl (k25, 400, .inr (.inr (.inr (.inr (q35_ 0)))))), (h3, zi k3 400 f3), (h8, .inr (6, mX6 h9 h10 h11 h12 h13 h14 h15 h16 v8)), (h14, zi k14 400 f14), (h12, zi k12 400 f12)]) (w1 := [(h17, .inr (7, mX7 h18 h19 h20 h21 h22 h23 h24 v17))]) hP hD [3] [0, 1, 2, 4, 5, 6, 7, 8, 9, 10, 11, 12, 13] rfl rfl (by decide) (by decide) hk1 hFc hP1 hD1
        have hP : va_P (dC, dI) vwCl ([(h0, .inr (3, mX3 h1 h8 h17 h25 h26 h27 h28 h29 (upd v0 8 (u35_ 1)))), (h26, zi k26 400 (a35_ 0)), (h27, zi k27 400 (a35_ 1)), (h17, .inr (7, mX7 h18 h19 h20 h21 h22 h23 h24 v17)), (h18, zi k18 40 f18), (h19, zi k19 40 f19), (h20, zi k20 40 f20), (h23, zi k23 160 f23), (h1, .inr (10, mX10 h2 h3 h4 h5 h6 h7 v1)), (h25, .inl (k25, 400, .inr (.inr (.inr (.inr (q35_ 0)))))), (h3, zi k3 400 f3), (h8, .inr (6, mX6 h9 h10 h11 h12 h13 h14 h15 h16 v8)), (h14, zi k14 400 f14), (h12, zi k12 400 f12)] ++ pl35) H1 := hP.part [0, 1, 2, 13, 3, 4, 5, 6, 7, 8, 9, 10, 11, 12] rfl
        have hD : va_D A ([(h0, .inr (3, mX3 h1 h8 h17 h25 h26 h27 h28 h29 (upd v0 8 (u35_ 1)))), (h26, zi k26 400 (a35_ 0)), (h27, zi k27 400 (a35_ 1)), (h17, .inr (7, mX7 h18 h19 h20 h21 h22 h23 h24 v17)), (h18, zi k18 40 f18), (h19, zi k19 40 f19), (h20, zi k20 40 f20), (h23, zi k23 160 f23), (h1, .inr (10, mX10 h2 h3 h4 h5 h6 h7 v1)), (h25, .inl (k25, 400, .inr (.inr (.inr (.inr (q35_ 0)))))), (h3, zi k3 400 f3), (h8, .inr (6, mX6 h9 h10 h11 h12 h13 h14 h15 h16 v8)), (h14, zi k14 400 f14), (h12, zi k12 400 f12)] ++ pl35) := hD.part [0, 1, 2, 13, 3, 4, 5, 6, 7, 8, 9, 10, 11, 12] (by decide) rfl
        generalize H1 = H at hP hS ⊢
        clear hz1
        refine lv_icmp_ge (tgt := 114) hx hb dX3_open_43 (by decide) (fun c_ => ?_) (fun c_ => ?_)
        · skip
          have b_ := zT_ge rfl rfl c_
          refine W.widen (k := 400) (n := 3600) (by omega) (by omega) ?_
          have hpost : (0 ≤ (u35_ 1).toInt ∧ (u35_ 1).toInt ≤ 400) := ⟨by omega, by omega⟩
          have hP9 : va_P (dC, dI) vwCl ([(h0, .inr (3, mX3 h1 h8 h17 h25 h26 h27 h28 h29 (upd v0 8 (u35_ 1)))), (h26, zi k26 400 (a35_ 0)), (h27, zi k27 400 (a35_ 1)), (h17, .inr (7, mX7 h18 h19 h20 h21 h22 h23 h24 v17)), (h18, zi k18 40 f18), (h19, zi k19 40 f19), (h20, zi k20 40 f20), (h23, zi k23 160 f23), (h1, .inr (10, mX10 h2 h3 h4 h5 h6 h7 v1)), (h25, .inl (k25, 400, .inr (.inr (.inr (.inr (q35_ 0)))))), (h3, zi k3 400 f3), (h8, .inr (6, mX6 h9 h10 h11 h12 h13 h14 h15 h16 v8)), (h14, zi k14 400 f14), (h12, zi k12 400 f12)] ++ pl35) H := hP
          have hD9 : va_D A ([(h0, .inr (3, mX3 h1 h8 h17 h25 h26 h27 h28 h29 (upd v0 8 (u35_ 1)))), (h26, zi k26 400 (a35_ 0)), (h27, zi k27 400 (a35_ 1)), (h17, .inr (7, mX7 h18 h19 h20 h21 h22 h23 h24 v17)), (h18, zi k18 40 f18), (h19, zi k19 40 f19), (h20, zi k20 40 f20), (h23, zi k23 160 f23), (h1, .inr (10, mX10 h2 h3 h4 h5 h6 h7 v1)), (h25, .inl (k25, 400, .inr (.inr (.inr (.inr (q35_ 0)))))), (h3, zi k3 400 f3), (h8, .inr (6, mX6 h9 h10 h11 h12 h13 h14 h15 h16 v8)), (h14, zi k14 400 f14), (h12, zi k12 400 f12)] ++ pl35) := hD
          have hB0 : zRd h8 (q35_ 0) pl35 := by assumption
          have hB1 : zKp h8 pl0 pl35 := by first | assumption | exact zKp_rf
          exact W.vret hx hb hr (fun t ht hW => ⟨⟨(fun i => ([(u35_ 1)] : List (Int32)).getD i 0), rfl, hpost, (fun _ => 0), (fun i => ([(a35_ 0), (a35_ 1)] : List (Nat → Int32)).getD i (fun _ => 0)), (fun _ => (fun _ => 0)), (fun i => ([(q35_ 0)] : List (Nat → Option Nat)).getD i (fun _ => none)), pl35, ha35_0, hB0, hB1, by rw [ht]; exact hP9, va_K.moved hW.alike hK, hD9⟩, hS.F ht⟩) hS.2.2 dX3_open_114
        · skip
          have b_ := zF_ge rfl rfl c_
          refine lv_aload_n hx hb dX3_open_46 rfl (lv_at hl 0 rfl) ?_
          refine va_get (D := (dC, dI)) (ci := 3) (v := .ref h17) (C := RX3) (T := TX3) (N := 10) hx hb hG zuX3 hown hK hP 0 rfl rfl 2 (by decide) (hG _ zv475) (fun _ h9 => h9) rfl dX3_open_47 ?_
          refine lv_iload_n hx hb dX3_open_50 rfl (lv_at hl 1 rfl) ?_
          have hPc := hP.sub (ws' := [(h17, .inr (7, mX7 h18 h19 h20 h21 h22 h23 h24 v17)), (h18, zi k18 40 f18)]) [3, 4] rfl
          have hDc := hD.sub (ws' := [(h17, .inr (7, mX7 h18 h19 h20 h21 h22 h23 h24 v17)), (h18, zi k18 40 f18)]) [3, 4] (by decide) rfl
          have hKc := hK.sub (tys' := [(k18, .int)]) [2] rfl
          have hFc := va_free (wc := [(h17, .inr (7, mX7 h18 h19 h20 h21 h22 h23 h24 v17)), (h18, zi k18 40 f18)]) hD hS hA [3, 4] rfl
          refine va_calli (va_runV (As := [.int (u35_ 0)]) (rest := []) ⟨hx, hb, hml, hown, hG⟩ (sX7_kindOf_0 l dC dI adK adV h17 h18 h19 h20 h21 h22 h23 h24 k18 H.size v17 f18 (u35_ 0) hv17) (cwV 1 hG (zgV zv1184 zv1185 zv1186 zv136 zv1187) rfl rfl rfl (by decide +kernel) ⟨Nat.le_of_ble_eq_true rfl, Nat.le_of_ble_eq_true rfl⟩) ⟨zPc_blind, va_recv hKc hPc (ci := 7) (q0 := 0) rfl rfl, zPc_pre hPc hKc hDc hE hS hFc hZ⟩ rfl rfl hl.1 rfl (lv_room (Nat.le_of_ble_eq_true rfl)) dX3_open_51 ⟨(show (0 + 1 * ((u35_ 1).toInt).toNat) + 0 ≤ 400 from by omega), (show (0 + 9 * ((u35_ 1).toInt).toNat) + 0 ≤ 3600 from by omega)⟩) hS (fun q _ h => hFc q h) hFc (fun r51_ u51_ t H1 locs ht hvm hw hB hz1 hk1 hS => ?_)
          obtain ⟨w51_, a51_, b51_, hP1, hK1, hD1⟩ := hB
          rw [ht] at hP1
          obtain ⟨hP, hD⟩ := va_joinQ (wr := [(h0, .inr (3, mX3 h1 h8 h17 h25 h26 h27 h28 h29 (upd v0 8 (u35_ 1)))), (h26, zi k26 400 (a35_ 0)), (h27, zi k27 400 (a35_ 1)), (h19, zi k19 40 f19), (h20, zi k20 40 f20), (h23, zi k23 160 f23), (h1, .inr (10, mX10 h2 h3 h4 h5 h6 h7 v1)), (h25, .inl (k25, 400, .inr (.inr (.inr (.inr (q35_ 0)))))), (h3, zi k3 400 f3), (h8, .inr (6, mX6 h9 h10 h11 h12 h13 h14 h15 h16 v8)), (h14, zi k14 400 f14), (h12, zi k12 400 f12)]) (w1 := [(h17, .inr (7, mX7 h18 h19 h20 h21 h22 h23 h24 v17)), (h18, zi k18 40 f18)]) hP hD [3, 4] [0, 1, 2, 5, 6, 7, 8, 9, 10, 11, 12, 13] rfl rfl (by decide) (by decide) hk1 hFc hP1 hD1
          have hP : va_P (dC, dI) vwCl ([(h0, .inr (3, mX3 h1 h8 h17 h25 h26 h27 h28 h29 (upd v0 8 (u35_ 1)))), (h26, zi k26 400 (a35_ 0)), (h27, zi k27 400 (a35_ 1)), (h17, .inr (7, mX7 h18 h19 h20 h21 h22 h23 h24 v17)), (h18, zi k18 40 f18), (h19, zi k19 40 f19), (h20, zi k20 40 f20), (h23, zi k23 160 f23), (h1, .inr (10, mX10 h2 h3 h4 h5 h6 h7 v1)), (h25, .inl (k25, 400, .inr (.inr (.inr (.inr (q35_ 0)))))), (h3, zi k3 400 f3), (h8, .inr (6, mX6 h9 h10 h11 h12 h13 h14 h15 h16 v8)), (h14, zi k14 400 f14), (h12, zi k12 400 f12)] ++ pl35) H1 := hP.part [0, 1, 2, 12, 13, 3, 4, 5, 6, 7, 8, 9, 10, 11] rfl
          have hD : va_D A ([(h0, .inr (3, mX3 h1 h8 h17 h25 h26 h27 h28 h29 (upd v0 8 (u35_ 1)))), (h26, zi k26 400 (a35_ 0)), (h27, zi k27 400 (a35_ 1)), (h17, .inr (7, mX7 h18 h19 h20 h21 h22 h23 h24 v17)), (h18, zi k18 40 f18), (h19, zi k19 40 f19), (h20, zi k20 40 f20), (h23, zi k23 160 f23), (h1, .inr (10, mX10 h2 h3 h4 h5 h6 h7 v1)), (h25, .inl (k25, 400, .inr (.inr (.inr (.inr (q35_ 0)))))), (h3, zi k3 400 f3), (h8, .inr (6, mX6 h9 h10 h11 h12 h13 h14 h15 h16 v8)), (h14, zi k14 400 f14), (h12, zi k12 400 f12)] ++ pl35) := hD.part [0, 1, 2, 12, 13, 3, 4, 5, 6, 7, 8, 9, 10, 11] (by decide) rfl
          generalize H1 = H at hP hS ⊢
          clear hz1
          refine lv_istore_n (lv' := [(2, .int r51_), (0, .ref h0), (1, .int (u35_ 0))]) hx hb dX3_open_54 rfl hl (by decide) rfl (fun ls hl => ?_)
          refine lv_aload_n hx hb dX3_open_55 rfl (lv_at hl 1 rfl) ?_
          refine va_get (D := (dC, dI)) (ci := 3) (v := .ref h17) (C := RX3) (T := TX3) (N := 10) hx hb hG zuX3 hown hK hP 0 rfl rfl 2 (by decide) (hG _ zv475) (fun _ h9 => h9) rfl dX3_open_56 ?_
          refine lv_iload_n hx hb dX3_open_59 rfl (lv_at hl 2 rfl) ?_
          have hPc := hP.sub (ws' := [(h17, .inr (7, mX7 h18 h19 h20 h21 h22 h23 h24 v17)), (h19, zi k19 40 f19)]) [3, 5] rfl
          have hDc := hD.sub (ws' := [(h17, .inr (7, mX7 h18 h19 h20 h21 h22 h23 h24 v17)), (h19, zi k19 40 f19)]) [3, 5] (by decide) rfl
          have hKc := hK.sub (tys' := [(k19, .int)]) [3] rfl
          have hFc := va_free (wc := [(h17, .inr (7, mX7 h18 h19 h20 h21 h22 h23 h24 v17)), (h19, zi k19 40 f19)]) hD hS hA [3, 5] rfl
          refine va_calli (va_runV (As := [.int (u35_ 0)]) (rest := []) ⟨hx, hb, hml, hown, hG⟩ (sX7_lowOf_0 l dC dI adK adV h17 h19 h18 h20 h21 h22 h23 h24 k19 H.size v17 f19 (u35_ 0) hv17) (cwV 1 hG (zgV zv1191 zv1192 zv1193 zv136 zv1194) rfl rfl rfl (by decide +kernel) ⟨Nat.le_of_ble_eq_true rfl, Nat.le_of_ble_eq_true rfl⟩) ⟨zPc_blind, va_recv hKc hPc (ci := 7) (q0 := 0) rfl rfl, zPc_pre hPc hKc hDc hE hS hFc hZ⟩ rfl rfl hl.1 rfl (lv_room (Nat.le_of_ble_eq_true rfl)) dX3_open_60 ⟨(show (0 + 1 * ((u35_ 1).toInt).toNat) + 0 ≤ 400 from by omega), (show (0 + 9 * ((u35_ 1).toInt).toNat) + 0 ≤ 3600 from by omega)⟩) hS (fun q _ h => hFc q h) hFc (fun r60_ u60_ t H1 locs ht hvm hw hB hz1 hk1 hS => ?_)
          obtain ⟨w60_, a60_, b60_, hP1, hK1, hD1⟩ := hB
          rw [ht] at hP1
          obtain ⟨hP, hD⟩ := va_joinQ (wr := [(h0, .inr (3, mX3 h1 h8 h17 h25 h26 h27 h28 h29 (upd v0 8 (u35_ 1)))), (h26, zi k26 400 (a35_ 0)), (h27, zi k27 400 (a35_ 1)), (h18, zi k18 40 f18), (h20, zi k20 40 f20), (h23, zi k23 160 f23), (h1, .inr (10, mX10 h2 h3 h4 h5 h6 h7 v1)), (h25, .inl (k25, 400, .inr (.inr (.inr (.inr (q35_ 0)))))), (h3, zi k3 400 f3), (h8, .inr (6, mX6 h9 h10 h11 h12 h13 h14 h15 h16 v8)), (h14, zi k14 400 f14), (h12, zi k12 400 f12)]) (w1 := [(h17, .inr (7, mX7 h18 h19 h20 h21 h22 h23 h24 v17)), (h19, zi k19 40 f19)]) hP hD [3, 5] [0, 1, 2, 4, 6, 7, 8, 9, 10, 11, 12, 13] rfl rfl (by decide) (by decide) hk1 hFc hP1 hD1
          have hP : va_P (dC, dI) vwCl ([(h0, .inr (3, mX3 h1 h8 h17 h25 h26 h27 h28 h29 (upd v0 8 (u35_ 1)))), (h26, zi k26 400 (a35_ 0)), (h27, zi k27 400 (a35_ 1)), (h17, .inr (7, mX7 h18 h19 h20 h21 h22 h23 h24 v17)), (h18, zi k18 40 f18), (h19, zi k19 40 f19), (h20, zi k20 40 f20), (h23, zi k23 160 f23), (h1, .inr (10, mX10 h2 h3 h4 h5 h6 h7 v1)), (h25, .inl (k25, 400, .inr (.inr (.inr (.inr (q35_ 0)))))), (h3, zi k3 400 f3), (h8, .inr (6, mX6 h9 h10 h11 h12 h13 h14 h15 h16 v8)), (h14, zi k14 400 f14), (h12, zi k12 400 f12)] ++ pl35) H1 := hP.part [0, 1, 2, 12, 3, 13, 4, 5, 6, 7, 8, 9, 10, 11] rfl
          have hD : va_D A ([(h0, .inr (3, mX3 h1 h8 h17 h25 h26 h27 h28 h29 (upd v0 8 (u35_ 1)))), (h26, zi k26 400 (a35_ 0)), (h27, zi k27 400 (a35_ 1)), (h17, .inr (7, mX7 h18 h19 h20 h21 h22 h23 h24 v17)), (h18, zi k18 40 f18), (h19, zi k19 40 f19), (h20, zi k20 40 f20), (h23, zi k23 160 f23), (h1, .inr (10, mX10 h2 h3 h4 h5 h6 h7 v1)), (h25, .inl (k25, 400, .inr (.inr (.inr (.inr (q35_ 0)))))), (h3, zi k3 400 f3), (h8, .inr (6, mX6 h9 h10 h11 h12 h13 h14 h15 h16 v8)), (h14, zi k14 400 f14), (h12, zi k12 400 f12)] ++ pl35) := hD.part [0, 1, 2, 12, 3, 13, 4, 5, 6, 7, 8, 9, 10, 11] (by decide) rfl
          generalize H1 = H at hP hS ⊢
          clear hz1
          refine lv_istore_n (lv' := [(3, .int r60_), (2, .int r51_), (0, .ref h0), (1, .int (u35_ 0))]) hx hb dX3_open_63 rfl hl (by decide) rfl (fun ls hl => ?_)
          refine zcutLk (fun u64_ => (2147483647 - (u64_ 0).toInt).toNat) (fun H locs ls u64_ w64_ a64_ b64_ => ∃ (q64_ : Nat → Nat → Option Nat) (pl64 : va_W), va_P (dC, dI) vwCl ([(h0, .inr (3, mX3 h1 h8 h17 h25 h26 h27 h28 h29 (upd v0 8 (u64_ 1)))), (h26, zi k26 400 (a64_ 0)), (h27, zi k27 400 (a64_ 1)), (h17, .inr (7, mX7 h18 h19 h20 h21 h22 h23 h24 v17)), (h18, zi k18 40 f18), (h19, zi k19 40 f19), (h20, zi k20 40 f20), (h23, zi k23 160 f23), (h1, .inr (10, mX10 h2 h3 h4 h5 h6 h7 v1)), (h25, .inl (k25, 400, .inr (.inr (.inr (.inr (q64_ 0)))))), (h3, zi k3 400 f3), (h8, .inr (6, mX6 h9 h10 h11 h12 h13 h14 h15 h16 v8)), (h14, zi k14 400 f14), (h12, zi k12 400 f12)] ++ pl64) H ∧ va_D A ([(h0, .inr (3, mX3 h1 h8 h17 h25 h26 h27 h28 h29 (upd v0 8 (u64_ 1)))), (h26, zi k26 400 (a64_ 0)), (h27, zi k27 400 (a64_ 1)), (h17, .inr (7, mX7 h18 h19 h20 h21 h22 h23 h24 v17)), (h18, zi k18 40 f18), (h19, zi k19 40 f19), (h20, zi k20 40 f20), (h23, zi k23 160 f23), (h1, .inr (10, mX10 h2 h3 h4 h5 h6 h7 v1)), (h25, .inl (k25, 400, .inr (.inr (.inr (.inr (q64_ 0)))))), (h3, zi k3 400 f3), (h8, .inr (6, mX6 h9 h10 h11 h12 h13 h14 h15 h16 v8)), (h14, zi k14 400 f14), (h12, zi k12 400 f12)] ++ pl64) ∧ va_S A s.heap H locs ∧ lv_has ls 4 [(0, .ref h0), (1, .int (u35_ 0)), (2, .int r51_), (3, .int (u64_ 0))] ∧ zA 0 399 (a64_ 0) ∧ (0 ≤ (u64_ 1).toInt ∧ (u64_ 1).toInt ≤ 400) ∧ (zRd h8 (q64_ 0) pl64) ∧ (zKp h8 pl0 pl64)) (fun ls u64_ w64_ => F0 m 64 ls []) (fun u64_ => (0 + 1 * ((u64_ 1).toInt).toNat)) (fun u64_ => (0 + 9 * ((u64_ 1).toInt).toNat)) ?_ (fun hJ64 => ?_)
          · skip
            intro H locs ls u64_ w64_ a64_ b64_ hc hJ64
            obtain ⟨q64_, pl64, hP, hD, hS, hl, ha64_0, b_, hI64_0, hI64_1⟩ := hc
            refine lv_iload_n hx hb dX3_open_64 rfl (lv_at hl 2 rfl) ?_
            refine lv_iconst (v := 4) hx hb dX3_open_65 (by decide) ?_
            have b_ : -2147483648 ≤ r51_.toInt ∧ r51_.toInt ≤ 2147483647 := ⟨zlo _, zhi _⟩
            refine lv_icmp_eq (tgt := 108) hx hb dX3_open_66 (by decide) (fun c_ => ?_) (fun c_ => ?_)
            · skip
              have b_ := zT_eq rfl zk_4 c_
              obtain ⟨z108, e_z108⟩ : ∃ z : Int32, z = (u35_ 0) + Int32.ofInt 1 := ⟨_, rfl⟩
              have b_ := zadd (x := (u35_ 0)) (y := Int32.ofInt 1) rfl (show (Int32.ofInt 1).toInt = 1 from by decide) e_z108 (by omega) (by omega)
              refine lv_iinc (v := z108) (lv' := [(1, .int z108), (0, .ref h0), (2, .int r51_), (3, .int (u64_ 0))]) hx hb dX3_open_108 hl (k := 1) rfl e_z108.symm (by decide) rfl (fun ls hl => ?_)
              refine lv_goto (tgt := 35) hx hb dX3_open_111 (by decide) ?_
              have hc : va_P (dC, dI) vwCl ([(h0, .inr (3, mX3 h1 h8 h17 h25 h26 h27 h28 h29 (upd v0 8 (u64_ 1)))), (h26, zi k26 400 (a64_ 0)), (h27, zi k27 400 (a64_ 1)), (h17, .inr (7, mX7 h18 h19 h20 h21 h22 h23 h24 v17)), (h18, zi k18 40 f18), (h19, zi k19 40 f19), (h20, zi k20 40 f20), (h23, zi k23 160 f23), (h1, .inr (10, mX10 h2 h3 h4 h5 h6 h7 v1)), (h25, .inl (k25, 400, .inr (.inr (.inr (.inr (q64_ 0)))))), (h3, zi k3 400 f3), (h8, .inr (6, mX6 h9 h10 h11 h12 h13 h14 h15 h16 v8)), (h14, zi k14 400 f14), (h12, zi k12 400 f12)] ++ pl64) H ∧ va_D A ([(h0, .inr (3, mX3 h1 h8 h17 h25 h26 h27 h28 h29 (upd v0 8 (u64_ 1)))), (h26, zi k26 400 (a64_ 0)), (h27, zi k27 400 (a64_ 1)), (h17, .inr (7, mX7 h18 h19 h20 h21 h22 h23 h24 v17)), (h18, zi k18 40 f18), (h19, zi k19 40 f19), (h20, zi k20 40 f20), (h23, zi k23 160 f23), (h1, .inr (10, mX10 h2 h3 h4 h5 h6 h7 v1)), (h25, .inl (k25, 400, .inr (.inr (.inr (.inr (q64_ 0)))))), (h3, zi k3 400 f3), (h8, .inr (6, mX6 h9 h10 h11 h12 h13 h14 h15 h16 v8)), (h14, zi k14 400 f14), (h12, zi k12 400 f12)] ++ pl64) ∧ va_S A s.heap H locs ∧ lv_has ls 4 [(0, .ref h0), (1, .int z108)] ∧ zA 0 399 (a64_ 0) ∧ (0 ≤ z108.toInt ∧ z108.toInt ≤ 40) ∧ (0 ≤ (u64_ 1).toInt ∧ (u64_ 1).toInt ≤ 400) ∧ (zRd h8 (q64_ 0) pl64) ∧ (zKp h8 pl0 pl64) := ⟨hP, hD, hS, lv_sub hl [1, 0] rfl, ha64_0, ⟨by omega, by omega⟩, ⟨by omega, by omega⟩, by assumption, by first | assumption | exact zKp_rf⟩
              exact hJ35 H locs ls (fun i => ([z108, (u64_ 1)] : List (Int32)).getD i 0) (fun _ => 0) (fun i => ([(a64_ 0), (a64_ 1)] : List (Nat → Int32)).getD i (fun _ => 0)) (fun _ => (fun _ => 0)) ⟨(fun i => ([(q64_ 0)] : List (Nat → Option Nat)).getD i (fun _ => none)), pl64, hc⟩ (show (40 - z108.toInt).toNat < (40 - (u35_ 0).toInt).toNat from by omega)
            · skip
              have b_ := zF_eq rfl zk_4 c_
              refine lv_iload_n hx hb dX3_open_69 rfl (lv_at hl 3 rfl) ?_
              refine lv_aload_n hx hb dX3_open_70 rfl (lv_at hl 0 rfl) ?_
              refine va_get (D := (dC, dI)) (ci := 3) (v := .ref h17) (C := RX3) (T := TX3) (N := 10) hx hb hG zuX3 hown hK hP 0 rfl rfl 2 (by decide) (hG _ zv475) (fun _ h9 => h9) rfl dX3_open_71 ?_
              refine lv_iload_n hx hb dX3_open_74 rfl (lv_at hl 1 rfl) ?_
              have hPc := hP.sub (ws' := [(h17, .inr (7, mX7 h18 h19 h20 h21 h22 h23 h24 v17)), (h20, zi k20 40 f20)]) [3, 6] rfl
              have hDc := hD.sub (ws' := [(h17, .inr (7, mX7 h18 h19 h20 h21 h22 h23 h24 v17)), (h20, zi k20 40 f20)]) [3, 6] (by decide) rfl
              have hKc := hK.sub (tys' := [(k20, .int)]) [4] rfl
              have hFc := va_free (wc := [(h17, .inr (7, mX7 h18 h19 h20 h21 h22 h23 h24 v17)), (h20, zi k20 40 f20)]) hD hS hA [3, 6] rfl
              refine va_calli (va_runV (As := [.int (u35_ 0)]) (rest := [.int (u64_ 0)]) ⟨hx, hb, hml, hown, hG⟩ (sX7_highOf_0 l dC dI adK adV h17 h20 h18 h19 h21 h22 h23 h24 k20 H.size v17 f20 (u35_ 0) hv17) (cwV 1 hG (zgV zv1195 zv1196 zv1197 zv136 zv1198) rfl rfl rfl (by decide +kernel) ⟨Nat.le_of_ble_eq_true rfl, Nat.le_of_ble_eq_true rfl⟩) ⟨zPc_blind, va_recv hKc hPc (ci := 7) (q0 := 0) rfl rfl, zPc_pre hPc hKc hDc hE hS hFc hZ⟩ rfl rfl hl.1 rfl (lv_room (Nat.le_of_ble_eq_true rfl)) dX3_open_75 ⟨(show (0 + 1 * ((u64_ 1).toInt).toNat) + 0 ≤ 400 from by omega), (show (0 + 9 * ((u64_ 1).toInt).toNat) + 0 ≤ 3600 from by omega)⟩) hS (fun q _ h => hFc q h) hFc (fun r75_ u75_ t H1 locs ht hvm hw hB hz1 hk1 hS => ?_)
              obtain ⟨w75_, a75_, b75_, hP1, hK1, hD1⟩ := hB
              rw [ht] at hP1
              obtain ⟨hP, hD⟩ := va_joinQ (wr := [(h0, .inr (3, mX3 h1 h8 h17 h25 h26 h27 h28 h29 (upd v0 8 (u64_ 1)))), (h26, zi k26 400 (a64_ 0)), (h27, zi k27 400 (a64_ 1)), (h18, zi k18 40 f18), (h19, zi k19 40 f19), (h23, zi k23 160 f23), (h1, .inr (10, mX10 h2 h3 h4 h5 h6 h7 v1)), (h25, .inl (k25, 400, .inr (.inr (.inr (.inr (q64_ 0)))))), (h3, zi k3 400 f3), (h8, .inr (6, mX6 h9 h10 h11 h12 h13 h14 h15 h16 v8)), (h14, zi k14 400 f14), (h12, zi k12 400 f12)]) (w1 := [(h17, .inr (7, mX7 h18 h19 h20 h21 h22 h23 h24 v17)), (h20, zi k20 40 f20)]) hP hD [3, 6] [0, 1, 2, 4, 5, 7, 8, 9, 10, 11, 12, 13] rfl rfl (by decide) (by decide) hk1 hFc hP1 hD1
              have hP : va_P (dC, dI) vwCl ([(h0, .inr (3, mX3 h1 h8 h17 h25 h26 h27 h28 h29 (upd v0 8 (u64_ 1)))), (h26, zi k26 400 (a64_ 0)), (h27, zi k27 400 (a64_ 1)), (h17, .inr (7, mX7 h18 h19 h20 h21 h22 h23 h24 v17)), (h18, zi k18 40 f18), (h19, zi k19 40 f19), (h20, zi k20 40 f20), (h23, zi k23 160 f23), (h1, .inr (10, mX10 h2 h3 h4 h5 h6 h7 v1)), (h25, .inl (k25, 400, .inr (.inr (.inr (.inr (q64_ 0)))))), (h3, zi k3 400 f3), (h8, .inr (6, mX6 h9 h10 h11 h12 h13 h14 h15 h16 v8)), (h14, zi k14 400 f14), (h12, zi k12 400 f12)] ++ pl64) H1 := hP.part [0, 1, 2, 12, 3, 4, 13, 5, 6, 7, 8, 9, 10, 11] rfl
              have hD : va_D A ([(h0, .inr (3, mX3 h1 h8 h17 h25 h26 h27 h28 h29 (upd v0 8 (u64_ 1)))), (h26, zi k26 400 (a64_ 0)), (h27, zi k27 400 (a64_ 1)), (h17, .inr (7, mX7 h18 h19 h20 h21 h22 h23 h24 v17)), (h18, zi k18 40 f18), (h19, zi k19 40 f19), (h20, zi k20 40 f20), (h23, zi k23 160 f23), (h1, .inr (10, mX10 h2 h3 h4 h5 h6 h7 v1)), (h25, .inl (k25, 400, .inr (.inr (.inr (.inr (q64_ 0)))))), (h3, zi k3 400 f3), (h8, .inr (6, mX6 h9 h10 h11 h12 h13 h14 h15 h16 v8)), (h14, zi k14 400 f14), (h12, zi k12 400 f12)] ++ pl64) := hD.part [0, 1, 2, 12, 3, 4, 13, 5, 6, 7, 8, 9, 10, 11] (by decide) rfl
              generalize H1 = H at hP hS ⊢
              clear hz1
              have b_ : -2147483648 ≤ (u64_ 0).toInt ∧ (u64_ 0).toInt ≤ 2147483647 := ⟨zlo _, zhi _⟩
              have b_ : -2147483648 ≤ r75_.toInt ∧ r75_.toInt ≤ 2147483647 := ⟨zlo _, zhi _⟩
              refine lv_icmp_ge (tgt := 108) hx hb dX3_open_78 (by decide) (fun c_ => ?_) (fun c_ => ?_)
              · skip
                have b_ := zT_ge rfl rfl c_
                obtain ⟨z108, e_z108⟩ : ∃ z : Int32, z = (u35_ 0) + Int32.ofInt 1 := ⟨_, rfl⟩
                have b_ := zadd (x := (u35_ 0)) (y := Int32.ofInt 1) rfl (show (Int32.ofInt 1).toInt = 1 from by decide) e_z108 (by omega) (by omega)
                refine lv_iinc (v := z108) (lv' := [(1, .int z108), (0, .ref h0), (2, .int r51_), (3, .int (u64_ 0))]) hx hb dX3_open_108 hl (k := 1) rfl e_z108.symm (by decide) rfl (fun ls hl => ?_)
                refine lv_goto (tgt := 35) hx hb dX3_open_111 (by decide) ?_
                have hc : va_P (dC, dI) vwCl ([(h0, .inr (3, mX3 h1 h8 h17 h25 h26 h27 h28 h29 (upd v0 8 (u64_ 1)))), (h26, zi k26 400 (a64_ 0)), (h27, zi k27 400 (a64_ 1)), (h17, .inr (7, mX7 h18 h19 h20 h21 h22 h23 h24 v17)), (h18, zi k18 40 f18), (h19, zi k19 40 f19), (h20, zi k20 40 f20), (h23, zi k23 160 f23), (h1, .inr (10, mX10 h2 h3 h4 h5 h6 h7 v1)), (h25, .inl (k25, 400, .inr (.inr (.inr (.inr (q64_ 0)))))), (h3, zi k3 400 f3), (h8, .inr (6, mX6 h9 h10 h11 h12 h13 h14 h15 h16 v8)), (h14, zi k14 400 f14), (h12, zi k12 400 f12)] ++ pl64) H ∧ va_D A ([(h0, .inr (3, mX3 h1 h8 h17 h25 h26 h27 h28 h29 (upd v0 8 (u64_ 1)))), (h26, zi k26 400 (a64_ 0)), (h27, zi k27 400 (a64_ 1)), (h17, .inr (7, mX7 h18 h19 h20 h21 h22 h23 h24 v17)), (h18, zi k18 40 f18), (h19, zi k19 40 f19), (h20, zi k20 40 f20), (h23, zi k23 160 f23), (h1, .inr (10, mX10 h2 h3 h4 h5 h6 h7 v1)), (h25, .inl (k25, 400, .inr (.inr (.inr (.inr (q64_ 0)))))), (h3, zi k3 400 f3), (h8, .inr (6, mX6 h9 h10 h11 h12 h13 h14 h15 h16 v8)), (h14, zi k14 400 f14), (h12, zi k12 400 f12)] ++ pl64) ∧ va_S A s.heap H locs ∧ lv_has ls 4 [(0, .ref h0), (1, .int z108)] ∧ zA 0 399 (a64_ 0) ∧ (0 ≤ z108.toInt ∧ z108.toInt ≤ 40) ∧ (0 ≤ (u64_ 1).toInt ∧ (u64_ 1).toInt ≤ 400) ∧ (zRd h8 (q64_ 0) pl64) ∧ (zKp h8 pl0 pl64) := ⟨hP, hD, hS, lv_sub hl [1, 0] rfl, ha64_0, ⟨by omega, by omega⟩, ⟨by omega, by omega⟩, by assumption, by first | assumption | exact zKp_rf⟩
                exact hJ35 H locs ls (fun i => ([z108, (u64_ 1)] : List (Int32)).getD i 0) (fun _ => 0) (fun i => ([(a64_ 0), (a64_ 1)] : List (Nat → Int32)).getD i (fun _ => 0)) (fun _ => (fun _ => 0)) ⟨(fun i => ([(q64_ 0)] : List (Nat → Option Nat)).getD i (fun _ => none)), pl64, hc⟩ (show (40 - z108.toInt).toNat < (40 - (u35_ 0).toInt).toNat from by omega)
              · skip
                have b_ := zF_ge rfl rfl c_
                refine lv_aload_n hx hb dX3_open_81 rfl (lv_at hl 0 rfl) ?_
                refine lv_iload_n hx hb dX3_open_82 rfl (lv_at hl 2 rfl) ?_
                refine lv_iconst (v := 3) hx hb dX3_open_83 (by decide) ?_
                refine zcutWk (fun H locs ls u99_ w99_ a99_ b99_ => ∃ (q99_ : Nat → Nat → Option Nat) (pl99 : va_W), va_P (dC, dI) vwCl ([(h0, .inr (3, mX3 h1 h8 h17 h25 h26 h27 h28 h29 (upd v0 8 (u64_ 1)))), (h26, zi k26 400 (a64_ 0)), (h27, zi k27 400 (a64_ 1)), (h17, .inr (7, mX7 h18 h19 h20 h21 h22 h23 h24 v17)), (h18, zi k18 40 f18), (h19, zi k19 40 f19), (h20, zi k20 40 f20), (h23, zi k23 160 f23), (h1, .inr (10, mX10 h2 h3 h4 h5 h6 h7 v1)), (h25, .inl (k25, 400, .inr (.inr (.inr (.inr (q64_ 0)))))), (h3, zi k3 400 f3), (h8, .inr (6, mX6 h9 h10 h11 h12 h13 h14 h15 h16 v8)), (h14, zi k14 400 f14), (h12, zi k12 400 f12)] ++ pl99) H ∧ va_D A ([(h0, .inr (3, mX3 h1 h8 h17 h25 h26 h27 h28 h29 (upd v0 8 (u64_ 1)))), (h26, zi k26 400 (a64_ 0)), (h27, zi k27 400 (a64_ 1)), (h17, .inr (7, mX7 h18 h19 h20 h21 h22 h23 h24 v17)), (h18, zi k18 40 f18), (h19, zi k19 40 f19), (h20, zi k20 40 f20), (h23, zi k23 160 f23), (h1, .inr (10, mX10 h2 h3 h4 h5 h6 h7 v1)), (h25, .inl (k25, 400, .inr (.inr (.inr (.inr (q64_ 0)))))), (h3, zi k3 400 f3), (h8, .inr (6, mX6 h9 h10 h11 h12 h13 h14 h15 h16 v8)), (h14, zi k14 400 f14), (h12, zi k12 400 f12)] ++ pl99) ∧ va_S A s.heap H locs ∧ lv_has ls 4 [(0, .ref h0), (1, .int (u35_ 0)), (2, .int r51_), (3, .int (u64_ 0))] ∧ (zRd h8 (q64_ 0) pl99) ∧ (zKp h8 pl0 pl99)) (fun ls u99_ w99_ => F0 m 99 ls [.int (u99_ 0), .ref h0]) (fun u99_ => (0 + 1 * ((u64_ 1).toInt).toNat)) (fun u99_ => (0 + 9 * ((u64_ 1).toInt).toNat)) ?_ (fun hJ99 => ?_)
                · skip
                  intro H locs ls u99_ w99_ a99_ b99_ hc
                  obtain ⟨q99_, pl99, hP, hD, hS, hl, hI99_0, hI99_1⟩ := hc
                  rcases Classical.em ((u99_ 0).toInt < 0 ∨ (v1 7).toInt ≤ (u99_ 0).toInt ∨ ((a64_ 1) ((u99_ 0) : Int32).toNatClampNeg).toInt ≠ 0 ∨ 400 ≤ (u64_ 1).toInt ∨ (q64_ 0) (((u64_ 1) : Int32)).toNatClampNeg ≠ none) with hC99 | hC99
                  · skip
                    have hPc := hP.part (cx := [(h0, .inr (3, mX3 h1 h8 h17 h25 h26 h27 h28 h29 (upd v0 8 (u64_ 1)))), (h1, .inr (10, mX10 h2 h3 h4 h5 h6 h7 v1)), (h27, zi k27 400 (a64_ 1)), (h25, .inl (k25, 400, .inr (.inr (.inr (.inr (q64_ 0)))))), (h3, zi k3 400 f3), (h8, .inr (6, mX6 h9 h10 h11 h12 h13 h14 h15 h16 v8)), (h14, zi k14 400 f14), (h12, zi k12 400 f12), (h26, zi k26 400 (a64_ 0))]) [0, 8, 2, 9, 10, 11, 12, 13, 1] rfl
                    have hDc := hD.part (cx := [(h0, .inr (3, mX3 h1 h8 h17 h25 h26 h27 h28 h29 (upd v0 8 (u64_ 1)))), (h1, .inr (10, mX10 h2 h3 h4 h5 h6 h7 v1)), (h27, zi k27 400 (a64_ 1)), (h25, .inl (k25, 400, .inr (.inr (.inr (.inr (q64_ 0)))))), (h3, zi k3 400 f3), (h8, .inr (6, mX6 h9 h10 h11 h12 h13 h14 h15 h16 v8)), (h14, zi k14 400 f14), (h12, zi k12 400 f12), (h26, zi k26 400 (a64_ 0))]) [0, 8, 2, 9, 10, 11, 12, 13, 1] (by decide) rfl
                    have hKc := hK.sub (tys' := [(k27, .boolean), (k25, .object RX8), (k3, .int), (k14, .int), (k12, .int), (k26, .int)]) [1, 6, 7, 8, 9, 0] rfl
                    have hFc := va_freeP (cx := [(h0, .inr (3, mX3 h1 h8 h17 h25 h26 h27 h28 h29 (upd v0 8 (u64_ 1)))), (h1, .inr (10, mX10 h2 h3 h4 h5 h6 h7 v1)), (h27, zi k27 400 (a64_ 1)), (h25, .inl (k25, 400, .inr (.inr (.inr (.inr (q64_ 0)))))), (h3, zi k3 400 f3), (h8, .inr (6, mX6 h9 h10 h11 h12 h13 h14 h15 h16 v8)), (h14, zi k14 400 f14), (h12, zi k12 400 f12), (h26, zi k26 400 (a64_ 0))]) hD hS hA [0, 8, 2, 9, 10, 11, 12, 13, 1] rfl
                    refine va_callv (va_runV (As := [.int (u99_ 0)]) (rest := []) ⟨hx, hb, hml, hown, hG⟩ (sX3_want_0 l dC dI adK adV h0 h1 h27 h25 h3 h8 h14 h12 h26 h17 h28 h29 h2 h4 h5 h6 h7 h9 h10 h11 h13 h15 h16 k27 k25 k3 k14 k12 k26 pl99 H.size (upd v0 8 (u64_ 1)) v1 (a64_ 1) (q64_ 0) f3 v8 f14 f12 (a64_ 0) (u99_ 0) (zR_upd hv0 8 (show (0 : Int) ≤ ((u64_ 1) : Int32).toInt from by omega) (show ((u64_ 1) : Int32).toInt ≤ (400 : Int) from by omega)) hv1 hf3 hv8 ha64_0 (show zRd h8 (q64_ 0) pl99 from by assumption) (show (u99_ 0).toInt < 0 ∨ (v1 7).toInt ≤ (u99_ 0).toInt ∨ ((a64_ 1) (((u99_ 0) : Int32)).toNatClampNeg).toInt ≠ 0 ∨ 400 ≤ (u64_ 1).toInt ∨ (q64_ 0) (((u64_ 1) : Int32)).toNatClampNeg ≠ none from by omega)) (cwV 1 hG (zgV zv1203 zv1205 zv33 zv140 zv1206) rfl rfl rfl (by decide +kernel) ⟨Nat.le_of_ble_eq_true rfl, Nat.le_of_ble_eq_true rfl⟩) ⟨zPc_blind, va_recv hKc hPc (ci := 3) (q0 := 0) rfl rfl, zPc_pre hPc hKc hDc hE hS hFc hZ⟩ rfl rfl hl.1 rfl (lv_room (Nat.le_of_ble_eq_true rfl)) dX3_open_99 ⟨(show (0 + 1 * ((u64_ 1).toInt).toNat) + 0 ≤ 400 from by omega), (show (0 + 9 * ((u64_ 1).toInt).toNat) + 0 ≤ 3600 from by omega)⟩) hS (fun q _ h => hFc q h) hFc (fun u99_ t H1 locs ht hvm hw hB hz1 hk1 hS => ?_)
                    replace hw : (0 ≤ (u99_ 0).toInt ∧ (u99_ 0).toInt ≤ 400) ∧ ((u64_ 1).toInt ≤ (u99_ 0).toInt) ∧ ((u99_ 0).toInt ≤ (u64_ 1).toInt + 1) := hw
                    obtain ⟨b_, hX99_0, hX99_1⟩ := hw
                    obtain ⟨w99_, a99_, b99_, q99_, pl99_, ha99_1, hB99_0, hB99_1, hP1, hK1, hD1⟩ := hB
                    have hB99_0 : zRd h8 (q64_ 0) pl99_ := hB99_0
                    have hB99_1 : zKp h8 pl99 pl99_ := hB99_1
                    rw [ht] at hP1
                    obtain ⟨hP, hD⟩ := va_joinP (wr := [(h17, .inr (7, mX7 h18 h19 h20 h21 h22 h23 h24 v17)), (h18, zi k18 40 f18), (h19, zi k19 40 f19), (h20, zi k20 40 f20), (h23, zi k23 160 f23)]) (rx := [(h0, .inr (3, mX3 h1 h8 h17 h25 h26 h27 h28 h29 (upd v0 8 (u99_ 0)))), (h1, .inr (10, mX10 h2 h3 h4 h5 h6 h7 v1)), (h27, zi k27 400 (a99_ 0)), (h25, .inl (k25, 400, .inr (.inr (.inr (.inr (q64_ 0)))))), (h3, zi k3 400 f3), (h8, .inr (6, mX6 h9 h10 h11 h12 h13 h14 h15 h16 v8)), (h14, zi k14 400 f14), (h12, zi k12 400 f12), (h26, zi k26 400 (a99_ 1))]) hP hD [0, 8, 2, 9, 10, 11, 12, 13, 1] [3, 4, 5, 6, 7] rfl rfl (by decide) (by decide) hk1 hFc hP1 hD1
                    have hP : va_P (dC, dI) vwCl ([(h0, .inr (3, mX3 h1 h8 h17 h25 h26 h27 h28 h29 (upd v0 8 (u99_ 0)))), (h26, zi k26 400 (a99_ 1)), (h27, zi k27 400 (a99_ 0)), (h17, .inr (7, mX7 h18 h19 h20 h21 h22 h23 h24 v17)), (h18, zi k18 40 f18), (h19, zi k19 40 f19), (h20, zi k20 40 f20), (h23, zi k23 160 f23), (h1, .inr (10, mX10 h2 h3 h4 h5 h6 h7 v1)), (h25, .inl (k25, 400, .inr (.inr (.inr (.inr (q64_ 0)))))), (h3, zi k3 400 f3), (h8, .inr (6, mX6 h9 h10 h11 h12 h13 h14 h15 h16 v8)), (h14, zi k14 400 f14), (h12, zi k12 400 f12)] ++ pl99_) H1 := hP.part [5, 13, 7, 0, 1, 2, 3, 4, 6, 8, 9, 10, 11, 12] rfl
                    have hD : va_D A ([(h0, .inr (3, mX3 h1 h8 h17 h25 h26 h27 h28 h29 (upd v0 8 (u99_ 0)))), (h26, zi k26 400 (a99_ 1)), (h27, zi k27 400 (a99_ 0)), (h17, .inr (7, mX7 h18 h19 h20 h21 h22 h23 h24 v17)), (h18, zi k18 40 f18), (h19, zi k19 40 f19), (h20, zi k20 40 f20), (h23, zi k23 160 f23), (h1, .inr (10, mX10 h2 h3 h4 h5 h6 h7 v1)), (h25, .inl (k25, 400, .inr (.inr (.inr (.inr (q64_ 0)))))), (h3, zi k3 400 f3), (h8, .inr (6, mX6 h9 h10 h11 h12 h13 h14 h15 h16 v8)), (h14, zi k14 400 f14), (h12, zi k12 400 f12)] ++ pl99_) := hD.part [5, 13, 7, 0, 1, 2, 3, 4, 6, 8, 9, 10, 11, 12] (by decide) rfl
                    generalize H1 = H at hP hS ⊢
                    clear hz1
                    refine W.widen (k := (0 + 1 * ((u99_ 0).toInt).toNat)) (n := (0 + 9 * ((u99_ 0).toInt).toNat)) (by omega) (by omega) ?_
                    have hkp_ : zKp h8 pl0 pl99_ := zKp_tr (show zKp h8 pl0 pl99 from by first | assumption | exact zKp_rf) hB99_1
                    obtain ⟨z102, e_z102⟩ : ∃ z : Int32, z = (u64_ 0) + Int32.ofInt 1 := ⟨_, rfl⟩
                    have b_ := zadd (x := (u64_ 0)) (y := Int32.ofInt 1) rfl (show (Int32.ofInt 1).toInt = 1 from by decide) e_z102 (by omega) (by omega)
                    refine lv_iinc (v := z102) (lv' := [(3, .int z102), (0, .ref h0), (1, .int (u35_ 0)), (2, .int r51_)]) hx hb dX3_open_102 hl (k := 3) rfl e_z102.symm (by decide) rfl (fun ls hl => ?_)
                    refine lv_goto (tgt := 64) hx hb dX3_open_105 (by decide) ?_
                    have hc : va_P (dC, dI) vwCl ([(h0, .inr (3, mX3 h1 h8 h17 h25 h26 h27 h28 h29 (upd v0 8 (u99_ 0)))), (h26, zi k26 400 (a99_ 1)), (h27, zi k27 400 (a99_ 0)), (h17, .inr (7, mX7 h18 h19 h20 h21 h22 h23 h24 v17)), (h18, zi k18 40 f18), (h19, zi k19 40 f19), (h20, zi k20 40 f20), (h23, zi k23 160 f23), (h1, .inr (10, mX10 h2 h3 h4 h5 h6 h7 v1)), (h25, .inl (k25, 400, .inr (.inr (.inr (.inr (q64_ 0)))))), (h3, zi k3 400 f3), (h8, .inr (6, mX6 h9 h10 h11 h12 h13 h14 h15 h16 v8)), (h14, zi k14 400 f14), (h12, zi k12 400 f12)] ++ pl99_) H ∧ va_D A ([(h0, .inr (3, mX3 h1 h8 h17 h25 h26 h27 h28 h29 (upd v0 8 (u99_ 0)))), (h26, zi k26 400 (a99_ 1)), (h27, zi k27 400 (a99_ 0)), (h17, .inr (7, mX7 h18 h19 h20 h21 h22 h23 h24 v17)), (h18, zi k18 40 f18), (h19, zi k19 40 f19), (h20, zi k20 40 f20), (h23, zi k23 160 f23), (h1, .inr (10, mX10 h2 h3 h4 h5 h6 h7 v1)), (h25, .inl (k25, 400, .inr (.inr (.inr (.inr (q64_ 0)))))), (h3, zi k3 400 f3), (h8, .inr (6, mX6 h9 h10 h11 h12 h13 h14 h15 h16 v8)), (h14, zi k14 400 f14), (h12, zi k12 400 f12)] ++ pl99_) ∧ va_S A s.heap H locs ∧ lv_has ls 4 [(0, .ref h0), (1, .int (u35_ 0)), (2, .int r51_), (3, .int z102)] ∧ zA 0 399 (a99_ 1) ∧ (0 ≤ (u99_ 0).toInt ∧ (u99_ 0).toInt ≤ 400) ∧ (zRd h8 (q64_ 0) pl99_) ∧ (zKp h8 pl0 pl99_) := ⟨hP, hD, hS, lv_sub hl [1, 2, 3, 0] rfl, ha99_1, ⟨by omega, by omega⟩, by assumption, by first | assumption | exact zKp_rf⟩
                    exact hJ64 H locs ls (fun i => ([z102, (u99_ 0)] : List (Int32)).getD i 0) (fun _ => 0) (fun i => ([(a99_ 1), (a99_ 0)] : List (Nat → Int32)).getD i (fun _ => 0)) (fun _ => (fun _ => 0)) ⟨(fun i => ([(q64_ 0)] : List (Nat → Option Nat)).getD i (fun _ => none)), pl99_, hc⟩ (show (2147483647 - z102.toInt).toNat < (2147483647 - (u64_ 0).toInt).toNat from by omega)
                  · skip
                    have hNC : 0 ≤ (u99_ 0).toInt ∧ (u99_ 0).toInt < (v1 7).toInt ∧ ((a64_ 1) ((u99_ 0) : Int32).toNatClampNeg).toInt = 0 ∧ (u64_ 1).toInt ≤ 399 := ⟨Int.not_lt.mp (fun h => hC99 (Or.inl h)), Int.not_le.mp (fun h => hC99 (Or.inr (Or.inl h))), Classical.byContradiction (fun h => hC99 (Or.inr (Or.inr (Or.inl h)))), by have h4 := fun h => hC99 (Or.inr (Or.inr (Or.inr (Or.inl h)))); omega⟩
                    have hPc := hP.part (cx := [(h0, .inr (3, mX3 h1 h8 h17 h25 h26 h27 h28 h29 (upd v0 8 (u64_ 1)))), (h1, .inr (10, mX10 h2 h3 h4 h5 h6 h7 v1)), (h27, zi k27 400 (a64_ 1)), (h25, .inl (k25, 400, .inr (.inr (.inr (.inr (q64_ 0)))))), (h3, zi k3 400 f3), (h8, .inr (6, mX6 h9 h10 h11 h12 h13 h14 h15 h16 v8)), (h14, zi k14 400 f14), (h12, zi k12 400 f12), (h26, zi k26 400 (a64_ 0))]) [0, 8, 2, 9, 10, 11, 12, 13, 1] rfl
                    have hDc := hD.part (cx := [(h0, .inr (3, mX3 h1 h8 h17 h25 h26 h27 h28 h29 (upd v0 8 (u64_ 1)))), (h1, .inr (10, mX10 h2 h3 h4 h5 h6 h7 v1)), (h27, zi k27 400 (a64_ 1)), (h25, .inl (k25, 400, .inr (.inr (.inr (.inr (q64_ 0)))))), (h3, zi k3 400 f3), (h8, .inr (6, mX6 h9 h10 h11 h12 h13 h14 h15 h16 v8)), (h14, zi k14 400 f14), (h12, zi k12 400 f12), (h26, zi k26 400 (a64_ 0))]) [0, 8, 2, 9, 10, 11, 12, 13, 1] (by decide) rfl
                    have hKc := hK.sub (tys' := [(k27, .boolean), (k25, .object RX8), (k3, .int), (k14, .int), (k12, .int), (k26, .int)]) [1, 6, 7, 8, 9, 0] rfl
                    have hFc := va_freeP (cx := [(h0, .inr (3, mX3 h1 h8 h17 h25 h26 h27 h28 h29 (upd v0 8 (u64_ 1)))), (h1, .inr (10, mX10 h2 h3 h4 h5 h6 h7 v1)), (h27, zi k27 400 (a64_ 1)), (h25, .inl (k25, 400, .inr (.inr (.inr (.inr (q64_ 0)))))), (h3, zi k3 400 f3), (h8, .inr (6, mX6 h9 h10 h11 h12 h13 h14 h15 h16 v8)), (h14, zi k14 400 f14), (h12, zi k12 400 f12), (h26, zi k26 400 (a64_ 0))]) hD hS hA [0, 8, 2, 9, 10, 11, 12, 13, 1] rfl
                    refine va_callv (va_runV (As := [.int (u99_ 0)]) (rest := []) ⟨hx, hb, hml, hown, hG⟩ (sX3_want_1 l dC dI adK adV h0 h1 h27 h25 h3 h8 h14 h12 h26 h17 h28 h29 h2 h4 h5 h6 h7 h9 h10 h11 h13 h15 h16 k27 k25 k3 k14 k12 k26 pl99 H.size (upd v0 8 (u64_ 1)) v1 (a64_ 1) (q64_ 0) f3 v8 f14 f12 (a64_ 0) (u99_ 0) (zR_upd hv0 8 (show (0 : Int) ≤ ((u64_ 1) : Int32).toInt from by omega) (show ((u64_ 1) : Int32).toInt ≤ (400 : Int) from by omega)) hv1 hf3 hv8 ha64_0 (show zRd h8 (q64_ 0) pl99 from by assumption) (show 0 ≤ (u99_ 0).toInt ∧ (u99_ 0).toInt < (v1 7).toInt ∧ ((a64_ 1) (((u99_ 0) : Int32)).toNatClampNeg).toInt = 0 ∧ (u64_ 1).toInt ≤ 399 from by omega)) (cwV 1 hG (zgV zv1203 zv1205 zv33 zv140 zv1206) rfl rfl rfl (by decide +kernel) ⟨Nat.le_of_ble_eq_true rfl, Nat.le_of_ble_eq_true rfl⟩) ⟨zPc_blind, va_recv hKc hPc (ci := 3) (q0 := 0) rfl rfl, zPc_pre hPc hKc hDc hE hS hFc hZ⟩ rfl rfl hl.1 rfl (lv_room (Nat.le_of_ble_eq_true rfl)) dX3_open_99 ⟨(show (0 + 1 * ((u64_ 1).toInt).toNat) + 1 ≤ 400 from by omega), (show (0 + 9 * ((u64_ 1).toInt).toNat) + 9 ≤ 3600 from by omega)⟩) hS (fun q _ h => hFc q h) hFc (fun u99_ t H1 locs ht hvm hw hB hz1 hk1 hS => ?_)
                    replace hw : (0 ≤ (u99_ 0).toInt ∧ (u99_ 0).toInt ≤ 400) ∧ ((u64_ 1).toInt ≤ (u99_ 0).toInt) ∧ ((u99_ 0).toInt ≤ (u64_ 1).toInt + 1) ∧ ((u99_ 0).toInt = (u64_ 1).toInt + 1) := hw
                    obtain ⟨b_, hX99_0, hX99_1, hX99_2⟩ := hw
                    obtain ⟨w99_, a99_, b99_, q99_, pl99_, ha99_1, hB99_0, hB99_1, hP1, hK1, hD1⟩ := hB
                    have hB99_0 : zRd h8 (q99_ 0) pl99_ := hB99_0
                    have hB99_1 : zKp h8 pl99 pl99_ := hB99_1
                    rw [ht] at hP1
                    obtain ⟨hP, hD⟩ := va_joinP (wr := [(h17, .inr (7, mX7 h18 h19 h20 h21 h22 h23 h24 v17)), (h18, zi k18 40 f18), (h19, zi k19 40 f19), (h20, zi k20 40 f20), (h23, zi k23 160 f23)]) (rx := [(h0, .inr (3, mX3 h1 h8 h17 h25 h26 h27 h28 h29 (upd v0 8 (u99_ 0)))), (h1, .inr (10, mX10 h2 h3 h4 h5 h6 h7 v1)), (h27, zi k27 400 (a99_ 0)), (h25, .inl (k25, 400, .inr (.inr (.inr (.inr (q99_ 0)))))), (h3, zi k3 400 f3), (h8, .inr (6, mX6 h9 h10 h11 h12 h13 h14 h15 h16 v8)), (h14, zi k14 400 f14), (h12, zi k12 400 f12), (h26, zi k26 400 (a99_ 1))]) hP hD [0, 8, 2, 9, 10, 11, 12, 13, 1] [3, 4, 5, 6, 7] rfl rfl (by decide) (by decide) hk1 hFc hP1 hD1
                    have hP : va_P (dC, dI) vwCl ([(h0, .inr (3, mX3 h1 h8 h17 h25 h26 h27 h28 h29 (upd v0 8 (u99_ 0)))), (h26, zi k26 400 (a99_ 1)), (h27, zi k27 400 (a99_ 0)), (h17, .inr (7, mX7 h18 h19 h20 h21 h22 h23 h24 v17)), (h18, zi k18 40 f18), (h19, zi k19 40 f19), (h20, zi k20 40 f20), (h23, zi k23 160 f23), (h1, .inr (10, mX10 h2 h3 h4 h5 h6 h7 v1)), (h25, .inl (k25, 400, .inr (.inr (.inr (.inr (q99_ 0)))))), (h3, zi k3 400 f3), (h8, .inr (6, mX6 h9 h10 h11 h12 h13 h14 h15 h16 v8)), (h14, zi k14 400 f14), (h12, zi k12 400 f12)] ++ pl99_) H1 := hP.part [5, 13, 7, 0, 1, 2, 3, 4, 6, 8, 9, 10, 11, 12] rfl
                    have hD : va_D A ([(h0, .inr (3, mX3 h1 h8 h17 h25 h26 h27 h28 h29 (upd v0 8 (u99_ 0)))), (h26, zi k26 400 (a99_ 1)), (h27, zi k27 400 (a99_ 0)), (h17, .inr (7, mX7 h18 h19 h20 h21 h22 h23 h24 v17)), (h18, zi k18 40 f18), (h19, zi k19 40 f19), (h20, zi k20 40 f20), (h23, zi k23 160 f23), (h1, .inr (10, mX10 h2 h3 h4 h5 h6 h7 v1)), (h25, .inl (k25, 400, .inr (.inr (.inr (.inr (q99_ 0)))))), (h3, zi k3 400 f3), (h8, .inr (6, mX6 h9 h10 h11 h12 h13 h14 h15 h16 v8)), (h14, zi k14 400 f14), (h12, zi k12 400 f12)] ++ pl99_) := hD.part [5, 13, 7, 0, 1, 2, 3, 4, 6, 8, 9, 10, 11, 12] (by decide) rfl
                    generalize H1 = H at hP hS ⊢
                    clear hz1
                    refine W.widen (k := (0 + 1 * ((u99_ 0).toInt).toNat)) (n := (0 + 9 * ((u99_ 0).toInt).toNat)) (by omega) (by omega) ?_
                    have hkp_ : zKp h8 pl0 pl99_ := zKp_tr (show zKp h8 pl0 pl99 from by first | assumption | exact zKp_rf) hB99_1
                    obtain ⟨z102, e_z102⟩ : ∃ z : Int32, z = (u64_ 0) + Int32.ofInt 1 := ⟨_, rfl⟩
                    have b_ := zadd (x := (u64_ 0)) (y := Int32.ofInt 1) rfl (show (Int32.ofInt 1).toInt = 1 from by decide) e_z102 (by omega) (by omega)
                    refine lv_iinc (v := z102) (lv' := [(3, .int z102), (0, .ref h0), (1, .int (u35_ 0)), (2, .int r51_)]) hx hb dX3_open_102 hl (k := 3) rfl e_z102.symm (by decide) rfl (fun ls hl => ?_)
                    refine lv_goto (tgt := 64) hx hb dX3_open_105 (by decide) ?_
                    have hc : va_P (dC, dI) vwCl ([(h0, .inr (3, mX3 h1 h8 h17 h25 h26 h27 h28 h29 (upd v0 8 (u99_ 0)))), (h26, zi k26 400 (a99_ 1)), (h27, zi k27 400 (a99_ 0)), (h17, .inr (7, mX7 h18 h19 h20 h21 h22 h23 h24 v17)), (h18, zi k18 40 f18), (h19, zi k19 40 f19), (h20, zi k20 40 f20), (h23, zi k23 160 f23), (h1, .inr (10, mX10 h2 h3 h4 h5 h6 h7 v1)), (h25, .inl (k25, 400, .inr (.inr (.inr (.inr (q99_ 0)))))), (h3, zi k3 400 f3), (h8, .inr (6, mX6 h9 h10 h11 h12 h13 h14 h15 h16 v8)), (h14, zi k14 400 f14), (h12, zi k12 400 f12)] ++ pl99_) H ∧ va_D A ([(h0, .inr (3, mX3 h1 h8 h17 h25 h26 h27 h28 h29 (upd v0 8 (u99_ 0)))), (h26, zi k26 400 (a99_ 1)), (h27, zi k27 400 (a99_ 0)), (h17, .inr (7, mX7 h18 h19 h20 h21 h22 h23 h24 v17)), (h18, zi k18 40 f18), (h19, zi k19 40 f19), (h20, zi k20 40 f20), (h23, zi k23 160 f23), (h1, .inr (10, mX10 h2 h3 h4 h5 h6 h7 v1)), (h25, .inl (k25, 400, .inr (.inr (.inr (.inr (q99_ 0)))))), (h3, zi k3 400 f3), (h8, .inr (6, mX6 h9 h10 h11 h12 h13 h14 h15 h16 v8)), (h14, zi k14 400 f14), (h12, zi k12 400 f12)] ++ pl99_) ∧ va_S A s.heap H locs ∧ lv_has ls 4 [(0, .ref h0), (1, .int (u35_ 0)), (2, .int r51_), (3, .int z102)] ∧ zA 0 399 (a99_ 1) ∧ (0 ≤ (u99_ 0).toInt ∧ (u99_ 0).toInt ≤ 400) ∧ (zRd h8 (q99_ 0) pl99_) ∧ (zKp h8 pl0 pl99_) := ⟨hP, hD, hS, lv_sub hl [1, 2, 3, 0] rfl, ha99_1, ⟨by omega, by omega⟩, by assumption, by first | assumption | exact zKp_rf⟩
                    exact hJ64 H locs ls (fun i => ([z102, (u99_ 0)] : List (Int32)).getD i 0) (fun _ => 0) (fun i => ([(a99_ 1), (a99_ 0)] : List (Nat → Int32)).getD i (fun _ => 0)) (fun _ => (fun _ => 0)) ⟨(fun i => ([(q99_ 0)] : List (Nat → Option Nat)).getD i (fun _ => none)), pl99_, hc⟩ (show (2147483647 - z102.toInt).toNat < (2147483647 - (u64_ 0).toInt).toNat from by omega)
                · skip
                  refine lv_icmp_ne (tgt := 98) hx hb dX3_open_84 (by decide) (fun c_ => ?_) (fun c_ => ?_)
                  · skip
                    have b_ := zT_ne rfl zk_3 c_
                    refine lv_iload_n hx hb dX3_open_98 rfl (lv_at hl 3 rfl) ?_
                    have hc : va_P (dC, dI) vwCl ([(h0, .inr (3, mX3 h1 h8 h17 h25 h26 h27 h28 h29 (upd v0 8 (u64_ 1)))), (h26, zi k26 400 (a64_ 0)), (h27, zi k27 400 (a64_ 1)), (h17, .inr (7, mX7 h18 h19 h20 h21 h22 h23 h24 v17)), (h18, zi k18 40 f18), (h19, zi k19 40 f19), (h20, zi k20 40 f20), (h23, zi k23 160 f23), (h1, .inr (10, mX10 h2 h3 h4 h5 h6 h7 v1)), (h25, .inl (k25, 400, .inr (.inr (.inr (.inr (q64_ 0)))))), (h3, zi k3 400 f3), (h8, .inr (6, mX6 h9 h10 h11 h12 h13 h14 h15 h16 v8)), (h14, zi k14 400 f14), (h12, zi k12 400 f12)] ++ pl64) H ∧ va_D A ([(h0, .inr (3, mX3 h1 h8 h17 h25 h26 h27 h28 h29 (upd v0 8 (u64_ 1)))), (h26, zi k26 400 (a64_ 0)), (h27, zi k27 400 (a64_ 1)), (h17, .inr (7, mX7 h18 h19 h20 h21 h22 h23 h24 v17)), (h18, zi k18 40 f18), (h19, zi k19 40 f19), (h20, zi k20 40 f20), (h23, zi k23 160 f23), (h1, .inr (10, mX10 h2 h3 h4 h5 h6 h7 v1)), (h25, .inl (k25, 400, .inr (.inr (.inr (.inr (q64_ 0)))))), (h3, zi k3 400 f3), (h8, .inr (6, mX6 h9 h10 h11 h12 h13 h14 h15 h16 v8)), (h14, zi k14 400 f14), (h12, zi k12 400 f12)] ++ pl64) ∧ va_S A s.heap H locs ∧ lv_has ls 4 [(0, .ref h0), (1, .int (u35_ 0)), (2, .int r51_), (3, .int (u64_ 0))] ∧ (zRd h8 (q64_ 0) pl64) ∧ (zKp h8 pl0 pl64) := ⟨hP, hD, hS, lv_sub hl [0, 1, 2, 3] rfl, by assumption, by first | assumption | exact zKp_rf⟩
                    exact hJ99 H locs ls (fun i => ([(u64_ 0)] : List (Int32)).getD i 0) (fun _ => 0) (fun _ => (fun _ => 0)) (fun _ => (fun _ => 0)) ⟨(fun _ => (fun _ => none)), pl64, hc⟩
                  · skip
                    have b_ := zF_ne rfl zk_3 c_
                    refine lv_aload_n hx hb dX3_open_87 rfl (lv_at hl 0 rfl) ?_
                    refine va_get (D := (dC, dI)) (ci := 3) (v := .ref h17) (C := RX3) (T := TX3) (N := 10) hx hb hG zuX3 hown hK hP 0 rfl rfl 2 (by decide) (hG _ zv475) (fun _ h9 => h9) rfl dX3_open_88 ?_
                    refine lv_iload_n hx hb dX3_open_91 rfl (lv_at hl 3 rfl) ?_
                    have hPc := hP.sub (ws' := [(h17, .inr (7, mX7 h18 h19 h20 h21 h22 h23 h24 v17)), (h23, zi k23 160 f23)]) [3, 7] rfl
                    have hDc := hD.sub (ws' := [(h17, .inr (7, mX7 h18 h19 h20 h21 h22 h23 h24 v17)), (h23, zi k23 160 f23)]) [3, 7] (by decide) rfl
                    have hKc := hK.sub (tys' := [(k23, .int)]) [5] rfl
                    have hFc := va_free (wc := [(h17, .inr (7, mX7 h18 h19 h20 h21 h22 h23 h24 v17)), (h23, zi k23 160 f23)]) hD hS hA [3, 7] rfl
                    refine va_calli (va_runV (As := [.int (u64_ 0)]) (rest := [.ref h0]) ⟨hx, hb, hml, hown, hG⟩ (sX7_phraseWord_0 l dC dI adK adV h17 h23 h18 h19 h20 h21 h22 h24 k23 H.size v17 f23 (u64_ 0) hv17) (cwV 1 hG (zgV zv1199 zv1200 zv1201 zv136 zv1202) rfl rfl rfl (by decide +kernel) ⟨Nat.le_of_ble_eq_true rfl, Nat.le_of_ble_eq_true rfl⟩) ⟨zPc_blind, va_recv hKc hPc (ci := 7) (q0 := 0) rfl rfl, zPc_pre hPc hKc hDc hE hS hFc hZ⟩ rfl rfl hl.1 rfl (lv_room (Nat.le_of_ble_eq_true rfl)) dX3_open_92 ⟨(show (0 + 1 * ((u64_ 1).toInt).toNat) + 0 ≤ 400 from by omega), (show (0 + 9 * ((u64_ 1).toInt).toNat) + 0 ≤ 3600 from by omega)⟩) hS (fun q _ h => hFc q h) hFc (fun r92_ u92_ t H1 locs ht hvm hw hB hz1 hk1 hS => ?_)
                    obtain ⟨w92_, a92_, b92_, hP1, hK1, hD1⟩ := hB
                    rw [ht] at hP1
                    obtain ⟨hP, hD⟩ := va_joinQ (wr := [(h0, .inr (3, mX3 h1 h8 h17 h25 h26 h27 h28 h29 (upd v0 8 (u64_ 1)))), (h26, zi k26 400 (a64_ 0)), (h27, zi k27 400 (a64_ 1)), (h18, zi k18 40 f18), (h19, zi k19 40 f19), (h20, zi k20 40 f20), (h1, .inr (10, mX10 h2 h3 h4 h5 h6 h7 v1)), (h25, .inl (k25, 400, .inr (.inr (.inr (.inr (q64_ 0)))))), (h3, zi k3 400 f3), (h8, .inr (6, mX6 h9 h10 h11 h12 h13 h14 h15 h16 v8)), (h14, zi k14 400 f14), (h12, zi k12 400 f12)]) (w1 := [(h17, .inr (7, mX7 h18 h19 h20 h21 h22 h23 h24 v17)), (h23, zi k23 160 f23)]) hP hD [3, 7] [0, 1, 2, 4, 5, 6, 8, 9, 10, 11, 12, 13] rfl rfl (by decide) (by decide) hk1 hFc hP1 hD1
                    have hP : va_P (dC, dI) vwCl ([(h0, .inr (3, mX3 h1 h8 h17 h25 h26 h27 h28 h29 (upd v0 8 (u64_ 1)))), (h26, zi k26 400 (a64_ 0)), (h27, zi k27 400 (a64_ 1)), (h17, .inr (7, mX7 h18 h19 h20 h21 h22 h23 h24 v17)), (h18, zi k18 40 f18), (h19, zi k19 40 f19), (h20, zi k20 40 f20), (h23, zi k23 160 f23), (h1, .inr (10, mX10 h2 h3 h4 h5 h6 h7 v1)), (h25, .inl (k25, 400, .inr (.inr (.inr (.inr (q64_ 0)))))), (h3, zi k3 400 f3), (h8, .inr (6, mX6 h9 h10 h11 h12 h13 h14 h15 h16 v8)), (h14, zi k14 400 f14), (h12, zi k12 400 f12)] ++ pl64) H1 := hP.part [0, 1, 2, 12, 3, 4, 5, 13, 6, 7, 8, 9, 10, 11] rfl
                    have hD : va_D A ([(h0, .inr (3, mX3 h1 h8 h17 h25 h26 h27 h28 h29 (upd v0 8 (u64_ 1)))), (h26, zi k26 400 (a64_ 0)), (h27, zi k27 400 (a64_ 1)), (h17, .inr (7, mX7 h18 h19 h20 h21 h22 h23 h24 v17)), (h18, zi k18 40 f18), (h19, zi k19 40 f19), (h20, zi k20 40 f20), (h23, zi k23 160 f23), (h1, .inr (10, mX10 h2 h3 h4 h5 h6 h7 v1)), (h25, .inl (k25, 400, .inr (.inr (.inr (.inr (q64_ 0)))))), (h3, zi k3 400 f3), (h8, .inr (6, mX6 h9 h10 h11 h12 h13 h14 h15 h16 v8)), (h14, zi k14 400 f14), (h12, zi k12 400 f12)] ++ pl64) := hD.part [0, 1, 2, 12, 3, 4, 5, 13, 6, 7, 8, 9, 10, 11] (by decide) rfl
                    generalize H1 = H at hP hS ⊢
                    clear hz1
                    refine lv_goto (tgt := 99) hx hb dX3_open_95 (by decide) ?_
                    have hc : va_P (dC, dI) vwCl ([(h0, .inr (3, mX3 h1 h8 h17 h25 h26 h27 h28 h29 (upd v0 8 (u64_ 1)))), (h26, zi k26 400 (a64_ 0)), (h27, zi k27 400 (a64_ 1)), (h17, .inr (7, mX7 h18 h19 h20 h21 h22 h23 h24 v17)), (h18, zi k18 40 f18), (h19, zi k19 40 f19), (h20, zi k20 40 f20), (h23, zi k23 160 f23), (h1, .inr (10, mX10 h2 h3 h4 h5 h6 h7 v1)), (h25, .inl (k25, 400, .inr (.inr (.inr (.inr (q64_ 0)))))), (h3, zi k3 400 f3), (h8, .inr (6, mX6 h9 h10 h11 h12 h13 h14 h15 h16 v8)), (h14, zi k14 400 f14), (h12, zi k12 400 f12)] ++ pl64) H ∧ va_D A ([(h0, .inr (3, mX3 h1 h8 h17 h25 h26 h27 h28 h29 (upd v0 8 (u64_ 1)))), (h26, zi k26 400 (a64_ 0)), (h27, zi k27 400 (a64_ 1)), (h17, .inr (7, mX7 h18 h19 h20 h21 h22 h23 h24 v17)), (h18, zi k18 40 f18), (h19, zi k19 40 f19), (h20, zi k20 40 f20), (h23, zi k23 160 f23), (h1, .inr (10, mX10 h2 h3 h4 h5 h6 h7 v1)), (h25, .inl (k25, 400, .inr (.inr (.inr (.inr (q64_ 0)))))), (h3, zi k3 400 f3), (h8, .inr (6, mX6 h9 h10 h11 h12 h13 h14 h15 h16 v8)), (h14, zi k14 400 f14), (h12, zi k12 400 f12)] ++ pl64) ∧ va_S A s.heap H locs ∧ lv_has ls 4 [(0, .ref h0), (1, .int (u35_ 0)), (2, .int r51_), (3, .int (u64_ 0))] ∧ (zRd h8 (q64_ 0) pl64) ∧ (zKp h8 pl0 pl64) := ⟨hP, hD, hS, lv_sub hl [0, 1, 2, 3] rfl, by assumption, by first | assumption | exact zKp_rf⟩
                    exact hJ99 H locs ls (fun i => ([r92_] : List (Int32)).getD i 0) (fun _ => 0) (fun _ => (fun _ => 0)) (fun _ => (fun _ => 0)) ⟨(fun _ => (fun _ => none)), pl64, hc⟩
          · skip
            have b_ : -2147483648 ≤ r51_.toInt ∧ r51_.toInt ≤ 2147483647 := ⟨zlo _, zhi _⟩
            have b_ : -2147483648 ≤ r60_.toInt ∧ r60_.toInt ≤ 2147483647 := ⟨zlo _, zhi _⟩
            have hc : va_P (dC, dI) vwCl ([(h0, .inr (3, mX3 h1 h8 h17 h25 h26 h27 h28 h29 (upd v0 8 (u35_ 1)))), (h26, zi k26 400 (a35_ 0)), (h27, zi k27 400 (a35_ 1)), (h17, .inr (7, mX7 h18 h19 h20 h21 h22 h23 h24 v17)), (h18, zi k18 40 f18), (h19, zi k19 40 f19), (h20, zi k20 40 f20), (h23, zi k23 160 f23), (h1, .inr (10, mX10 h2 h3 h4 h5 h6 h7 v1)), (h25, .inl (k25, 400, .inr (.inr (.inr (.inr (q35_ 0)))))), (h3, zi k3 400 f3), (h8, .inr (6, mX6 h9 h10 h11 h12 h13 h14 h15 h16 v8)), (h14, zi k14 400 f14), (h12, zi k12 400 f12)] ++ pl35) H ∧ va_D A ([(h0, .inr (3, mX3 h1 h8 h17 h25 h26 h27 h28 h29 (upd v0 8 (u35_ 1)))), (h26, zi k26 400 (a35_ 0)), (h27, zi k27 400 (a35_ 1)), (h17, .inr (7, mX7 h18 h19 h20 h21 h22 h23 h24 v17)), (h18, zi k18 40 f18), (h19, zi k19 40 f19), (h20, zi k20 40 f20), (h23, zi k23 160 f23), (h1, .inr (10, mX10 h2 h3 h4 h5 h6 h7 v1)), (h25, .inl (k25, 400, .inr (.inr (.inr (.inr (q35_ 0)))))), (h3, zi k3 400 f3), (h8, .inr (6, mX6 h9 h10 h11 h12 h13 h14 h15 h16 v8)), (h14, zi k14 400 f14), (h12, zi k12 400 f12)] ++ pl35) ∧ va_S A s.heap H locs ∧ lv_has ls 4 [(0, .ref h0), (1, .int (u35_ 0)), (2, .int r51_), (3, .int r60_)] ∧ zA 0 399 (a35_ 0) ∧ (0 ≤ (u35_ 1).toInt ∧ (u35_ 1).toInt ≤ 400) ∧ (zRd h8 (q35_ 0) pl35) ∧ (zKp h8 pl0 pl35) := ⟨hP, hD, hS, lv_sub hl [2, 3, 1, 0] rfl, ha35_0, ⟨by omega, by omega⟩, by assumption, by first | assumption | exact zKp_rf⟩
            exact hJ64 H locs ls (fun i => ([r60_, (u35_ 1)] : List (Int32)).getD i 0) (fun _ => 0) (fun i => ([(a35_ 0), (a35_ 1)] : List (Nat → Int32)).getD i (fun _ => 0)) (fun _ => (fun _ => 0)) ⟨(fun i => ([(q35_ 0)] : List (Nat → Option Nat)).getD i (fun _ => none)), pl35, hc⟩
      · skip
        have hc : va_P (dC, dI) vwCl ([(h0, .inr (3, mX3 h1 h8 h17 h25 h26 h27 h28 h29 (upd v0 8 0))), (h26, zi k26 400 f26), (h27, zi k27 400 (a2_ 0)), (h17, .inr (7, mX7 h18 h19 h20 h21 h22 h23 h24 v17)), (h18, zi k18 40 f18), (h19, zi k19 40 f19), (h20, zi k20 40 f20), (h23, zi k23 160 f23), (h1, .inr (10, mX10 h2 h3 h4 h5 h6 h7 v1)), (h25, .inl (k25, 400, .inr (.inr (.inr (.inr f25))))), (h3, zi k3 400 f3), (h8, .inr (6, mX6 h9 h10 h11 h12 h13 h14 h15 h16 v8)), (h14, zi k14 400 f14), (h12, zi k12 400 f12)] ++ pl2) H ∧ va_D A ([(h0, .inr (3, mX3 h1 h8 h17 h25 h26 h27 h28 h29 (upd v0 8 0))), (h26, zi k26 400 f26), (h27, zi k27 400 (a2_ 0)), (h17, .inr (7, mX7 h18 h19 h20 h21 h22 h23 h24 v17)), (h18, zi k18 40 f18), (h19, zi k19 40 f19), (h20, zi k20 40 f20), (h23, zi k23 160 f23), (h1, .inr (10, mX10 h2 h3 h4 h5 h6 h7 v1)), (h25, .inl (k25, 400, .inr (.inr (.inr (.inr f25))))), (h3, zi k3 400 f3), (h8, .inr (6, mX6 h9 h10 h11 h12 h13 h14 h15 h16 v8)), (h14, zi k14 400 f14), (h12, zi k12 400 f12)] ++ pl2) ∧ va_S A s.heap H locs ∧ lv_has ls 4 [(0, .ref h0), (1, .int 0)] ∧ zA 0 399 f26 ∧ (0 ≤ (0 : Int32).toInt ∧ (0 : Int32).toInt ≤ 40) ∧ (0 ≤ (0 : Int32).toInt ∧ (0 : Int32).toInt ≤ 400) ∧ (zRd h8 f25 pl2) ∧ (zKp h8 pl0 pl2) := ⟨hP, hD, hS, lv_sub hl [1, 0] rfl, hf26, ⟨by omega, by omega⟩, ⟨by omega, by omega⟩, by assumption, by first | assumption | exact zKp_rf⟩
        exact hJ35 H locs ls (fun i => ([0, 0] : List (Int32)).getD i 0) (fun _ => 0) (fun i => ([f26, (a2_ 0)] : List (Nat → Int32)).getD i (fun _ => 0)) (fun _ => (fun _ => 0)) ⟨(fun i => ([f25] : List (Nat → Option Nat)).getD i (fun _ => none)), pl2, hc⟩
    · skip
      have b_ := zF_ge rfl rfl c_
      refine lv_aload_n hx hb dX3_open_10 rfl (lv_at hl 0 rfl) ?_
      refine va_get (D := (dC, dI)) (ci := 3) (v := .ref h27) (C := RX3) (T := TX3) (N := 10) hx hb hG zuX3 hown hK hP 0 rfl rfl 5 (by decide) (hG _ zv478) (fun _ h9 => h9) rfl dX3_open_11 ?_
      refine lv_aload_n hx hb dX3_open_14 rfl (lv_at hl 0 rfl) ?_
      refine va_get (D := (dC, dI)) (ci := 3) (v := .ref h26) (C := RX3) (T := TX3) (N := 10) hx hb hG zuX3 hown hK hP 0 rfl rfl 4 (by decide) (hG _ zv477) (fun _ h9 => h9) rfl dX3_open_15 ?_
      refine lv_iload_n hx hb dX3_open_18 rfl (lv_at hl 1 rfl) ?_
      refine va_iald hx hb hK hP 1 0 rfl rfl (zin_lit ⟨by omega, by omega⟩) dX3_open_19 ?_
      refine lv_topi (fun z19 e_z19 => ?_)
      have b_ : 0 ≤ z19.toInt ∧ z19.toInt ≤ 399 := by rw [e_z19]; exact hf26 _
      refine lv_iconst (v := 0) hx hb dX3_open_20 (by decide) ?_
      refine va_zast hx hb hK hP hD hS 2 1 rfl rfl (zin_lit ⟨by omega, by omega⟩) dX3_open_21 (fun H locs hP hD hS => ?_)
      obtain ⟨f_21, e_f_21⟩ : ∃ z : Nat → Int32, z = upd (a2_ 0) (z19 : Int32).toNatClampNeg (vp_nar .boolean 0) := ⟨_, rfl⟩
      have hP : va_P (dC, dI) vwCl ([(h0, .inr (3, mX3 h1 h8 h17 h25 h26 h27 h28 h29 v0)), (h26, zi k26 400 f26), (h27, zi k27 400 f_21), (h17, .inr (7, mX7 h18 h19 h20 h21 h22 h23 h24 v17)), (h18, zi k18 40 f18), (h19, zi k19 40 f19), (h20, zi k20 40 f20), (h23, zi k23 160 f23), (h1, .inr (10, mX10 h2 h3 h4 h5 h6 h7 v1)), (h25, .inl (k25, 400, .inr (.inr (.inr (.inr f25))))), (h3, zi k3 400 f3), (h8, .inr (6, mX6 h9 h10 h11 h12 h13 h14 h15 h16 v8)), (h14, zi k14 400 f14), (h12, zi k12 400 f12)] ++ pl2) H := by rw [e_f_21]; exact hP
      have hD : va_D A ([(h0, .inr (3, mX3 h1 h8 h17 h25 h26 h27 h28 h29 v0)), (h26, zi k26 400 f26), (h27, zi k27 400 f_21), (h17, .inr (7, mX7 h18 h19 h20 h21 h22 h23 h24 v17)), (h18, zi k18 40 f18), (h19, zi k19 40 f19), (h20, zi k20 40 f20), (h23, zi k23 160 f23), (h1, .inr (10, mX10 h2 h3 h4 h5 h6 h7 v1)), (h25, .inl (k25, 400, .inr (.inr (.inr (.inr f25))))), (h3, zi k3 400 f3), (h8, .inr (6, mX6 h9 h10 h11 h12 h13 h14 h15 h16 v8)), (h14, zi k14 400 f14), (h12, zi k12 400 f12)] ++ pl2) := by rw [e_f_21]; exact hD
      obtain ⟨z22, e_z22⟩ : ∃ z : Int32, z = (u2_ 0) + Int32.ofInt 1 := ⟨_, rfl⟩
      have b_ := zadd (x := (u2_ 0)) (y := Int32.ofInt 1) rfl (show (Int32.ofInt 1).toInt = 1 from by decide) e_z22 (by omega) (by omega)
      refine lv_iinc (v := z22) (lv' := [(1, .int z22), (0, .ref h0)]) hx hb dX3_open_22 hl (k := 1) rfl e_z22.symm (by decide) rfl (fun ls hl => ?_)
      refine lv_goto (tgt := 2) hx hb dX3_open_25 (by decide) ?_
      have hc : va_P (dC, dI) vwCl ([(h0, .inr (3, mX3 h1 h8 h17 h25 h26 h27 h28 h29 v0)), (h26, zi k26 400 f26), (h27, zi k27 400 f_21), (h17, .inr (7, mX7 h18 h19 h20 h21 h22 h23 h24 v17)), (h18, zi k18 40 f18), (h19, zi k19 40 f19), (h20, zi k20 40 f20), (h23, zi k23 160 f23), (h1, .inr (10, mX10 h2 h3 h4 h5 h6 h7 v1)), (h25, .inl (k25, 400, .inr (.inr (.inr (.inr f25))))), (h3, zi k3 400 f3), (h8, .inr (6, mX6 h9 h10 h11 h12 h13 h14 h15 h16 v8)), (h14, zi k14 400 f14), (h12, zi k12 400 f12)] ++ pl2) H ∧ va_D A ([(h0, .inr (3, mX3 h1 h8 h17 h25 h26 h27 h28 h29 v0)), (h26, zi k26 400 f26), (h27, zi k27 400 f_21), (h17, .inr (7, mX7 h18 h19 h20 h21 h22 h23 h24 v17)), (h18, zi k18 40 f18), (h19, zi k19 40 f19), (h20, zi k20 40 f20), (h23, zi k23 160 f23), (h1, .inr (10, mX10 h2 h3 h4 h5 h6 h7 v1)), (h25, .inl (k25, 400, .inr (.inr (.inr (.inr f25))))), (h3, zi k3 400 f3), (h8, .inr (6, mX6 h9 h10 h11 h12 h13 h14 h15 h16 v8)), (h14, zi k14 400 f14), (h12, zi k12 400 f12)] ++ pl2) ∧ va_S A s.heap H locs ∧ lv_has ls 4 [(0, .ref h0), (1, .int z22)] ∧ (0 ≤ z22.toInt ∧ z22.toInt ≤ 400) ∧ (zRd h8 f25 pl2) ∧ (zKp h8 pl0 pl2) := ⟨hP, hD, hS, lv_sub hl [1, 0] rfl, ⟨by omega, by omega⟩, by assumption, by first | assumption | exact zKp_rf⟩
      exact hJ2 H locs ls (fun i => ([z22] : List (Int32)).getD i 0) (fun _ => 0) (fun i => ([f_21] : List (Nat → Int32)).getD i (fun _ => 0)) (fun _ => (fun _ => 0)) ⟨(fun _ => (fun _ => none)), pl2, hc⟩ (show (400 - z22.toInt).toNat < (400 - (u2_ 0).toInt).toNat from by omega)
  · skip
    have hc : va_P (dC, dI) vwCl ([(h0, .inr (3, mX3 h1 h8 h17 h25 h26 h27 h28 h29 v0)), (h26, zi k26 400 f26), (h27, zi k27 400 f27), (h17, .inr (7, mX7 h18 h19 h20 h21 h22 h23 h24 v17)), (h18, zi k18 40 f18), (h19, zi k19 40 f19), (h20, zi k20 40 f20), (h23, zi k23 160 f23), (h1, .inr (10, mX10 h2 h3 h4 h5 h6 h7 v1)), (h25, .inl (k25, 400, .inr (.inr (.inr (.inr f25))))), (h3, zi k3 400 f3), (h8, .inr (6, mX6 h9 h10 h11 h12 h13 h14 h15 h16 v8)), (h14, zi k14 400 f14), (h12, zi k12 400 f12)] ++ pl0) s.heap ∧ va_D A ([(h0, .inr (3, mX3 h1 h8 h17 h25 h26 h27 h28 h29 v0)), (h26, zi k26 400 f26), (h27, zi k27 400 f27), (h17, .inr (7, mX7 h18 h19 h20 h21 h22 h23 h24 v17)), (h18, zi k18 40 f18), (h19, zi k19 40 f19), (h20, zi k20 40 f20), (h23, zi k23 160 f23), (h1, .inr (10, mX10 h2 h3 h4 h5 h6 h7 v1)), (h25, .inl (k25, 400, .inr (.inr (.inr (.inr f25))))), (h3, zi k3 400 f3), (h8, .inr (6, mX6 h9 h10 h11 h12 h13 h14 h15 h16 v8)), (h14, zi k14 400 f14), (h12, zi k12 400 f12)] ++ pl0) ∧ va_S A s.heap s.heap [] ∧ lv_has ls 4 [(0, .ref h0), (1, .int 0)] ∧ (0 ≤ (0 : Int32).toInt ∧ (0 : Int32).toInt ≤ 400) ∧ (zRd h8 f25 pl0) ∧ (zKp h8 pl0 pl0) := ⟨hP, hD, hS, lv_sub hl [1, 0] rfl, ⟨by omega, by omega⟩, by assumption, by first | assumption | exact zKp_rf⟩
    exact hJ2 s.heap [] ls (fun i => ([0] : List (Int32)).getD i 0) (fun _ => 0) (fun i => ([f27] : List (Nat → Int32)).getD i (fun _ => 0)) (fun _ => (fun _ => 0)) ⟨(fun _ => (fun _ => none)), pl0, hc⟩
set_option maxHeartbeats 8000000 in
set_option maxRecDepth 100000 in
theorem sX3_want_2 (l : Launch) (dC : Nat → ClassId) (dI : Nat → Nat → Nat) (adK adV : Nat → Nat) (h0 : Nat) (h1 : Nat) (h27 : Nat) (h25 : Nat) (h3 : Nat) (h8 : Nat) (h14 : Nat) (h12 : Nat) (h26 : Nat) (h17 : Nat) (h28 : Nat) (h29 : Nat) (h2 : Nat) (h4 : Nat) (h5 : Nat) (h6 : Nat) (h7 : Nat) (h9 : Nat) (h10 : Nat) (h11 : Nat) (h13 : Nat) (h15 : Nat) (h16 : Nat) (k27 : ClassId) (k25 : ClassId) (k3 : ClassId) (k14 : ClassId) (k12 : ClassId) (k26 : ClassId) (pl0 : va_W) (sz : Nat) (v0 : Nat → Int32) (v1 : Nat → Int32) (f27 : Nat → Int32) (f25 : Nat → Option Nat) (f3 : Nat → Int32) (v8 : Nat → Int32) (f14 : Nat → Int32) (f12 : Nat → Int32) (f26 : Nat → Int32) (x1 : Int32) (hv0 : zR rg_Page v0) (hv1 : zR rg_Words400 v1) (hf3 : zA 0 399 f3) (hv8 : zR rg_Postings v8) (hf26 : zA 0 399 f26) (hp0_ : zRd h8 f25 pl0) : Met l yX3_want (zw yX3_want cX3_want 2 none) { frames := 3, cells := 1, slots := 9, locals := 62 } (zPc dC dI adK adV [.ref h0, .int x1] sz ([(h0, .inr (3, mX3 h1 h8 h17 h25 h26 h27 h28 h29 v0)), (h1, .inr (10, mX10 h2 h3 h4 h5 h6 h7 v1)), (h27, zi k27 400 f27), (h25, .inl (k25, 400, .inr (.inr (.inr (.inr f25))))), (h3, zi k3 400 f3), (h8, .inr (6, mX6 h9 h10 h11 h12 h13 h14 h15 h16 v8)), (h14, zi k14 400 f14), (h12, zi k12 400 f12), (h26, zi k26 400 f26)] ++ pl0) [(k27, .boolean), (k25, .object RX8), (k3, .int), (k14, .int), (k12, .int), (k26, .int)]) (va_Qv (fun (u : Nat → Int32) => (0 ≤ (u 0).toInt ∧ (u 0).toInt ≤ 400) ∧ ((v0 8).toInt ≤ (u 0).toInt) ∧ ((u 0).toInt ≤ (v0 8).toInt + 1)) (fun (u : Nat → Int32) (t : State) => ∃ (ww : Nat → Int64) (aa : Nat → Nat → Int32) (bb : Nat → Nat → Int64) (qq : Nat → Nat → Option Nat) (pl1 : va_W), zA 0 399 (aa 1) ∧ (zRd h8 (qq 0) pl1) ∧ (zKp h8 pl0 pl1) ∧ va_P (dC, dI) vwCl ([(h0, .inr (3, mX3 h1 h8 h17 h25 h26 h27 h28 h29 (upd v0 8 (u 0)))), (h1, .inr (10, mX10 h2 h3 h4 h5 h6 h7 v1)), (h27, zi k27 400 (aa 0)), (h25, .inl (k25, 400, .inr (.inr (.inr (.inr (qq 0)))))), (h3, zi k3 400 f3), (h8, .inr (6, mX6 h9 h10 h11 h12 h13 h14 h15 h16 v8)), (h14, zi k14 400 f14), (h12, zi k12 400 f12), (h26, zi k26 400 (aa 1))] ++ pl1) t.heap ∧ va_K (dC, dI) vwCl [(k27, .boolean), (k25, .object RX8), (k3, .int), (k14, .int), (k12, .int), (k26, .int)] t ∧ va_D (va_A ([(h0, .inr (3, mX3 h1 h8 h17 h25 h26 h27 h28 h29 v0)), (h1, .inr (10, mX10 h2 h3 h4 h5 h6 h7 v1)), (h27, zi k27 400 f27), (h25, .inl (k25, 400, .inr (.inr (.inr (.inr f25))))), (h3, zi k3 400 f3), (h8, .inr (6, mX6 h9 h10 h11 h12 h13 h14 h15 h16 v8)), (h14, zi k14 400 f14), (h12, zi k12 400 f12), (h26, zi k26 400 f26)] ++ pl0) sz) ([(h0, .inr (3, mX3 h1 h8 h17 h25 h26 h27 h28 h29 (upd v0 8 (u 0)))), (h1, .inr (10, mX10 h2 h3 h4 h5 h6 h7 v1)), (h27, zi k27 400 (aa 0)), (h25, .inl (k25, 400, .inr (.inr (.inr (.inr (qq 0)))))), (h3, zi k3 400 f3), (h8, .inr (6, mX6 h9 h10 h11 h12 h13 h14 h15 h16 v8)), (h14, zi k14 400 f14), (h12, zi k12 400 f12), (h26, zi k26 400 (aa 1))] ++ pl1)) (va_A ([(h0, .inr (3, mX3 h1 h8 h17 h25 h26 h27 h28 h29 v0)), (h1, .inr (10, mX10 h2 h3 h4 h5 h6 h7 v1)), (h27, zi k27 400 f27), (h25, .inl (k25, 400, .inr (.inr (.inr (.inr f25))))), (h3, zi k3 400 f3), (h8, .inr (6, mX6 h9 h10 h11 h12 h13 h14 h15 h16 v8)), (h14, zi k14 400 f14), (h12, zi k12 400 f12), (h26, zi k26 400 f26)] ++ pl0) sz)) 1 9 (va_A ([(h0, .inr (3, mX3 h1 h8 h17 h25 h26 h27 h28 h29 v0)), (h1, .inr (10, mX10 h2 h3 h4 h5 h6 h7 v1)), (h27, zi k27 400 f27), (h25, .inl (k25, 400, .inr (.inr (.inr (.inr f25))))), (h3, zi k3 400 f3), (h8, .inr (6, mX6 h9 h10 h11 h12 h13 h14 h15 h16 v8)), (h14, zi k14 400 f14), (h12, zi k12 400 f12), (h26, zi k26 400 f26)] ++ pl0) sz) := by
  refine Met.ofW (cc := cX3_want) (maxL := 2) (ret := none) (by decide) rfl ?_
  intro p e s m args below meth c s₁ B hml hv
  obtain ⟨rfl, hsz, hP, hK, hD0, hE, hZ⟩ := hv
  have hx := B.exec
  have hb := B.bytes
  have hr := B.returns
  have hG : ∀ w ∈ zG, w.before _ s = true := fun w h => atoms_spec (ws := (zw yX3_want cX3_want 2 none)) B.pre w (List.mem_cons_of_mem _ h)
  have hown : s.vm.findClass RX3 = some m.cls := findClass_of_methodNamed B.named
  have hlocks := B.notSynchronized

  subst hsz
  have hD := hD0.self (sz := s.heap.size)
  generalize hAe : va_A ([(h0, .inr (3, mX3 h1 h8 h17 h25 h26 h27 h28 h29 v0)), (h1, .inr (10, mX10 h2 h3 h4 h5 h6 h7 v1)), (h27, zi k27 400 f27), (h25, .inl (k25, 400, .inr (.inr (.inr (.inr f25))))), (h3, zi k3 400 f3), (h8, .inr (6, mX6 h9 h10 h11 h12 h13 h14 h15 h16 v8)), (h14, zi k14 400 f14), (h12, zi k12 400 f12), (h26, zi k26 400 f26)] ++ pl0) s.heap.size = A at hD hZ ⊢
  have hA : ∀ q : Nat, s.heap.size ≤ q → A q := fun q h => by rw [← hAe]; exact Or.inr h
  have hS : va_S A s.heap s.heap [] := va_S.rf
  have hl := lv_entry ([.ref h0, .int x1]) (n := 2) (Nat.le_of_ble_eq_true rfl)
  rw [lg_entry_eq]
  generalize (lg_sl ([.ref h0, .int x1]) ++ List.replicate (2 - (lg_sl ([.ref h0, .int x1])).length) Slot.unset).toArray = ls at hl ⊢
  have hl : lv_has ls 2 [(0, .ref h0), (1, .int x1)] := hl
  have b_ : 0 ≤ (v0 8).toInt ∧ (v0 8).toInt ≤ 400 := hv0 8
  refine lv_iload_n hx hb dX3_want_0 rfl (lv_at hl 1 rfl) ?_
  have b_ : -2147483648 ≤ x1.toInt ∧ x1.toInt ≤ 2147483647 := ⟨zlo _, zhi _⟩
  refine lv_if_lt (tgt := 34) hx hb dX3_want_1 (by decide) (fun c_ => ?_) (fun c_ => ?_)
  · skip
    have b_ := zT_lt rfl zk_0 c_
    refine W.widen (k := 1) (n := 9) (by decide) (by decide) ?_
    have hpost : (0 ≤ (v0 8).toInt ∧ (v0 8).toInt ≤ 400) ∧ ((v0 8).toInt ≤ (v0 8).toInt) ∧ ((v0 8).toInt ≤ (v0 8).toInt + 1) := ⟨⟨by omega, by omega⟩, by omega, by omega⟩
    have hP9 : va_P (dC, dI) vwCl ([(h0, .inr (3, mX3 h1 h8 h17 h25 h26 h27 h28 h29 (upd v0 8 (v0 8)))), (h1, .inr (10, mX10 h2 h3 h4 h5 h6 h7 v1)), (h27, zi k27 400 f27), (h25, .inl (k25, 400, .inr (.inr (.inr (.inr f25))))), (h3, zi k3 400 f3), (h8, .inr (6, mX6 h9 h10 h11 h12 h13 h14 h15 h16 v8)), (h14, zi k14 400 f14), (h12, zi k12 400 f12), (h26, zi k26 400 f26)] ++ pl0) s.heap := hP
    have hD9 : va_D A ([(h0, .inr (3, mX3 h1 h8 h17 h25 h26 h27 h28 h29 (upd v0 8 (v0 8)))), (h1, .inr (10, mX10 h2 h3 h4 h5 h6 h7 v1)), (h27, zi k27 400 f27), (h25, .inl (k25, 400, .inr (.inr (.inr (.inr f25))))), (h3, zi k3 400 f3), (h8, .inr (6, mX6 h9 h10 h11 h12 h13 h14 h15 h16 v8)), (h14, zi k14 400 f14), (h12, zi k12 400 f12), (h26, zi k26 400 f26)] ++ pl0) := hD
    have hB0 : zRd h8 f25 pl0 := by assumption
    have hB1 : zKp h8 pl0 pl0 := by first | assumption | exact zKp_rf
    exact W.vret hx hb hr (fun t ht hW => ⟨⟨(fun i => ([(v0 8)] : List (Int32)).getD i 0), rfl, hpost, (fun _ => 0), (fun i => ([f27, f26] : List (Nat → Int32)).getD i (fun _ => 0)), (fun _ => (fun _ => 0)), (fun i => ([f25] : List (Nat → Option Nat)).getD i (fun _ => none)), pl0, hf26, hB0, hB1, by rw [ht]; exact hP9, va_K.moved hW.alike hK, hD9⟩, hS.F ht⟩) hS.2.2 dX3_want_34
  · skip
    have b_ := zF_lt rfl zk_0 c_
    refine lv_iload_n hx hb dX3_want_4 rfl (lv_at hl 1 rfl) ?_
    refine lv_aload_n hx hb dX3_want_5 rfl (lv_at hl 0 rfl) ?_
    refine va_get (D := (dC, dI)) (ci := 3) (v := .ref h1) (C := RX3) (T := TX3) (N := 10) hx hb hG zuX3 hown hK hP 0 rfl rfl 0 (by decide) (hG _ zv473) (fun _ h9 => h9) rfl dX3_want_6 ?_
    have hPc := hP.sub (ws' := [(h1, .inr (10, mX10 h2 h3 h4 h5 h6 h7 v1))]) [1] rfl
    have hDc := hD.sub (ws' := [(h1, .inr (10, mX10 h2 h3 h4 h5 h6 h7 v1))]) [1] (by decide) rfl
    have hKc := hK.sub (tys' := []) [] rfl
    have hFc := va_free (wc := [(h1, .inr (10, mX10 h2 h3 h4 h5 h6 h7 v1))]) hD hS hA [1] rfl
    refine va_calli (va_runV (As := []) (rest := [.int x1]) ⟨hx, hb, hml, hown, hG⟩ (sX10_size_0 l dC dI adK adV h1 h2 h3 h4 h5 h6 h7 s.heap.size v1 hv1) (cwV 0 hG (zgV zv1207 zv627 zv628 zv131 zv629) rfl rfl rfl (by decide +kernel) ⟨Nat.le_of_ble_eq_true rfl, Nat.le_of_ble_eq_true rfl⟩) ⟨zPc_blind, va_recv hKc hPc (ci := 10) (q0 := 0) rfl rfl, zPc_pre hPc hKc hDc hE hS hFc hZ⟩ rfl rfl hl.1 rfl (lv_room (Nat.le_of_ble_eq_true rfl)) dX3_want_9 ⟨Nat.le_of_ble_eq_true rfl, Nat.le_of_ble_eq_true rfl⟩) hS (fun q _ h => hFc q h) hFc (fun r9_ u9_ t H1 locs ht hvm hw hB hz1 hk1 hS => ?_)
    replace hw : (0 ≤ r9_.toInt ∧ r9_.toInt ≤ 400) ∧ (r9_.toInt = (v1 7).toInt) ∧ (r9_.toInt = (v1 7).toInt) := hw
    obtain ⟨b_, hX9_0, hX9_1⟩ := hw
    obtain ⟨w9_, a9_, b9_, hP1, hK1, hD1⟩ := hB
    rw [ht] at hP1
    obtain ⟨hP, hD⟩ := va_joinQ (wr := [(h0, .inr (3, mX3 h1 h8 h17 h25 h26 h27 h28 h29 v0)), (h27, zi k27 400 f27), (h25, .inl (k25, 400, .inr (.inr (.inr (.inr f25))))), (h3, zi k3 400 f3), (h8, .inr (6, mX6 h9 h10 h11 h12 h13 h14 h15 h16 v8)), (h14, zi k14 400 f14), (h12, zi k12 400 f12), (h26, zi k26 400 f26)]) (w1 := [(h1, .inr (10, mX10 h2 h3 h4 h5 h6 h7 v1))]) hP hD [1] [0, 2, 3, 4, 5, 6, 7, 8] rfl rfl (by decide) (by decide) hk1 hFc hP1 hD1
    have hP : va_P (dC, dI) vwCl ([(h0, .inr (3, mX3 h1 h8 h17 h25 h26 h27 h28 h29 v0)), (h1, .inr (10, mX10 h2 h3 h4 h5 h6 h7 v1)), (h27, zi k27 400 f27), (h25, .inl (k25, 400, .inr (.inr (.inr (.inr f25))))), (h3, zi k3 400 f3), (h8, .inr (6, mX6 h9 h10 h11 h12 h13 h14 h15 h16 v8)), (h14, zi k14 400 f14), (h12, zi k12 400 f12), (h26, zi k26 400 f26)] ++ pl0) H1 := hP.part [0, 8, 1, 2, 3, 4, 5, 6, 7] rfl
    have hD : va_D A ([(h0, .inr (3, mX3 h1 h8 h17 h25 h26 h27 h28 h29 v0)), (h1, .inr (10, mX10 h2 h3 h4 h5 h6 h7 v1)), (h27, zi k27 400 f27), (h25, .inl (k25, 400, .inr (.inr (.inr (.inr f25))))), (h3, zi k3 400 f3), (h8, .inr (6, mX6 h9 h10 h11 h12 h13 h14 h15 h16 v8)), (h14, zi k14 400 f14), (h12, zi k12 400 f12), (h26, zi k26 400 f26)] ++ pl0) := hD.part [0, 8, 1, 2, 3, 4, 5, 6, 7] (by decide) rfl
    generalize H1 = H at hP hS ⊢
    clear hz1
    refine lv_icmp_ge (tgt := 34) hx hb dX3_want_12 (by decide) (fun c_ => ?_) (fun c_ => ?_)
    · skip
      have b_ := zT_ge rfl rfl c_
      refine W.widen (k := 1) (n := 9) (by decide) (by decide) ?_
      have hpost : (0 ≤ (v0 8).toInt ∧ (v0 8).toInt ≤ 400) ∧ ((v0 8).toInt ≤ (v0 8).toInt) ∧ ((v0 8).toInt ≤ (v0 8).toInt + 1) := ⟨⟨by omega, by omega⟩, by omega, by omega⟩
      have hP9 : va_P (dC, dI) vwCl ([(h0, .inr (3, mX3 h1 h8 h17 h25 h26 h27 h28 h29 (upd v0 8 (v0 8)))), (h1, .inr (10, mX10 h2 h3 h4 h5 h6 h7 v1)), (h27, zi k27 400 f27), (h25, .inl (k25, 400, .inr (.inr (.inr (.inr f25))))), (h3, zi k3 400 f3), (h8, .inr (6, mX6 h9 h10 h11 h12 h13 h14 h15 h16 v8)), (h14, zi k14 400 f14), (h12, zi k12 400 f12), (h26, zi k26 400 f26)] ++ pl0) H := hP
      have hD9 : va_D A ([(h0, .inr (3, mX3 h1 h8 h17 h25 h26 h27 h28 h29 (upd v0 8 (v0 8)))), (h1, .inr (10, mX10 h2 h3 h4 h5 h6 h7 v1)), (h27, zi k27 400 f27), (h25, .inl (k25, 400, .inr (.inr (.inr (.inr f25))))), (h3, zi k3 400 f3), (h8, .inr (6, mX6 h9 h10 h11 h12 h13 h14 h15 h16 v8)), (h14, zi k14 400 f14), (h12, zi k12 400 f12), (h26, zi k26 400 f26)] ++ pl0) := hD
      have hB0 : zRd h8 f25 pl0 := by assumption
      have hB1 : zKp h8 pl0 pl0 := by first | assumption | exact zKp_rf
      exact W.vret hx hb hr (fun t ht hW => ⟨⟨(fun i => ([(v0 8)] : List (Int32)).getD i 0), rfl, hpost, (fun _ => 0), (fun i => ([f27, f26] : List (Nat → Int32)).getD i (fun _ => 0)), (fun _ => (fun _ => 0)), (fun i => ([f25] : List (Nat → Option Nat)).getD i (fun _ => none)), pl0, hf26, hB0, hB1, by rw [ht]; exact hP9, va_K.moved hW.alike hK, hD9⟩, hS.F ht⟩) hS.2.2 dX3_want_34
    · skip
      have b_ := zF_ge rfl rfl c_
      refine lv_aload_n hx hb dX3_want_15 rfl (lv_at hl 0 rfl) ?_
      refine va_get (D := (dC, dI)) (ci := 3) (v := .ref h27) (C := RX3) (T := TX3) (N := 10) hx hb hG zuX3 hown hK hP 0 rfl rfl 5 (by decide) (hG _ zv478) (fun _ h9 => h9) rfl dX3_want_16 ?_
      refine lv_iload_n hx hb dX3_want_19 rfl (lv_at hl 1 rfl) ?_
      refine va_zald hx hb hK hP 2 0 rfl rfl (zin_lit ⟨by omega, by omega⟩) dX3_want_20 ?_
      refine lv_topi (fun z20 e_z20 => ?_)
      have b_ : (f27 (x1 : Int32).toNatClampNeg).toInt = z20.toInt := congrArg Int32.toInt e_z20.symm
      have b_ : -2147483648 ≤ z20.toInt ∧ z20.toInt ≤ 2147483647 := ⟨zlo _, zhi _⟩
      refine lv_if_ne (tgt := 34) hx hb dX3_want_21 (by decide) (fun c_ => ?_) (fun c_ => ?_)
      · skip
        have b_ := zT_ne rfl zk_0 c_
        refine W.widen (k := 1) (n := 9) (by decide) (by decide) ?_
        have hpost : (0 ≤ (v0 8).toInt ∧ (v0 8).toInt ≤ 400) ∧ ((v0 8).toInt ≤ (v0 8).toInt) ∧ ((v0 8).toInt ≤ (v0 8).toInt + 1) := ⟨⟨by omega, by omega⟩, by omega, by omega⟩
        have hP9 : va_P (dC, dI) vwCl ([(h0, .inr (3, mX3 h1 h8 h17 h25 h26 h27 h28 h29 (upd v0 8 (v0 8)))), (h1, .inr (10, mX10 h2 h3 h4 h5 h6 h7 v1)), (h27, zi k27 400 f27), (h25, .inl (k25, 400, .inr (.inr (.inr (.inr f25))))), (h3, zi k3 400 f3), (h8, .inr (6, mX6 h9 h10 h11 h12 h13 h14 h15 h16 v8)), (h14, zi k14 400 f14), (h12, zi k12 400 f12), (h26, zi k26 400 f26)] ++ pl0) H := hP
        have hD9 : va_D A ([(h0, .inr (3, mX3 h1 h8 h17 h25 h26 h27 h28 h29 (upd v0 8 (v0 8)))), (h1, .inr (10, mX10 h2 h3 h4 h5 h6 h7 v1)), (h27, zi k27 400 f27), (h25, .inl (k25, 400, .inr (.inr (.inr (.inr f25))))), (h3, zi k3 400 f3), (h8, .inr (6, mX6 h9 h10 h11 h12 h13 h14 h15 h16 v8)), (h14, zi k14 400 f14), (h12, zi k12 400 f12), (h26, zi k26 400 f26)] ++ pl0) := hD
        have hB0 : zRd h8 f25 pl0 := by assumption
        have hB1 : zKp h8 pl0 pl0 := by first | assumption | exact zKp_rf
        exact W.vret hx hb hr (fun t ht hW => ⟨⟨(fun i => ([(v0 8)] : List (Int32)).getD i 0), rfl, hpost, (fun _ => 0), (fun i => ([f27, f26] : List (Nat → Int32)).getD i (fun _ => 0)), (fun _ => (fun _ => 0)), (fun i => ([f25] : List (Nat → Option Nat)).getD i (fun _ => none)), pl0, hf26, hB0, hB1, by rw [ht]; exact hP9, va_K.moved hW.alike hK, hD9⟩, hS.F ht⟩) hS.2.2 dX3_want_34
      · skip
        have b_ := zF_ne rfl zk_0 c_
        refine lv_aload_n hx hb dX3_want_24 rfl (lv_at hl 0 rfl) ?_
        refine va_get (D := (dC, dI)) (ci := 3) (v := .int (v0 8)) (C := RX3) (T := TX3) (N := 10) hx hb hG zuX3 hown hK hP 0 rfl rfl 8 (by decide) (hG _ zv481) (fun _ h9 => h9) rfl dX3_want_25 ?_
        refine lv_sipush (v := 400) hx hb dX3_want_28 (by decide) ?_
        refine lv_icmp_lt (tgt := 35) hx hb dX3_want_31 (by decide) (fun c_ => ?_) (fun c_ => ?_)
        · skip
          have b_ := zT_lt rfl zk_400 c_
          refine lv_aload_n hx hb dX3_want_35 rfl (lv_at hl 0 rfl) ?_
          refine va_get (D := (dC, dI)) (ci := 3) (v := .ref h27) (C := RX3) (T := TX3) (N := 10) hx hb hG zuX3 hown hK hP 0 rfl rfl 5 (by decide) (hG _ zv478) (fun _ h9 => h9) rfl dX3_want_36 ?_
          refine lv_iload_n hx hb dX3_want_39 rfl (lv_at hl 1 rfl) ?_
          refine lv_iconst (v := 1) hx hb dX3_want_40 (by decide) ?_
          refine va_zast hx hb hK hP hD hS 2 0 rfl rfl (zin_lit ⟨by omega, by omega⟩) dX3_want_41 (fun H locs hP hD hS => ?_)
          obtain ⟨f_41, e_f_41⟩ : ∃ z : Nat → Int32, z = upd f27 (x1 : Int32).toNatClampNeg (vp_nar .boolean 1) := ⟨_, rfl⟩
          have hP : va_P (dC, dI) vwCl ([(h0, .inr (3, mX3 h1 h8 h17 h25 h26 h27 h28 h29 v0)), (h1, .inr (10, mX10 h2 h3 h4 h5 h6 h7 v1)), (h27, zi k27 400 f_41), (h25, .inl (k25, 400, .inr (.inr (.inr (.inr f25))))), (h3, zi k3 400 f3), (h8, .inr (6, mX6 h9 h10 h11 h12 h13 h14 h15 h16 v8)), (h14, zi k14 400 f14), (h12, zi k12 400 f12), (h26, zi k26 400 f26)] ++ pl0) H := by rw [e_f_41]; exact hP
          have hD : va_D A ([(h0, .inr (3, mX3 h1 h8 h17 h25 h26 h27 h28 h29 v0)), (h1, .inr (10, mX10 h2 h3 h4 h5 h6 h7 v1)), (h27, zi k27 400 f_41), (h25, .inl (k25, 400, .inr (.inr (.inr (.inr f25))))), (h3, zi k3 400 f3), (h8, .inr (6, mX6 h9 h10 h11 h12 h13 h14 h15 h16 v8)), (h14, zi k14 400 f14), (h12, zi k12 400 f12), (h26, zi k26 400 f26)] ++ pl0) := by rw [e_f_41]; exact hD
          refine lv_aload_n hx hb dX3_want_42 rfl (lv_at hl 0 rfl) ?_
          refine va_get (D := (dC, dI)) (ci := 3) (v := .ref h25) (C := RX3) (T := TX3) (N := 10) hx hb hG zuX3 hown hK hP 0 rfl rfl 3 (by decide) (hG _ zv476) (fun _ h9 => h9) rfl dX3_want_43 ?_
          refine lv_aload_n hx hb dX3_want_46 rfl (lv_at hl 0 rfl) ?_
          refine va_get (D := (dC, dI)) (ci := 3) (v := .int (v0 8)) (C := RX3) (T := TX3) (N := 10) hx hb hG zuX3 hown hK hP 0 rfl rfl 8 (by decide) (hG _ zv481) (fun _ h9 => h9) rfl dX3_want_47 ?_
          refine va_aldq hx hb hK hP 3 1 rfl rfl (zin_lit ⟨by omega, by omega⟩) dX3_want_50 ?_
          refine lv_topq (fun o50 e_o50 => ?_)
          rcases o50 with _ | a50_
          · skip
            refine W.eq (g2 := F0 m 51 ls [.null]) rfl ?_
            refine zcutW (fun H locs ls u74_ w74_ a74_ b74_ => ∃ (q74_ : Nat → Nat → Option Nat) (pl74 : va_W), va_P (dC, dI) vwCl ([(h0, .inr (3, mX3 h1 h8 h17 h25 h26 h27 h28 h29 v0)), (h1, .inr (10, mX10 h2 h3 h4 h5 h6 h7 v1)), (h27, zi k27 400 f_41), (h25, .inl (k25, 400, .inr (.inr (.inr (.inr (q74_ 0)))))), (h3, zi k3 400 f3), (h8, .inr (6, mX6 h9 h10 h11 h12 h13 h14 h15 h16 v8)), (h14, zi k14 400 f14), (h12, zi k12 400 f12), (h26, zi k26 400 f26)] ++ pl74) H ∧ va_D A ([(h0, .inr (3, mX3 h1 h8 h17 h25 h26 h27 h28 h29 v0)), (h1, .inr (10, mX10 h2 h3 h4 h5 h6 h7 v1)), (h27, zi k27 400 f_41), (h25, .inl (k25, 400, .inr (.inr (.inr (.inr (q74_ 0)))))), (h3, zi k3 400 f3), (h8, .inr (6, mX6 h9 h10 h11 h12 h13 h14 h15 h16 v8)), (h14, zi k14 400 f14), (h12, zi k12 400 f12), (h26, zi k26 400 f26)] ++ pl74) ∧ va_S A s.heap H locs ∧ lv_has ls 2 [(0, .ref h0), (1, .int x1)] ∧ ((q74_ 0) (((v0 8) : Int32)).toNatClampNeg ≠ none) ∧ (zRd h8 (q74_ 0) pl74) ∧ (zKp h8 pl0 pl74)) (fun ls u74_ w74_ => F0 m 74 ls []) 1 9 ?_ (fun hJ74 => ?_)
            · skip
              intro H locs ls u74_ w74_ a74_ b74_ hc
              obtain ⟨q74_, pl74, hP, hD, hS, hl, hI74_0, hI74_1, hI74_2⟩ := hc
              refine lv_aload_n hx hb dX3_want_74 rfl (lv_at hl 0 rfl) ?_
              refine va_get (D := (dC, dI)) (ci := 3) (v := .ref h25) (C := RX3) (T := TX3) (N := 10) hx hb hG zuX3 hown hK hP 0 rfl rfl 3 (by decide) (hG _ zv476) (fun _ h9 => h9) rfl dX3_want_75 ?_
              refine lv_aload_n hx hb dX3_want_78 rfl (lv_at hl 0 rfl) ?_
              refine va_get (D := (dC, dI)) (ci := 3) (v := .int (v0 8)) (C := RX3) (T := TX3) (N := 10) hx hb hG zuX3 hown hK hP 0 rfl rfl 8 (by decide) (hG _ zv481) (fun _ h9 => h9) rfl dX3_want_79 ?_
              refine va_aldq hx hb hK hP 3 1 rfl rfl (zin_lit ⟨by omega, by omega⟩) dX3_want_82 ?_
              refine lv_topq (fun o82 e_o82 => ?_)
              rcases o82 with _ | a82_
              · skip
                exact absurd e_o82.symm (by assumption)
              · skip
                refine W.eq (g2 := F0 m 83 ls [.ref a82_]) rfl ?_
                have hnn_ : (q74_ 0) ((v0 8) : Int32).toNatClampNeg ≠ none := fun h => by rw [h] at e_o82; cases e_o82
                refine lv_aload_n hx hb dX3_want_83 rfl (lv_at hl 0 rfl) ?_
                refine va_get (D := (dC, dI)) (ci := 3) (v := .ref h1) (C := RX3) (T := TX3) (N := 10) hx hb hG zuX3 hown hK hP 0 rfl rfl 0 (by decide) (hG _ zv473) (fun _ h9 => h9) rfl dX3_want_84 ?_
                refine lv_iload_n hx hb dX3_want_87 rfl (lv_at hl 1 rfl) ?_
                have hPc := hP.sub (ws' := [(h1, .inr (10, mX10 h2 h3 h4 h5 h6 h7 v1)), (h3, zi k3 400 f3)]) [1, 4] rfl
                have hDc := hD.sub (ws' := [(h1, .inr (10, mX10 h2 h3 h4 h5 h6 h7 v1)), (h3, zi k3 400 f3)]) [1, 4] (by decide) rfl
                have hKc := hK.sub (tys' := [(k3, .int)]) [2] rfl
                have hFc := va_free (wc := [(h1, .inr (10, mX10 h2 h3 h4 h5 h6 h7 v1)), (h3, zi k3 400 f3)]) hD hS hA [1, 4] rfl
                refine va_calli (va_runV (As := [.int x1]) (rest := [.ref a82_]) ⟨hx, hb, hml, hown, hG⟩ (sX10_idAt_0 l dC dI adK adV h1 h3 h2 h4 h5 h6 h7 k3 H.size v1 f3 x1 hv1 hf3) (cwV 1 hG (zgV zv1209 zv753 zv754 zv131 zv755) rfl rfl rfl (by decide +kernel) ⟨Nat.le_of_ble_eq_true rfl, Nat.le_of_ble_eq_true rfl⟩) ⟨zPc_blind, va_recv hKc hPc (ci := 10) (q0 := 0) rfl rfl, zPc_pre hPc hKc hDc hE hS hFc hZ⟩ rfl rfl hl.1 rfl (lv_room (Nat.le_of_ble_eq_true rfl)) dX3_want_88 ⟨Nat.le_of_ble_eq_true rfl, Nat.le_of_ble_eq_true rfl⟩) hS (fun q _ h => hFc q h) hFc (fun r88_ u88_ t H1 locs ht hvm hw hB hz1 hk1 hS => ?_)
                replace hw : ((-1) ≤ r88_.toInt ∧ r88_.toInt ≤ 399) ∧ (0 ≤ x1.toInt ∧ x1.toInt < (v1 7).toInt → r88_.toInt = (f3 ((x1 : Int32)).toNatClampNeg).toInt) := hw
                obtain ⟨b_, hX88_0⟩ := hw
                obtain ⟨w88_, a88_, b88_, hP1, hK1, hD1⟩ := hB
                rw [ht] at hP1
                obtain ⟨hP, hD⟩ := va_joinQ (wr := [(h0, .inr (3, mX3 h1 h8 h17 h25 h26 h27 h28 h29 v0)), (h27, zi k27 400 f_41), (h25, .inl (k25, 400, .inr (.inr (.inr (.inr (q74_ 0)))))), (h8, .inr (6, mX6 h9 h10 h11 h12 h13 h14 h15 h16 v8)), (h14, zi k14 400 f14), (h12, zi k12 400 f12), (h26, zi k26 400 f26)]) (w1 := [(h1, .inr (10, mX10 h2 h3 h4 h5 h6 h7 v1)), (h3, zi k3 400 f3)]) hP hD [1, 4] [0, 2, 3, 5, 6, 7, 8] rfl rfl (by decide) (by decide) hk1 hFc hP1 hD1
                have hP : va_P (dC, dI) vwCl ([(h0, .inr (3, mX3 h1 h8 h17 h25 h26 h27 h28 h29 v0)), (h1, .inr (10, mX10 h2 h3 h4 h5 h6 h7 v1)), (h27, zi k27 400 f_41), (h25, .inl (k25, 400, .inr (.inr (.inr (.inr (q74_ 0)))))), (h3, zi k3 400 f3), (h8, .inr (6, mX6 h9 h10 h11 h12 h13 h14 h15 h16 v8)), (h14, zi k14 400 f14), (h12, zi k12 400 f12), (h26, zi k26 400 f26)] ++ pl74) H1 := hP.part [0, 7, 1, 2, 8, 3, 4, 5, 6] rfl
                have hD : va_D A ([(h0, .inr (3, mX3 h1 h8 h17 h25 h26 h27 h28 h29 v0)), (h1, .inr (10, mX10 h2 h3 h4 h5 h6 h7 v1)), (h27, zi k27 400 f_41), (h25, .inl (k25, 400, .inr (.inr (.inr (.inr (q74_ 0)))))), (h3, zi k3 400 f3), (h8, .inr (6, mX6 h9 h10 h11 h12 h13 h14 h15 h16 v8)), (h14, zi k14 400 f14), (h12, zi k12 400 f12), (h26, zi k26 400 f26)] ++ pl74) := hD.part [0, 7, 1, 2, 8, 3, 4, 5, 6] (by decide) rfl
                generalize H1 = H at hP hS ⊢
                clear hz1
                obtain ⟨v82_, hm82⟩ := (show zRd h8 (q74_ 0) pl74 from by assumption) _ (zltc (by omega) (by omega)) _ e_o82.symm
                obtain ⟨p82, q82, e_pl82⟩ := List.append_of_mem hm82
                rw [e_pl82] at hP hD
                have hP : va_P (dC, dI) vwCl ([(h0, .inr (3, mX3 h1 h8 h17 h25 h26 h27 h28 h29 v0)), (h1, .inr (10, mX10 h2 h3 h4 h5 h6 h7 v1)), (h27, zi k27 400 f_41), (h25, .inl (k25, 400, .inr (.inr (.inr (.inr (q74_ 0)))))), (h3, zi k3 400 f3), (h8, .inr (6, mX6 h9 h10 h11 h12 h13 h14 h15 h16 v8)), (h14, zi k14 400 f14), (h12, zi k12 400 f12), (h26, zi k26 400 f26), (a82_, .inr (8, mX8 h8 v82_))] ++ (p82 ++ q82)) H := zfocP hP
                have hD : va_D A ([(h0, .inr (3, mX3 h1 h8 h17 h25 h26 h27 h28 h29 v0)), (h1, .inr (10, mX10 h2 h3 h4 h5 h6 h7 v1)), (h27, zi k27 400 f_41), (h25, .inl (k25, 400, .inr (.inr (.inr (.inr (q74_ 0)))))), (h3, zi k3 400 f3), (h8, .inr (6, mX6 h9 h10 h11 h12 h13 h14 h15 h16 v8)), (h14, zi k14 400 f14), (h12, zi k12 400 f12), (h26, zi k26 400 f26), (a82_, .inr (8, mX8 h8 v82_))] ++ (p82 ++ q82)) := zfocD hD
                have hPc := hP.sub (ws' := [(a82_, .inr (8, mX8 h8 v82_)), (h8, .inr (6, mX6 h9 h10 h11 h12 h13 h14 h15 h16 v8)), (h14, zi k14 400 f14), (h12, zi k12 400 f12)]) [9, 5, 6, 7] rfl
                have hDc := hD.sub (ws' := [(a82_, .inr (8, mX8 h8 v82_)), (h8, .inr (6, mX6 h9 h10 h11 h12 h13 h14 h15 h16 v8)), (h14, zi k14 400 f14), (h12, zi k12 400 f12)]) [9, 5, 6, 7] (by decide) rfl
                have hKc := hK.sub (tys' := [(k14, .int), (k12, .int)]) [3, 4] rfl
                have hFc := va_free (wc := [(a82_, .inr (8, mX8 h8 v82_)), (h8, .inr (6, mX6 h9 h10 h11 h12 h13 h14 h15 h16 v8)), (h14, zi k14 400 f14), (h12, zi k12 400 f12)]) hD hS hA [9, 5, 6, 7] rfl
                refine va_callv (va_runV (As := [.int r88_]) (rest := []) ⟨hx, hb, hml, hown, hG⟩ (sX8_open_0 l dC dI adK adV a82_ h8 h14 h12 h9 h10 h11 h13 h15 h16 k14 k12 H.size v82_ v8 f14 f12 r88_ hv8) (cwV 1 hG (zgV zv1210 zv898 zv899 zv134 zv900) rfl rfl rfl (by decide +kernel) ⟨Nat.le_of_ble_eq_true rfl, Nat.le_of_ble_eq_true rfl⟩) ⟨zPc_blind, va_recv hKc hPc (ci := 8) (q0 := 0) rfl rfl, zPc_pre hPc hKc hDc hE hS hFc hZ⟩ rfl rfl hl.1 rfl (lv_room (Nat.le_of_ble_eq_true rfl)) dX3_want_91 ⟨Nat.le_of_ble_eq_true rfl, Nat.le_of_ble_eq_true rfl⟩) hS (fun q _ h => hFc q h) hFc (fun u91_ t H1 locs ht hvm hw hB hz1 hk1 hS => ?_)
                replace hw : (0 ≤ (u91_ 2).toInt ∧ (u91_ 2).toInt ≤ 0) ∧ (0 ≤ (u91_ 3).toInt ∧ (u91_ 3).toInt ≤ 0) ∧ ((-1) ≤ (u91_ 4).toInt ∧ (u91_ 4).toInt ≤ (-1)) ∧ (0 ≤ (u91_ 5).toInt ∧ (u91_ 5).toInt ≤ 0) ∧ (0 ≤ (u91_ 6).toInt ∧ (u91_ 6).toInt ≤ 0) := hw
                obtain ⟨b_, b_, b_, b_, b_⟩ := hw
                obtain ⟨w91_, a91_, b91_, hP1, hK1, hD1⟩ := hB
                rw [ht] at hP1
                obtain ⟨hP, hD⟩ := va_joinQ (wr := [(h0, .inr (3, mX3 h1 h8 h17 h25 h26 h27 h28 h29 v0)), (h1, .inr (10, mX10 h2 h3 h4 h5 h6 h7 v1)), (h27, zi k27 400 f_41), (h25, .inl (k25, 400, .inr (.inr (.inr (.inr (q74_ 0)))))), (h3, zi k3 400 f3), (h26, zi k26 400 f26)]) (w1 := [(a82_, .inr (8, mX8 h8 (upd (upd (upd (upd (upd (upd (upd v82_ 1 (u91_ 0)) 2 (u91_ 1)) 3 (u91_ 2)) 4 (u91_ 3)) 5 (u91_ 4)) 6 (u91_ 5)) 7 (u91_ 6)))), (h8, .inr (6, mX6 h9 h10 h11 h12 h13 h14 h15 h16 v8)), (h14, zi k14 400 f14), (h12, zi k12 400 f12)]) hP hD [9, 5, 6, 7] [0, 1, 2, 3, 4, 8] rfl rfl (by decide) (by decide) hk1 hFc hP1 hD1
                have hP : va_P (dC, dI) vwCl ([(h0, .inr (3, mX3 h1 h8 h17 h25 h26 h27 h28 h29 v0)), (h1, .inr (10, mX10 h2 h3 h4 h5 h6 h7 v1)), (h27, zi k27 400 f_41), (h25, .inl (k25, 400, .inr (.inr (.inr (.inr (q74_ 0)))))), (h3, zi k3 400 f3), (h8, .inr (6, mX6 h9 h10 h11 h12 h13 h14 h15 h16 v8)), (h14, zi k14 400 f14), (h12, zi k12 400 f12), (h26, zi k26 400 f26), (a82_, .inr (8, mX8 h8 (upd (upd (upd (upd (upd (upd (upd v82_ 1 (u91_ 0)) 2 (u91_ 1)) 3 (u91_ 2)) 4 (u91_ 3)) 5 (u91_ 4)) 6 (u91_ 5)) 7 (u91_ 6))))] ++ (p82 ++ q82)) H1 := hP.part [0, 1, 2, 3, 4, 7, 8, 9, 5, 6] rfl
                have hD : va_D A ([(h0, .inr (3, mX3 h1 h8 h17 h25 h26 h27 h28 h29 v0)), (h1, .inr (10, mX10 h2 h3 h4 h5 h6 h7 v1)), (h27, zi k27 400 f_41), (h25, .inl (k25, 400, .inr (.inr (.inr (.inr (q74_ 0)))))), (h3, zi k3 400 f3), (h8, .inr (6, mX6 h9 h10 h11 h12 h13 h14 h15 h16 v8)), (h14, zi k14 400 f14), (h12, zi k12 400 f12), (h26, zi k26 400 f26), (a82_, .inr (8, mX8 h8 (upd (upd (upd (upd (upd (upd (upd v82_ 1 (u91_ 0)) 2 (u91_ 1)) 3 (u91_ 2)) 4 (u91_ 3)) 5 (u91_ 4)) 6 (u91_ 5)) 7 (u91_ 6))))] ++ (p82 ++ q82)) := hD.part [0, 1, 2, 3, 4, 7, 8, 9, 5, 6] (by decide) rfl
                generalize H1 = H at hP hS ⊢
                clear hz1
                refine lv_aload_n hx hb dX3_want_94 rfl (lv_at hl 0 rfl) ?_
                refine va_get (D := (dC, dI)) (ci := 3) (v := .ref h26) (C := RX3) (T := TX3) (N := 10) hx hb hG zuX3 hown hK hP 0 rfl rfl 4 (by decide) (hG _ zv477) (fun _ h9 => h9) rfl dX3_want_95 ?_
                refine lv_aload_n hx hb dX3_want_98 rfl (lv_at hl 0 rfl) ?_
                refine va_get (D := (dC, dI)) (ci := 3) (v := .int (v0 8)) (C := RX3) (T := TX3) (N := 10) hx hb hG zuX3 hown hK hP 0 rfl rfl 8 (by decide) (hG _ zv481) (fun _ h9 => h9) rfl dX3_want_99 ?_
                refine lv_iload_n hx hb dX3_want_102 rfl (lv_at hl 1 rfl) ?_
                refine va_iast hx hb hK hP hD hS 8 5 rfl rfl (zin_lit ⟨by omega, by omega⟩) dX3_want_103 (fun H locs hP hD hS => ?_)
                obtain ⟨f_103, e_f_103⟩ : ∃ z : Nat → Int32, z = upd f26 ((v0 8) : Int32).toNatClampNeg x1 := ⟨_, rfl⟩
                have hP : va_P (dC, dI) vwCl ([(h0, .inr (3, mX3 h1 h8 h17 h25 h26 h27 h28 h29 v0)), (h1, .inr (10, mX10 h2 h3 h4 h5 h6 h7 v1)), (h27, zi k27 400 f_41), (h25, .inl (k25, 400, .inr (.inr (.inr (.inr (q74_ 0)))))), (h3, zi k3 400 f3), (h8, .inr (6, mX6 h9 h10 h11 h12 h13 h14 h15 h16 v8)), (h14, zi k14 400 f14), (h12, zi k12 400 f12), (h26, zi k26 400 f_103), (a82_, .inr (8, mX8 h8 (upd (upd (upd (upd (upd (upd (upd v82_ 1 (u91_ 0)) 2 (u91_ 1)) 3 (u91_ 2)) 4 (u91_ 3)) 5 (u91_ 4)) 6 (u91_ 5)) 7 (u91_ 6))))] ++ (p82 ++ q82)) H := by rw [e_f_103]; exact hP
                have hD : va_D A ([(h0, .inr (3, mX3 h1 h8 h17 h25 h26 h27 h28 h29 v0)), (h1, .inr (10, mX10 h2 h3 h4 h5 h6 h7 v1)), (h27, zi k27 400 f_41), (h25, .inl (k25, 400, .inr (.inr (.inr (.inr (q74_ 0)))))), (h3, zi k3 400 f3), (h8, .inr (6, mX6 h9 h10 h11 h12 h13 h14 h15 h16 v8)), (h14, zi k14 400 f14), (h12, zi k12 400 f12), (h26, zi k26 400 f_103), (a82_, .inr (8, mX8 h8 (upd (upd (upd (upd (upd (upd (upd v82_ 1 (u91_ 0)) 2 (u91_ 1)) 3 (u91_ 2)) 4 (u91_ 3)) 5 (u91_ 4)) 6 (u91_ 5)) 7 (u91_ 6))))] ++ (p82 ++ q82)) := by rw [e_f_103]; exact hD
                have hf_103 : zA 0 399 f_103 := by rw [e_f_103]; exact zA_upd hf26 (show 0 ≤ (x1 : Int32).toInt from by omega) (show (x1 : Int32).toInt ≤ 399 from by omega)
                refine lv_aload_n hx hb dX3_want_104 rfl (lv_at hl 0 rfl) ?_
                refine lv_dup hx hb dX3_want_105 rfl ?_
                refine va_get (D := (dC, dI)) (ci := 3) (v := .int (v0 8)) (C := RX3) (T := TX3) (N := 10) hx hb hG zuX3 hown hK hP 0 rfl rfl 8 (by decide) (hG _ zv481) (fun _ h9 => h9) rfl dX3_want_106 ?_
                refine lv_iconst (v := 1) hx hb dX3_want_109 (by decide) ?_
                refine lv_iadd hx hb dX3_want_110 ?_
                refine lv_topi (fun z110 e_z110 => ?_)
                have b_ := zadd rfl zk_1 e_z110 (by omega) (by omega)
                refine va_put (D := (dC, dI)) (ci := 3) (v := .int z110) (ty := .int) (C := RX3) (T := TX3) (N := 10) hx hb hG zuX3 tyX3 tyX3_ok nmX3 hown hK hP hD hS 0 rfl rfl 8 (by decide) (hG _ zv481) (fun _ h9 => h9) rfl (by decide +kernel) rfl rfl (Nat.le_of_ble_eq_true rfl) dX3_want_111 (fun H locs hP hD hS => ?_)
                have hP : va_P (dC, dI) vwCl ([(h0, .inr (3, mX3 h1 h8 h17 h25 h26 h27 h28 h29 (upd v0 8 z110))), (h1, .inr (10, mX10 h2 h3 h4 h5 h6 h7 v1)), (h27, zi k27 400 f_41), (h25, .inl (k25, 400, .inr (.inr (.inr (.inr (q74_ 0)))))), (h3, zi k3 400 f3), (h8, .inr (6, mX6 h9 h10 h11 h12 h13 h14 h15 h16 v8)), (h14, zi k14 400 f14), (h12, zi k12 400 f12), (h26, zi k26 400 f_103), (a82_, .inr (8, mX8 h8 (upd (upd (upd (upd (upd (upd (upd v82_ 1 (u91_ 0)) 2 (u91_ 1)) 3 (u91_ 2)) 4 (u91_ 3)) 5 (u91_ 4)) 6 (u91_ 5)) 7 (u91_ 6))))] ++ (p82 ++ q82)) H := hP
                have hD : va_D A ([(h0, .inr (3, mX3 h1 h8 h17 h25 h26 h27 h28 h29 (upd v0 8 z110))), (h1, .inr (10, mX10 h2 h3 h4 h5 h6 h7 v1)), (h27, zi k27 400 f_41), (h25, .inl (k25, 400, .inr (.inr (.inr (.inr (q74_ 0)))))), (h3, zi k3 400 f3), (h8, .inr (6, mX6 h9 h10 h11 h12 h13 h14 h15 h16 v8)), (h14, zi k14 400 f14), (h12, zi k12 400 f12), (h26, zi k26 400 f_103), (a82_, .inr (8, mX8 h8 (upd (upd (upd (upd (upd (upd (upd v82_ 1 (u91_ 0)) 2 (u91_ 1)) 3 (u91_ 2)) 4 (u91_ 3)) 5 (u91_ 4)) 6 (u91_ 5)) 7 (u91_ 6))))] ++ (p82 ++ q82)) := hD
                obtain ⟨plx5, e_plx5⟩ : ∃ z : va_W, z = (a82_, .inr (8, mX8 h8 (upd (upd (upd (upd (upd (upd (upd v82_ 1 (u91_ 0)) 2 (u91_ 1)) 3 (u91_ 2)) 4 (u91_ 3)) 5 (u91_ 4)) 6 (u91_ 5)) 7 (u91_ 6)))) :: (p82 ++ q82) := ⟨_, rfl⟩
                have hP : va_P (dC, dI) vwCl ([(h0, .inr (3, mX3 h1 h8 h17 h25 h26 h27 h28 h29 (upd v0 8 z110))), (h1, .inr (10, mX10 h2 h3 h4 h5 h6 h7 v1)), (h27, zi k27 400 f_41), (h25, .inl (k25, 400, .inr (.inr (.inr (.inr (q74_ 0)))))), (h3, zi k3 400 f3), (h8, .inr (6, mX6 h9 h10 h11 h12 h13 h14 h15 h16 v8)), (h14, zi k14 400 f14), (h12, zi k12 400 f12), (h26, zi k26 400 f_103)] ++ plx5) H := by rw [e_plx5]; exact hP
                have hD : va_D A ([(h0, .inr (3, mX3 h1 h8 h17 h25 h26 h27 h28 h29 (upd v0 8 z110))), (h1, .inr (10, mX10 h2 h3 h4 h5 h6 h7 v1)), (h27, zi k27 400 f_41), (h25, .inl (k25, 400, .inr (.inr (.inr (.inr (q74_ 0)))))), (h3, zi k3 400 f3), (h8, .inr (6, mX6 h9 h10 h11 h12 h13 h14 h15 h16 v8)), (h14, zi k14 400 f14), (h12, zi k12 400 f12), (h26, zi k26 400 f_103)] ++ plx5) := by rw [e_plx5]; exact hD
                have hpl_ : zRd h8 (q74_ 0) plx5 := by rw [e_plx5]; exact zRd_put (show zRd h8 (q74_ 0) pl74 from by first | assumption | exact zKp_rf | exact zOt_rf) e_pl82
                have hpl_ : zKp h8 pl0 plx5 := by rw [e_plx5]; exact zKp_put (show zKp h8 pl0 pl74 from by first | assumption | exact zKp_rf | exact zOt_rf) e_pl82
                refine W.widen (k := 1) (n := 9) (by decide) (by decide) ?_
                have hpost : (0 ≤ z110.toInt ∧ z110.toInt ≤ 400) ∧ ((v0 8).toInt ≤ z110.toInt) ∧ (z110.toInt ≤ (v0 8).toInt + 1) := ⟨⟨by omega, by omega⟩, by omega, by omega⟩
                have hP9 : va_P (dC, dI) vwCl ([(h0, .inr (3, mX3 h1 h8 h17 h25 h26 h27 h28 h29 (upd v0 8 z110))), (h1, .inr (10, mX10 h2 h3 h4 h5 h6 h7 v1)), (h27, zi k27 400 f_41), (h25, .inl (k25, 400, .inr (.inr (.inr (.inr (q74_ 0)))))), (h3, zi k3 400 f3), (h8, .inr (6, mX6 h9 h10 h11 h12 h13 h14 h15 h16 v8)), (h14, zi k14 400 f14), (h12, zi k12 400 f12), (h26, zi k26 400 f_103)] ++ plx5) H := hP
                have hD9 : va_D A ([(h0, .inr (3, mX3 h1 h8 h17 h25 h26 h27 h28 h29 (upd v0 8 z110))), (h1, .inr (10, mX10 h2 h3 h4 h5 h6 h7 v1)), (h27, zi k27 400 f_41), (h25, .inl (k25, 400, .inr (.inr (.inr (.inr (q74_ 0)))))), (h3, zi k3 400 f3), (h8, .inr (6, mX6 h9 h10 h11 h12 h13 h14 h15 h16 v8)), (h14, zi k14 400 f14), (h12, zi k12 400 f12), (h26, zi k26 400 f_103)] ++ plx5) := hD
                have hB0 : zRd h8 (q74_ 0) plx5 := by assumption
                have hB1 : zKp h8 pl0 plx5 := by first | assumption | exact zKp_rf
                exact W.vret hx hb hr (fun t ht hW => ⟨⟨(fun i => ([z110] : List (Int32)).getD i 0), rfl, hpost, (fun _ => 0), (fun i => ([f_41, f_103] : List (Nat → Int32)).getD i (fun _ => 0)), (fun _ => (fun _ => 0)), (fun i => ([(q74_ 0)] : List (Nat → Option Nat)).getD i (fun _ => none)), plx5, hf_103, hB0, hB1, by rw [ht]; exact hP9, va_K.moved hW.alike hK, hD9⟩, hS.F ht⟩) hS.2.2 dX3_want_114
            · skip
              refine lv_ifnonnullN hx hb dX3_want_51 ?_
              refine lv_aload_n hx hb dX3_want_54 rfl (lv_at hl 0 rfl) ?_
              refine va_get (D := (dC, dI)) (ci := 3) (v := .ref h25) (C := RX3) (T := TX3) (N := 10) hx hb hG zuX3 hown hK hP 0 rfl rfl 3 (by decide) (hG _ zv476) (fun _ h9 => h9) rfl dX3_want_55 ?_
              refine lv_aload_n hx hb dX3_want_58 rfl (lv_at hl 0 rfl) ?_
              refine va_get (D := (dC, dI)) (ci := 3) (v := .int (v0 8)) (C := RX3) (T := TX3) (N := 10) hx hb hG zuX3 hown hK hP 0 rfl rfl 8 (by decide) (hG _ zv481) (fun _ h9 => h9) rfl dX3_want_59 ?_
              refine va_new (ci := 8) (fs := [.null, .int 0, .int 0, .int 0, .int 0, .int 0, .int 0, .int 0, .int 0]) (C := RX8) (T := TX8) (N := 9) hx hb hG zuX8 tyX8 tyX8_ok hown (hG _ zv468) (hG _ zv286) (hG _ zv134) hK hP hD hS hA rfl (by decide +kernel) (Nat.le_of_ble_eq_true rfl) (Nat.le_of_ble_eq_true rfl) dX3_want_62 (fun q62_ H hP hD hS => ?_)
              have hP : va_P (dC, dI) vwCl ([(h0, .inr (3, mX3 h1 h8 h17 h25 h26 h27 h28 h29 v0)), (h1, .inr (10, mX10 h2 h3 h4 h5 h6 h7 v1)), (h27, zi k27 400 f_41), (h25, .inl (k25, 400, .inr (.inr (.inr (.inr f25))))), (h3, zi k3 400 f3), (h8, .inr (6, mX6 h9 h10 h11 h12 h13 h14 h15 h16 v8)), (h14, zi k14 400 f14), (h12, zi k12 400 f12), (h26, zi k26 400 f26), (q62_, .inr (8, [.null, .int 0, .int 0, .int 0, .int 0, .int 0, .int 0, .int 0, .int 0]))] ++ pl0) H := va_P.swap hP
              have hD : va_D A ([(h0, .inr (3, mX3 h1 h8 h17 h25 h26 h27 h28 h29 v0)), (h1, .inr (10, mX10 h2 h3 h4 h5 h6 h7 v1)), (h27, zi k27 400 f_41), (h25, .inl (k25, 400, .inr (.inr (.inr (.inr f25))))), (h3, zi k3 400 f3), (h8, .inr (6, mX6 h9 h10 h11 h12 h13 h14 h15 h16 v8)), (h14, zi k14 400 f14), (h12, zi k12 400 f12), (h26, zi k26 400 f26), (q62_, .inr (8, [.null, .int 0, .int 0, .int 0, .int 0, .int 0, .int 0, .int 0, .int 0]))] ++ pl0) := va_D.swap hD
              refine lv_dup hx hb dX3_want_65 rfl ?_
              refine lv_aload_n hx hb dX3_want_66 rfl (lv_at hl 0 rfl) ?_
              refine va_get (D := (dC, dI)) (ci := 3) (v := .ref h8) (C := RX3) (T := TX3) (N := 10) hx hb hG zuX3 hown hK hP 0 rfl rfl 1 (by decide) (hG _ zv474) (fun _ h9 => h9) rfl dX3_want_67 ?_
              have hPc := hP.sub (ws' := [(q62_, .inr (8, [.null, .int 0, .int 0, .int 0, .int 0, .int 0, .int 0, .int 0, .int 0]))]) [9] rfl
              have hDc := hD.sub (ws' := [(q62_, .inr (8, [.null, .int 0, .int 0, .int 0, .int 0, .int 0, .int 0, .int 0, .int 0]))]) [9] (by decide) rfl
              have hKc := hK.sub (tys' := []) [] rfl
              have hFc := va_free (wc := [(q62_, .inr (8, [.null, .int 0, .int 0, .int 0, .int 0, .int 0, .int 0, .int 0, .int 0]))]) hD hS hA [9] rfl
              refine va_callv (va_runI (As := [.ref h8]) (rest := [.ref q62_, .int (v0 8), .ref h25]) ⟨hx, hb, hml, hown, hG⟩ (kX8_init_0 l dC dI adK adV q62_ h8 H.size) (cwI 1 hG (zgI zv289) rfl rfl rfl (hG _ zv134) (hG _ zv1208) (hG _ zv288) rfl (by decide +kernel) ⟨Nat.le_of_ble_eq_true rfl, Nat.le_of_ble_eq_true rfl⟩) ⟨zPc_blind, zPc_pre hPc hKc hDc hE hS hFc hZ⟩ rfl rfl hl.1 rfl (lv_room (Nat.le_of_ble_eq_true rfl)) dX3_want_70 ⟨Nat.le_of_ble_eq_true rfl, Nat.le_of_ble_eq_true rfl⟩) hS (fun q _ h => hFc q h) hFc (fun u70_ t H1 locs ht hvm hw hB hz1 hk1 hS => ?_)
              obtain ⟨hP1, hK1, hD1⟩ := hB
              rw [ht] at hP1
              have hP1 : va_P (dC, dI) vwCl [(q62_, .inr (8, mX8 h8 (fun i => ([0, 0, -1, 0, 0, -1, 0, 0, -1] : List Int32).getD i 0)))] H1 := hP1
              have hD1 : va_D _ [(q62_, .inr (8, mX8 h8 (fun i => ([0, 0, -1, 0, 0, -1, 0, 0, -1] : List Int32).getD i 0)))] := hD1
              obtain ⟨hP, hD⟩ := va_joinQ (wr := [(h0, .inr (3, mX3 h1 h8 h17 h25 h26 h27 h28 h29 v0)), (h1, .inr (10, mX10 h2 h3 h4 h5 h6 h7 v1)), (h27, zi k27 400 f_41), (h25, .inl (k25, 400, .inr (.inr (.inr (.inr f25))))), (h3, zi k3 400 f3), (h8, .inr (6, mX6 h9 h10 h11 h12 h13 h14 h15 h16 v8)), (h14, zi k14 400 f14), (h12, zi k12 400 f12), (h26, zi k26 400 f26)]) (w1 := [(q62_, .inr (8, mX8 h8 (fun i => ([0, 0, -1, 0, 0, -1, 0, 0, -1] : List Int32).getD i 0)))]) hP hD [9] [0, 1, 2, 3, 4, 5, 6, 7, 8] rfl rfl (by decide) (by decide) hk1 hFc hP1 hD1
              have hP : va_P (dC, dI) vwCl ([(h0, .inr (3, mX3 h1 h8 h17 h25 h26 h27 h28 h29 v0)), (h1, .inr (10, mX10 h2 h3 h4 h5 h6 h7 v1)), (h27, zi k27 400 f_41), (h25, .inl (k25, 400, .inr (.inr (.inr (.inr f25))))), (h3, zi k3 400 f3), (h8, .inr (6, mX6 h9 h10 h11 h12 h13 h14 h15 h16 v8)), (h14, zi k14 400 f14), (h12, zi k12 400 f12), (h26, zi k26 400 f26), (q62_, .inr (8, mX8 h8 (fun i => ([0, 0, -1, 0, 0, -1, 0, 0, -1] : List Int32).getD i 0)))] ++ pl0) H1 := hP.part [0, 1, 2, 3, 4, 5, 6, 7, 8, 9] rfl
              have hD : va_D A ([(h0, .inr (3, mX3 h1 h8 h17 h25 h26 h27 h28 h29 v0)), (h1, .inr (10, mX10 h2 h3 h4 h5 h6 h7 v1)), (h27, zi k27 400 f_41), (h25, .inl (k25, 400, .inr (.inr (.inr (.inr f25))))), (h3, zi k3 400 f3), (h8, .inr (6, mX6 h9 h10 h11 h12 h13 h14 h15 h16 v8)), (h14, zi k14 400 f14), (h12, zi k12 400 f12), (h26, zi k26 400 f26), (q62_, .inr (8, mX8 h8 (fun i => ([0, 0, -1, 0, 0, -1, 0, 0, -1] : List Int32).getD i 0)))] ++ pl0) := hD.part [0, 1, 2, 3, 4, 5, 6, 7, 8, 9] (by decide) rfl
              generalize H1 = H at hP hS ⊢
              clear hz1
              refine va_astq hx hb hK hP hD hS 3 1 9 8 rfl rfl rfl rfl (zin_lit ⟨by omega, by omega⟩) dX3_want_73 (fun H locs hP hD hS => ?_)
              obtain ⟨f_73, e_f_73⟩ : ∃ z : Nat → Option Nat, z = va_up f25 ((v0 8) : Int32).toNatClampNeg (some q62_) := ⟨_, rfl⟩
              have hP : va_P (dC, dI) vwCl ([(h0, .inr (3, mX3 h1 h8 h17 h25 h26 h27 h28 h29 v0)), (h1, .inr (10, mX10 h2 h3 h4 h5 h6 h7 v1)), (h27, zi k27 400 f_41), (h25, .inl (k25, 400, .inr (.inr (.inr (.inr f_73))))), (h3, zi k3 400 f3), (h8, .inr (6, mX6 h9 h10 h11 h12 h13 h14 h15 h16 v8)), (h14, zi k14 400 f14), (h12, zi k12 400 f12), (h26, zi k26 400 f26), (q62_, .inr (8, mX8 h8 (fun i => ([0, 0, -1, 0, 0, -1, 0, 0, -1] : List Int32).getD i 0)))] ++ pl0) H := by rw [e_f_73]; exact hP
              have hD : va_D A ([(h0, .inr (3, mX3 h1 h8 h17 h25 h26 h27 h28 h29 v0)), (h1, .inr (10, mX10 h2 h3 h4 h5 h6 h7 v1)), (h27, zi k27 400 f_41), (h25, .inl (k25, 400, .inr (.inr (.inr (.inr f_73))))), (h3, zi k3 400 f3), (h8, .inr (6, mX6 h9 h10 h11 h12 h13 h14 h15 h16 v8)), (h14, zi k14 400 f14), (h12, zi k12 400 f12), (h26, zi k26 400 f26), (q62_, .inr (8, mX8 h8 (fun i => ([0, 0, -1, 0, 0, -1, 0, 0, -1] : List Int32).getD i 0)))] ++ pl0) := by rw [e_f_73]; exact hD
              obtain ⟨plx6, e_plx6⟩ : ∃ z : va_W, z = (q62_, .inr (8, mX8 h8 (fun i => ([0, 0, -1, 0, 0, -1, 0, 0, -1] : List Int32).getD i 0))) :: pl0 := ⟨_, rfl⟩
              have hP : va_P (dC, dI) vwCl ([(h0, .inr (3, mX3 h1 h8 h17 h25 h26 h27 h28 h29 v0)), (h1, .inr (10, mX10 h2 h3 h4 h5 h6 h7 v1)), (h27, zi k27 400 f_41), (h25, .inl (k25, 400, .inr (.inr (.inr (.inr f_73))))), (h3, zi k3 400 f3), (h8, .inr (6, mX6 h9 h10 h11 h12 h13 h14 h15 h16 v8)), (h14, zi k14 400 f14), (h12, zi k12 400 f12), (h26, zi k26 400 f26)] ++ plx6) H := by rw [e_plx6]; exact hP
              have hD : va_D A ([(h0, .inr (3, mX3 h1 h8 h17 h25 h26 h27 h28 h29 v0)), (h1, .inr (10, mX10 h2 h3 h4 h5 h6 h7 v1)), (h27, zi k27 400 f_41), (h25, .inl (k25, 400, .inr (.inr (.inr (.inr f_73))))), (h3, zi k3 400 f3), (h8, .inr (6, mX6 h9 h10 h11 h12 h13 h14 h15 h16 v8)), (h14, zi k14 400 f14), (h12, zi k12 400 f12), (h26, zi k26 400 f26)] ++ plx6) := by rw [e_plx6]; exact hD
              have hpl_ : zRd h8 f_73 plx6 := by rw [e_plx6, e_f_73]; exact zRd_newR (show zRd h8 f25 pl0 from by first | assumption | exact zKp_rf | exact zOt_rf)
              have hpl_ : zKp h8 pl0 plx6 := by rw [e_plx6]; exact zKp_newR (show zKp h8 pl0 pl0 from by first | assumption | exact zKp_rf | exact zOt_rf)
              have hc : va_P (dC, dI) vwCl ([(h0, .inr (3, mX3 h1 h8 h17 h25 h26 h27 h28 h29 v0)), (h1, .inr (10, mX10 h2 h3 h4 h5 h6 h7 v1)), (h27, zi k27 400 f_41), (h25, .inl (k25, 400, .inr (.inr (.inr (.inr f_73))))), (h3, zi k3 400 f3), (h8, .inr (6, mX6 h9 h10 h11 h12 h13 h14 h15 h16 v8)), (h14, zi k14 400 f14), (h12, zi k12 400 f12), (h26, zi k26 400 f26)] ++ plx6) H ∧ va_D A ([(h0, .inr (3, mX3 h1 h8 h17 h25 h26 h27 h28 h29 v0)), (h1, .inr (10, mX10 h2 h3 h4 h5 h6 h7 v1)), (h27, zi k27 400 f_41), (h25, .inl (k25, 400, .inr (.inr (.inr (.inr f_73))))), (h3, zi k3 400 f3), (h8, .inr (6, mX6 h9 h10 h11 h12 h13 h14 h15 h16 v8)), (h14, zi k14 400 f14), (h12, zi k12 400 f12), (h26, zi k26 400 f26)] ++ plx6) ∧ va_S A s.heap H locs ∧ lv_has ls 2 [(0, .ref h0), (1, .int x1)] ∧ (f_73 (((v0 8) : Int32)).toNatClampNeg ≠ none) ∧ (zRd h8 f_73 plx6) ∧ (zKp h8 pl0 plx6) := ⟨hP, hD, hS, lv_sub hl [0, 1] rfl, by first | (rw [e_f_73, va_up_self]; exact fun h => by cases h) | exact fun h => by (rw [h] at e_o50; cases e_o50), by assumption, by first | assumption | exact zKp_rf⟩
              exact hJ74 H locs ls (fun _ => 0) (fun _ => 0) (fun _ => (fun _ => 0)) (fun _ => (fun _ => 0)) ⟨(fun i => ([f_73] : List (Nat → Option Nat)).getD i (fun _ => none)), plx6, hc⟩
          · skip
            refine W.eq (g2 := F0 m 51 ls [.ref a50_]) rfl ?_
            have hnn_ : f25 ((v0 8) : Int32).toNatClampNeg ≠ none := fun h => by rw [h] at e_o50; cases e_o50
            refine zcutW (fun H locs ls u74_ w74_ a74_ b74_ => ∃ (q74_ : Nat → Nat → Option Nat) (pl74 : va_W), va_P (dC, dI) vwCl ([(h0, .inr (3, mX3 h1 h8 h17 h25 h26 h27 h28 h29 v0)), (h1, .inr (10, mX10 h2 h3 h4 h5 h6 h7 v1)), (h27, zi k27 400 f_41), (h25, .inl (k25, 400, .inr (.inr (.inr (.inr (q74_ 0)))))), (h3, zi k3 400 f3), (h8, .inr (6, mX6 h9 h10 h11 h12 h13 h14 h15 h16 v8)), (h14, zi k14 400 f14), (h12, zi k12 400 f12), (h26, zi k26 400 f26)] ++ pl74) H ∧ va_D A ([(h0, .inr (3, mX3 h1 h8 h17 h25 h26 h27 h28 h29 v0)), (h1, .inr (10, mX10 h2 h3 h4 h5 h6 h7 v1)), (h27, zi k27 400 f_41), (h25, .inl (k25, 400, .inr (.inr (.inr (.inr (q74_ 0)))))), (h3, zi k3 400 f3), (h8, .inr (6, mX6 h9 h10 h11 h12 h13 h14 h15 h16 v8)), (h14, zi k14 400 f14), (h12, zi k12 400 f12), (h26, zi k26 400 f26)] ++ pl74) ∧ va_S A s.heap H locs ∧ lv_has ls 2 [(0, .ref h0), (1, .int x1)] ∧ ((q74_ 0) (((v0 8) : Int32)).toNatClampNeg ≠ none) ∧ (zRd h8 (q74_ 0) pl74) ∧ (zKp h8 pl0 pl74)) (fun ls u74_ w74_ => F0 m 74 ls []) 1 9 ?_ (fun hJ74 => ?_)
            · skip
              intro H locs ls u74_ w74_ a74_ b74_ hc
              obtain ⟨q74_, pl74, hP, hD, hS, hl, hI74_0, hI74_1, hI74_2⟩ := hc
              refine lv_aload_n hx hb dX3_want_74 rfl (lv_at hl 0 rfl) ?_
              refine va_get (D := (dC, dI)) (ci := 3) (v := .ref h25) (C := RX3) (T := TX3) (N := 10) hx hb hG zuX3 hown hK hP 0 rfl rfl 3 (by decide) (hG _ zv476) (fun _ h9 => h9) rfl dX3_want_75 ?_
              refine lv_aload_n hx hb dX3_want_78 rfl (lv_at hl 0 rfl) ?_
              refine va_get (D := (dC, dI)) (ci := 3) (v := .int (v0 8)) (C := RX3) (T := TX3) (N := 10) hx hb hG zuX3 hown hK hP 0 rfl rfl 8 (by decide) (hG _ zv481) (fun _ h9 => h9) rfl dX3_want_79 ?_
              refine va_aldq hx hb hK hP 3 1 rfl rfl (zin_lit ⟨by omega, by omega⟩) dX3_want_82 ?_
              refine lv_topq (fun o82 e_o82 => ?_)
              rcases o82 with _ | a82_
              · skip
                exact absurd e_o82.symm (by assumption)
              · skip
                refine W.eq (g2 := F0 m 83 ls [.ref a82_]) rfl ?_
                have hnn_ : (q74_ 0) ((v0 8) : Int32).toNatClampNeg ≠ none := fun h => by rw [h] at e_o82; cases e_o82
                refine lv_aload_n hx hb dX3_want_83 rfl (lv_at hl 0 rfl) ?_
                refine va_get (D := (dC, dI)) (ci := 3) (v := .ref h1) (C := RX3) (T := TX3) (N := 10) hx hb hG zuX3 hown hK hP 0 rfl rfl 0 (by decide) (hG _ zv473) (fun _ h9 => h9) rfl dX3_want_84 ?_
                refine lv_iload_n hx hb dX3_want_87 rfl (lv_at hl 1 rfl) ?_
                have hPc := hP.sub (ws' := [(h1, .inr (10, mX10 h2 h3 h4 h5 h6 h7 v1)), (h3, zi k3 400 f3)]) [1, 4] rfl
                have hDc := hD.sub (ws' := [(h1, .inr (10, mX10 h2 h3 h4 h5 h6 h7 v1)), (h3, zi k3 400 f3)]) [1, 4] (by decide) rfl
                have hKc := hK.sub (tys' := [(k3, .int)]) [2] rfl
                have hFc := va_free (wc := [(h1, .inr (10, mX10 h2 h3 h4 h5 h6 h7 v1)), (h3, zi k3 400 f3)]) hD hS hA [1, 4] rfl
                refine va_calli (va_runV (As := [.int x1]) (rest := [.ref a82_]) ⟨hx, hb, hml, hown, hG⟩ (sX10_idAt_0 l dC dI adK adV h1 h3 h2 h4 h5 h6 h7 k3 H.size v1 f3 x1 hv1 hf3) (cwV 1 hG (zgV zv1209 zv753 zv754 zv131 zv755) rfl rfl rfl (by decide +kernel) ⟨Nat.le_of_ble_eq_true rfl, Nat.le_of_ble_eq_true rfl⟩) ⟨zPc_blind, va_recv hKc hPc (ci := 10) (q0 := 0) rfl rfl, zPc_pre hPc hKc hDc hE hS hFc hZ⟩ rfl rfl hl.1 rfl (lv_room (Nat.le_of_ble_eq_true rfl)) dX3_want_88 ⟨Nat.le_of_ble_eq_true rfl, Nat.le_of_ble_eq_true rfl⟩) hS (fun q _ h => hFc q h) hFc (fun r88_ u88_ t H1 locs ht hvm hw hB hz1 hk1 hS => ?_)
                replace hw : ((-1) ≤ r88_.toInt ∧ r88_.toInt ≤ 399) ∧ (0 ≤ x1.toInt ∧ x1.toInt < (v1 7).toInt → r88_.toInt = (f3 ((x1 : Int32)).toNatClampNeg).toInt) := hw
                obtain ⟨b_, hX88_0⟩ := hw
                obtain ⟨w88_, a88_, b88_, hP1, hK1, hD1⟩ := hB
                rw [ht] at hP1
                obtain ⟨hP, hD⟩ := va_joinQ (wr := [(h0, .inr (3, mX3 h1 h8 h17 h25 h26 h27 h28 h29 v0)), (h27, zi k27 400 f_41), (h25, .inl (k25, 400, .inr (.inr (.inr (.inr (q74_ 0)))))), (h8, .inr (6, mX6 h9 h10 h11 h12 h13 h14 h15 h16 v8)), (h14, zi k14 400 f14), (h12, zi k12 400 f12), (h26, zi k26 400 f26)]) (w1 := [(h1, .inr (10, mX10 h2 h3 h4 h5 h6 h7 v1)), (h3, zi k3 400 f3)]) hP hD [1, 4] [0, 2, 3, 5, 6, 7, 8] rfl rfl (by decide) (by decide) hk1 hFc hP1 hD1
                have hP : va_P (dC, dI) vwCl ([(h0, .inr (3, mX3 h1 h8 h17 h25 h26 h27 h28 h29 v0)), (h1, .inr (10, mX10 h2 h3 h4 h5 h6 h7 v1)), (h27, zi k27 400 f_41), (h25, .inl (k25, 400, .inr (.inr (.inr (.inr (q74_ 0)))))), (h3, zi k3 400 f3), (h8, .inr (6, mX6 h9 h10 h11 h12 h13 h14 h15 h16 v8)), (h14, zi k14 400 f14), (h12, zi k12 400 f12), (h26, zi k26 400 f26)] ++ pl74) H1 := hP.part [0, 7, 1, 2, 8, 3, 4, 5, 6] rfl
                have hD : va_D A ([(h0, .inr (3, mX3 h1 h8 h17 h25 h26 h27 h28 h29 v0)), (h1, .inr (10, mX10 h2 h3 h4 h5 h6 h7 v1)), (h27, zi k27 400 f_41), (h25, .inl (k25, 400, .inr (.inr (.inr (.inr (q74_ 0)))))), (h3, zi k3 400 f3), (h8, .inr (6, mX6 h9 h10 h11 h12 h13 h14 h15 h16 v8)), (h14, zi k14 400 f14), (h12, zi k12 400 f12), (h26, zi k26 400 f26)] ++ pl74) := hD.part [0, 7, 1, 2, 8, 3, 4, 5, 6] (by decide) rfl
                generalize H1 = H at hP hS ⊢
                clear hz1
                obtain ⟨v82_, hm82⟩ := (show zRd h8 (q74_ 0) pl74 from by assumption) _ (zltc (by omega) (by omega)) _ e_o82.symm
                obtain ⟨p82, q82, e_pl82⟩ := List.append_of_mem hm82
                rw [e_pl82] at hP hD
                have hP : va_P (dC, dI) vwCl ([(h0, .inr (3, mX3 h1 h8 h17 h25 h26 h27 h28 h29 v0)), (h1, .inr (10, mX10 h2 h3 h4 h5 h6 h7 v1)), (h27, zi k27 400 f_41), (h25, .inl (k25, 400, .inr (.inr (.inr (.inr (q74_ 0)))))), (h3, zi k3 400 f3), (h8, .inr (6, mX6 h9 h10 h11 h12 h13 h14 h15 h16 v8)), (h14, zi k14 400 f14), (h12, zi k12 400 f12), (h26, zi k26 400 f26), (a82_, .inr (8, mX8 h8 v82_))] ++ (p82 ++ q82)) H := zfocP hP
                have hD : va_D A ([(h0, .inr (3, mX3 h1 h8 h17 h25 h26 h27 h28 h29 v0)), (h1, .inr (10, mX10 h2 h3 h4 h5 h6 h7 v1)), (h27, zi k27 400 f_41), (h25, .inl (k25, 400, .inr (.inr (.inr (.inr (q74_ 0)))))), (h3, zi k3 400 f3), (h8, .inr (6, mX6 h9 h10 h11 h12 h13 h14 h15 h16 v8)), (h14, zi k14 400 f14), (h12, zi k12 400 f12), (h26, zi k26 400 f26), (a82_, .inr (8, mX8 h8 v82_))] ++ (p82 ++ q82)) := zfocD hD
                have hPc := hP.sub (ws' := [(a82_, .inr (8, mX8 h8 v82_)), (h8, .inr (6, mX6 h9 h10 h11 h12 h13 h14 h15 h16 v8)), (h14, zi k14 400 f14), (h12, zi k12 400 f12)]) [9, 5, 6, 7] rfl
                have hDc := hD.sub (ws' := [(a82_, .inr (8, mX8 h8 v82_)), (h8, .inr (6, mX6 h9 h10 h11 h12 h13 h14 h15 h16 v8)), (h14, zi k14 400 f14), (h12, zi k12 400 f12)]) [9, 5, 6, 7] (by decide) rfl
                have hKc := hK.sub (tys' := [(k14, .int), (k12, .int)]) [3, 4] rfl
                have hFc := va_free (wc := [(a82_, .inr (8, mX8 h8 v82_)), (h8, .inr (6, mX6 h9 h10 h11 h12 h13 h14 h15 h16 v8)), (h14, zi k14 400 f14), (h12, zi k12 400 f12)]) hD hS hA [9, 5, 6, 7] rfl
                refine va_callv (va_runV (As := [.int r88_]) (rest := []) ⟨hx, hb, hml, hown, hG⟩ (sX8_open_0 l dC dI adK adV a82_ h8 h14 h12 h9 h10 h11 h13 h15 h16 k14 k12 H.size v82_ v8 f14 f12 r88_ hv8) (cwV 1 hG (zgV zv1210 zv898 zv899 zv134 zv900) rfl rfl rfl (by decide +kernel) ⟨Nat.le_of_ble_eq_true rfl, Nat.le_of_ble_eq_true rfl⟩) ⟨zPc_blind, va_recv hKc hPc (ci := 8) (q0 := 0) rfl rfl, zPc_pre hPc hKc hDc hE hS hFc hZ⟩ rfl rfl hl.1 rfl (lv_room (Nat.le_of_ble_eq_true rfl)) dX3_want_91 ⟨Nat.le_of_ble_eq_true rfl, Nat.le_of_ble_eq_true rfl⟩) hS (fun q _ h => hFc q h) hFc (fun u91_ t H1 locs ht hvm hw hB hz1 hk1 hS => ?_)
                replace hw : (0 ≤ (u91_ 2).toInt ∧ (u91_ 2).toInt ≤ 0) ∧ (0 ≤ (u91_ 3).toInt ∧ (u91_ 3).toInt ≤ 0) ∧ ((-1) ≤ (u91_ 4).toInt ∧ (u91_ 4).toInt ≤ (-1)) ∧ (0 ≤ (u91_ 5).toInt ∧ (u91_ 5).toInt ≤ 0) ∧ (0 ≤ (u91_ 6).toInt ∧ (u91_ 6).toInt ≤ 0) := hw
                obtain ⟨b_, b_, b_, b_, b_⟩ := hw
                obtain ⟨w91_, a91_, b91_, hP1, hK1, hD1⟩ := hB
                rw [ht] at hP1
                obtain ⟨hP, hD⟩ := va_joinQ (wr := [(h0, .inr (3, mX3 h1 h8 h17 h25 h26 h27 h28 h29 v0)), (h1, .inr (10, mX10 h2 h3 h4 h5 h6 h7 v1)), (h27, zi k27 400 f_41), (h25, .inl (k25, 400, .inr (.inr (.inr (.inr (q74_ 0)))))), (h3, zi k3 400 f3), (h26, zi k26 400 f26)]) (w1 := [(a82_, .inr (8, mX8 h8 (upd (upd (upd (upd (upd (upd (upd v82_ 1 (u91_ 0)) 2 (u91_ 1)) 3 (u91_ 2)) 4 (u91_ 3)) 5 (u91_ 4)) 6 (u91_ 5)) 7 (u91_ 6)))), (h8, .inr (6, mX6 h9 h10 h11 h12 h13 h14 h15 h16 v8)), (h14, zi k14 400 f14), (h12, zi k12 400 f12)]) hP hD [9, 5, 6, 7] [0, 1, 2, 3, 4, 8] rfl rfl (by decide) (by decide) hk1 hFc hP1 hD1
                have hP : va_P (dC, dI) vwCl ([(h0, .inr (3, mX3 h1 h8 h17 h25 h26 h27 h28 h29 v0)), (h1, .inr (10, mX10 h2 h3 h4 h5 h6 h7 v1)), (h27, zi k27 400 f_41), (h25, .inl (k25, 400, .inr (.inr (.inr (.inr (q74_ 0)))))), (h3, zi k3 400 f3), (h8, .inr (6, mX6 h9 h10 h11 h12 h13 h14 h15 h16 v8)), (h14, zi k14 400 f14), (h12, zi k12 400 f12), (h26, zi k26 400 f26), (a82_, .inr (8, mX8 h8 (upd (upd (upd (upd (upd (upd (upd v82_ 1 (u91_ 0)) 2 (u91_ 1)) 3 (u91_ 2)) 4 (u91_ 3)) 5 (u91_ 4)) 6 (u91_ 5)) 7 (u91_ 6))))] ++ (p82 ++ q82)) H1 := hP.part [0, 1, 2, 3, 4, 7, 8, 9, 5, 6] rfl
                have hD : va_D A ([(h0, .inr (3, mX3 h1 h8 h17 h25 h26 h27 h28 h29 v0)), (h1, .inr (10, mX10 h2 h3 h4 h5 h6 h7 v1)), (h27, zi k27 400 f_41), (h25, .inl (k25, 400, .inr (.inr (.inr (.inr (q74_ 0)))))), (h3, zi k3 400 f3), (h8, .inr (6, mX6 h9 h10 h11 h12 h13 h14 h15 h16 v8)), (h14, zi k14 400 f14), (h12, zi k12 400 f12), (h26, zi k26 400 f26), (a82_, .inr (8, mX8 h8 (upd (upd (upd (upd (upd (upd (upd v82_ 1 (u91_ 0)) 2 (u91_ 1)) 3 (u91_ 2)) 4 (u91_ 3)) 5 (u91_ 4)) 6 (u91_ 5)) 7 (u91_ 6))))] ++ (p82 ++ q82)) := hD.part [0, 1, 2, 3, 4, 7, 8, 9, 5, 6] (by decide) rfl
                generalize H1 = H at hP hS ⊢
                clear hz1
                refine lv_aload_n hx hb dX3_want_94 rfl (lv_at hl 0 rfl) ?_
                refine va_get (D := (dC, dI)) (ci := 3) (v := .ref h26) (C := RX3) (T := TX3) (N := 10) hx hb hG zuX3 hown hK hP 0 rfl rfl 4 (by decide) (hG _ zv477) (fun _ h9 => h9) rfl dX3_want_95 ?_
                refine lv_aload_n hx hb dX3_want_98 rfl (lv_at hl 0 rfl) ?_
                refine va_get (D := (dC, dI)) (ci := 3) (v := .int (v0 8)) (C := RX3) (T := TX3) (N := 10) hx hb hG zuX3 hown hK hP 0 rfl rfl 8 (by decide) (hG _ zv481) (fun _ h9 => h9) rfl dX3_want_99 ?_
                refine lv_iload_n hx hb dX3_want_102 rfl (lv_at hl 1 rfl) ?_
                refine va_iast hx hb hK hP hD hS 8 5 rfl rfl (zin_lit ⟨by omega, by omega⟩) dX3_want_103 (fun H locs hP hD hS => ?_)
                obtain ⟨f_103, e_f_103⟩ : ∃ z : Nat → Int32, z = upd f26 ((v0 8) : Int32).toNatClampNeg x1 := ⟨_, rfl⟩
                have hP : va_P (dC, dI) vwCl ([(h0, .inr (3, mX3 h1 h8 h17 h25 h26 h27 h28 h29 v0)), (h1, .inr (10, mX10 h2 h3 h4 h5 h6 h7 v1)), (h27, zi k27 400 f_41), (h25, .inl (k25, 400, .inr (.inr (.inr (.inr (q74_ 0)))))), (h3, zi k3 400 f3), (h8, .inr (6, mX6 h9 h10 h11 h12 h13 h14 h15 h16 v8)), (h14, zi k14 400 f14), (h12, zi k12 400 f12), (h26, zi k26 400 f_103), (a82_, .inr (8, mX8 h8 (upd (upd (upd (upd (upd (upd (upd v82_ 1 (u91_ 0)) 2 (u91_ 1)) 3 (u91_ 2)) 4 (u91_ 3)) 5 (u91_ 4)) 6 (u91_ 5)) 7 (u91_ 6))))] ++ (p82 ++ q82)) H := by rw [e_f_103]; exact hP
                have hD : va_D A ([(h0, .inr (3, mX3 h1 h8 h17 h25 h26 h27 h28 h29 v0)), (h1, .inr (10, mX10 h2 h3 h4 h5 h6 h7 v1)), (h27, zi k27 400 f_41), (h25, .inl (k25, 400, .inr (.inr (.inr (.inr (q74_ 0)))))), (h3, zi k3 400 f3), (h8, .inr (6, mX6 h9 h10 h11 h12 h13 h14 h15 h16 v8)), (h14, zi k14 400 f14), (h12, zi k12 400 f12), (h26, zi k26 400 f_103), (a82_, .inr (8, mX8 h8 (upd (upd (upd (upd (upd (upd (upd v82_ 1 (u91_ 0)) 2 (u91_ 1)) 3 (u91_ 2)) 4 (u91_ 3)) 5 (u91_ 4)) 6 (u91_ 5)) 7 (u91_ 6))))] ++ (p82 ++ q82)) := by rw [e_f_103]; exact hD
                have hf_103 : zA 0 399 f_103 := by rw [e_f_103]; exact zA_upd hf26 (show 0 ≤ (x1 : Int32).toInt from by omega) (show (x1 : Int32).toInt ≤ 399 from by omega)
                refine lv_aload_n hx hb dX3_want_104 rfl (lv_at hl 0 rfl) ?_
                refine lv_dup hx hb dX3_want_105 rfl ?_
                refine va_get (D := (dC, dI)) (ci := 3) (v := .int (v0 8)) (C := RX3) (T := TX3) (N := 10) hx hb hG zuX3 hown hK hP 0 rfl rfl 8 (by decide) (hG _ zv481) (fun _ h9 => h9) rfl dX3_want_106 ?_
                refine lv_iconst (v := 1) hx hb dX3_want_109 (by decide) ?_
                refine lv_iadd hx hb dX3_want_110 ?_
                refine lv_topi (fun z110 e_z110 => ?_)
                have b_ := zadd rfl zk_1 e_z110 (by omega) (by omega)
                refine va_put (D := (dC, dI)) (ci := 3) (v := .int z110) (ty := .int) (C := RX3) (T := TX3) (N := 10) hx hb hG zuX3 tyX3 tyX3_ok nmX3 hown hK hP hD hS 0 rfl rfl 8 (by decide) (hG _ zv481) (fun _ h9 => h9) rfl (by decide +kernel) rfl rfl (Nat.le_of_ble_eq_true rfl) dX3_want_111 (fun H locs hP hD hS => ?_)
                have hP : va_P (dC, dI) vwCl ([(h0, .inr (3, mX3 h1 h8 h17 h25 h26 h27 h28 h29 (upd v0 8 z110))), (h1, .inr (10, mX10 h2 h3 h4 h5 h6 h7 v1)), (h27, zi k27 400 f_41), (h25, .inl (k25, 400, .inr (.inr (.inr (.inr (q74_ 0)))))), (h3, zi k3 400 f3), (h8, .inr (6, mX6 h9 h10 h11 h12 h13 h14 h15 h16 v8)), (h14, zi k14 400 f14), (h12, zi k12 400 f12), (h26, zi k26 400 f_103), (a82_, .inr (8, mX8 h8 (upd (upd (upd (upd (upd (upd (upd v82_ 1 (u91_ 0)) 2 (u91_ 1)) 3 (u91_ 2)) 4 (u91_ 3)) 5 (u91_ 4)) 6 (u91_ 5)) 7 (u91_ 6))))] ++ (p82 ++ q82)) H := hP
                have hD : va_D A ([(h0, .inr (3, mX3 h1 h8 h17 h25 h26 h27 h28 h29 (upd v0 8 z110))), (h1, .inr (10, mX10 h2 h3 h4 h5 h6 h7 v1)), (h27, zi k27 400 f_41), (h25, .inl (k25, 400, .inr (.inr (.inr (.inr (q74_ 0)))))), (h3, zi k3 400 f3), (h8, .inr (6, mX6 h9 h10 h11 h12 h13 h14 h15 h16 v8)), (h14, zi k14 400 f14), (h12, zi k12 400 f12), (h26, zi k26 400 f_103), (a82_, .inr (8, mX8 h8 (upd (upd (upd (upd (upd (upd (upd v82_ 1 (u91_ 0)) 2 (u91_ 1)) 3 (u91_ 2)) 4 (u91_ 3)) 5 (u91_ 4)) 6 (u91_ 5)) 7 (u91_ 6))))] ++ (p82 ++ q82)) := hD
                obtain ⟨plx7, e_plx7⟩ : ∃ z : va_W, z = (a82_, .inr (8, mX8 h8 (upd (upd (upd (upd (upd (upd (upd v82_ 1 (u91_ 0)) 2 (u91_ 1)) 3 (u91_ 2)) 4 (u91_ 3)) 5 (u91_ 4)) 6 (u91_ 5)) 7 (u91_ 6)))) :: (p82 ++ q82) := ⟨_, rfl⟩
                have hP : va_P (dC, dI) vwCl ([(h0, .inr (3, mX3 h1 h8 h17 h25 h26 h27 h28 h29 (upd v0 8 z110))), (h1, .inr (10, mX10 h2 h3 h4 h5 h6 h7 v1)), (h27, zi k27 400 f_41), (h25, .inl (k25, 400, .inr (.inr (.inr (.inr (q74_ 0)))))), (h3, zi k3 400 f3), (h8, .inr (6, mX6 h9 h10 h11 h12 h13 h14 h15 h16 v8)), (h14, zi k14 400 f14), (h12, zi k12 400 f12), (h26, zi k26 400 f_103)] ++ plx7) H := by rw [e_plx7]; exact hP
                have hD : va_D A ([(h0, .inr (3, mX3 h1 h8 h17 h25 h26 h27 h28 h29 (upd v0 8 z110))), (h1, .inr (10, mX10 h2 h3 h4 h5 h6 h7 v1)), (h27, zi k27 400 f_41), (h25, .inl (k25, 400, .inr (.inr (.inr (.inr (q74_ 0)))))), (h3, zi k3 400 f3), (h8, .inr (6, mX6 h9 h10 h11 h12 h13 h14 h15 h16 v8)), (h14, zi k14 400 f14), (h12, zi k12 400 f12), (h26, zi k26 400 f_103)] ++ plx7) := by rw [e_plx7]; exact hD
                have hpl_ : zRd h8 (q74_ 0) plx7 := by rw [e_plx7]; exact zRd_put (show zRd h8 (q74_ 0) pl74 from by first | assumption | exact zKp_rf | exact zOt_rf) e_pl82
                have hpl_ : zKp h8 pl0 plx7 := by rw [e_plx7]; exact zKp_put (show zKp h8 pl0 pl74 from by first | assumption | exact zKp_rf | exact zOt_rf) e_pl82
                refine W.widen (k := 1) (n := 9) (by decide) (by decide) ?_
                have hpost : (0 ≤ z110.toInt ∧ z110.toInt ≤ 400) ∧ ((v0 8).toInt ≤ z110.toInt) ∧ (z110.toInt ≤ (v0 8).toInt + 1) := ⟨⟨by omega, by omega⟩, by omega, by omega⟩
                have hP9 : va_P (dC, dI) vwCl ([(h0, .inr (3, mX3 h1 h8 h17 h25 h26 h27 h28 h29 (upd v0 8 z110))), (h1, .inr (10, mX10 h2 h3 h4 h5 h6 h7 v1)), (h27, zi k27 400 f_41), (h25, .inl (k25, 400, .inr (.inr (.inr (.inr (q74_ 0)))))), (h3, zi k3 400 f3), (h8, .inr (6, mX6 h9 h10 h11 h12 h13 h14 h15 h16 v8)), (h14, zi k14 400 f14), (h12, zi k12 400 f12), (h26, zi k26 400 f_103)] ++ plx7) H := hP
                have hD9 : va_D A ([(h0, .inr (3, mX3 h1 h8 h17 h25 h26 h27 h28 h29 (upd v0 8 z110))), (h1, .inr (10, mX10 h2 h3 h4 h5 h6 h7 v1)), (h27, zi k27 400 f_41), (h25, .inl (k25, 400, .inr (.inr (.inr (.inr (q74_ 0)))))), (h3, zi k3 400 f3), (h8, .inr (6, mX6 h9 h10 h11 h12 h13 h14 h15 h16 v8)), (h14, zi k14 400 f14), (h12, zi k12 400 f12), (h26, zi k26 400 f_103)] ++ plx7) := hD
                have hB0 : zRd h8 (q74_ 0) plx7 := by assumption
                have hB1 : zKp h8 pl0 plx7 := by first | assumption | exact zKp_rf
                exact W.vret hx hb hr (fun t ht hW => ⟨⟨(fun i => ([z110] : List (Int32)).getD i 0), rfl, hpost, (fun _ => 0), (fun i => ([f_41, f_103] : List (Nat → Int32)).getD i (fun _ => 0)), (fun _ => (fun _ => 0)), (fun i => ([(q74_ 0)] : List (Nat → Option Nat)).getD i (fun _ => none)), plx7, hf_103, hB0, hB1, by rw [ht]; exact hP9, va_K.moved hW.alike hK, hD9⟩, hS.F ht⟩) hS.2.2 dX3_want_114
            · skip
              refine lv_ifnonnull (tgt := 74) hx hb dX3_want_51 (by decide) ?_
              refine W.widen (k := 1) (n := 9) (by decide) (by decide) ?_
              have hc : va_P (dC, dI) vwCl ([(h0, .inr (3, mX3 h1 h8 h17 h25 h26 h27 h28 h29 v0)), (h1, .inr (10, mX10 h2 h3 h4 h5 h6 h7 v1)), (h27, zi k27 400 f_41), (h25, .inl (k25, 400, .inr (.inr (.inr (.inr f25))))), (h3, zi k3 400 f3), (h8, .inr (6, mX6 h9 h10 h11 h12 h13 h14 h15 h16 v8)), (h14, zi k14 400 f14), (h12, zi k12 400 f12), (h26, zi k26 400 f26)] ++ pl0) H ∧ va_D A ([(h0, .inr (3, mX3 h1 h8 h17 h25 h26 h27 h28 h29 v0)), (h1, .inr (10, mX10 h2 h3 h4 h5 h6 h7 v1)), (h27, zi k27 400 f_41), (h25, .inl (k25, 400, .inr (.inr (.inr (.inr f25))))), (h3, zi k3 400 f3), (h8, .inr (6, mX6 h9 h10 h11 h12 h13 h14 h15 h16 v8)), (h14, zi k14 400 f14), (h12, zi k12 400 f12), (h26, zi k26 400 f26)] ++ pl0) ∧ va_S A s.heap H locs ∧ lv_has ls 2 [(0, .ref h0), (1, .int x1)] ∧ (f25 (((v0 8) : Int32)).toNatClampNeg ≠ none) ∧ (zRd h8 f25 pl0) ∧ (zKp h8 pl0 pl0) := ⟨hP, hD, hS, lv_sub hl [0, 1] rfl, by first | (rw [e_f_73, va_up_self]; exact fun h => by cases h) | exact fun h => by (rw [h] at e_o50; cases e_o50), by assumption, by first | assumption | exact zKp_rf⟩
              exact hJ74 H locs ls (fun _ => 0) (fun _ => 0) (fun _ => (fun _ => 0)) (fun _ => (fun _ => 0)) ⟨(fun i => ([f25] : List (Nat → Option Nat)).getD i (fun _ => none)), pl0, hc⟩
        · skip
          have b_ := zF_lt rfl zk_400 c_
          refine W.widen (k := 1) (n := 9) (by decide) (by decide) ?_
          have hpost : (0 ≤ (v0 8).toInt ∧ (v0 8).toInt ≤ 400) ∧ ((v0 8).toInt ≤ (v0 8).toInt) ∧ ((v0 8).toInt ≤ (v0 8).toInt + 1) := ⟨⟨by omega, by omega⟩, by omega, by omega⟩
          have hP9 : va_P (dC, dI) vwCl ([(h0, .inr (3, mX3 h1 h8 h17 h25 h26 h27 h28 h29 (upd v0 8 (v0 8)))), (h1, .inr (10, mX10 h2 h3 h4 h5 h6 h7 v1)), (h27, zi k27 400 f27), (h25, .inl (k25, 400, .inr (.inr (.inr (.inr f25))))), (h3, zi k3 400 f3), (h8, .inr (6, mX6 h9 h10 h11 h12 h13 h14 h15 h16 v8)), (h14, zi k14 400 f14), (h12, zi k12 400 f12), (h26, zi k26 400 f26)] ++ pl0) H := hP
          have hD9 : va_D A ([(h0, .inr (3, mX3 h1 h8 h17 h25 h26 h27 h28 h29 (upd v0 8 (v0 8)))), (h1, .inr (10, mX10 h2 h3 h4 h5 h6 h7 v1)), (h27, zi k27 400 f27), (h25, .inl (k25, 400, .inr (.inr (.inr (.inr f25))))), (h3, zi k3 400 f3), (h8, .inr (6, mX6 h9 h10 h11 h12 h13 h14 h15 h16 v8)), (h14, zi k14 400 f14), (h12, zi k12 400 f12), (h26, zi k26 400 f26)] ++ pl0) := hD
          have hB0 : zRd h8 f25 pl0 := by assumption
          have hB1 : zKp h8 pl0 pl0 := by first | assumption | exact zKp_rf
          exact W.vret hx hb hr (fun t ht hW => ⟨⟨(fun i => ([(v0 8)] : List (Int32)).getD i 0), rfl, hpost, (fun _ => 0), (fun i => ([f27, f26] : List (Nat → Int32)).getD i (fun _ => 0)), (fun _ => (fun _ => 0)), (fun i => ([f25] : List (Nat → Option Nat)).getD i (fun _ => none)), pl0, hf26, hB0, hB1, by rw [ht]; exact hP9, va_K.moved hW.alike hK, hD9⟩, hS.F ht⟩) hS.2.2 dX3_want_34
set_option maxHeartbeats 8000000 in
set_option maxRecDepth 100000 in
theorem sX6_bitsOfChunk_0 (l : Launch) (dC : Nat → ClassId) (dI : Nat → Nat → Nat) (adK adV : Nat → Nat) (sz : Nat) (x0 : Int32) : Met l yX6_bitsOfChunk (zw yX6_bitsOfChunk cX6_bitsOfChunk 1 (some .int)) { frames := 0, cells := 0, slots := 0, locals := 0 } (zPc dC dI adK adV [.int x0] sz [] []) (va_Qi (fun (r : Int32) (u : Nat → Int32) => (0 ≤ x0.toInt → zBs x0.toInt r.toInt)) (fun (u : Nat → Int32) (t : State) => ∃ (ww : Nat → Int64) (aa : Nat → Nat → Int32) (bb : Nat → Nat → Int64), va_P (dC, dI) vwCl [] t.heap ∧ va_K (dC, dI) vwCl [] t ∧ va_D (va_A [] sz) []) (va_A [] sz)) 0 0 (va_A [] sz) := by
  refine Met.ofW (cc := cX6_bitsOfChunk) (maxL := 1) (ret := (some .int)) (by decide) rfl ?_
  intro p e s m args below meth c s₁ B hml hv
  obtain ⟨rfl, hsz, hP, hK, hD0, hE, hZ⟩ := hv
  have hx := B.exec
  have hb := B.bytes
  have hr := B.returns
  have hG : ∀ w ∈ zG, w.before _ s = true := fun w h => atoms_spec (ws := (zw yX6_bitsOfChunk cX6_bitsOfChunk 1 (some .int))) B.pre w (List.mem_cons_of_mem _ h)
  have hown : s.vm.findClass RX6 = some m.cls := findClass_of_methodNamed B.named
  have hlocks := B.notSynchronized

  subst hsz
  have hD := hD0.self (sz := s.heap.size)
  generalize hAe : va_A [] s.heap.size = A at hD hZ ⊢
  have hA : ∀ q : Nat, s.heap.size ≤ q → A q := fun q h => by rw [← hAe]; exact Or.inr h
  have hS : va_S A s.heap s.heap [] := va_S.rf
  have hl := lv_entry ([.int x0]) (n := 1) (Nat.le_of_ble_eq_true rfl)
  rw [lg_entry_eq]
  generalize (lg_sl ([.int x0]) ++ List.replicate (1 - (lg_sl ([.int x0])).length) Slot.unset).toArray = ls at hl ⊢
  have hl : lv_has ls 1 [(0, .int x0)] := hl
  have b_ := zk_256
  refine lv_iload_n hx hb dX6_bitsOfChunk_0 rfl (lv_at hl 0 rfl) ?_
  refine lv_iconst (v := 3) hx hb dX6_bitsOfChunk_1 (by decide) ?_
  have b_ : -2147483648 ≤ x0.toInt ∧ x0.toInt ≤ 2147483647 := ⟨zlo _, zhi _⟩
  refine lv_icmp_ge (tgt := 12) hx hb dX6_bitsOfChunk_2 (by decide) (fun c_ => ?_) (fun c_ => ?_)
  · skip
    have b_ := zT_ge rfl zk_3 c_
    refine lv_sipush (v := 256) hx hb dX6_bitsOfChunk_12 (by decide) ?_
    refine W.widen (k := 0) (n := 0) (by decide) (by decide) ?_
    have hpost : (0 ≤ x0.toInt → zBs x0.toInt (256 : Int32).toInt) := by intro _; unfold zBs; omega
    have hP9 : va_P (dC, dI) vwCl [] s.heap := hP
    have hD9 : va_D A [] := hD
    exact W.iret (v := 256) hx hb hr (fun t ht hW => ⟨⟨256, (fun _ => 0), rfl, hpost, (fun _ => 0), (fun _ => (fun _ => 0)), (fun _ => (fun _ => 0)), by rw [ht]; exact hP9, va_K.moved hW.alike hK, hD9⟩, hS.F ht⟩) hS.2.2 dX6_bitsOfChunk_15
  · skip
    have b_ := zF_ge rfl zk_3 c_
    refine lv_bipush (v := 32) hx hb dX6_bitsOfChunk_5 (by decide) ?_
    refine lv_iload_n hx hb dX6_bitsOfChunk_7 rfl (lv_at hl 0 rfl) ?_
    refine lv_ishl hx hb dX6_bitsOfChunk_8 ?_
    refine lv_topi (fun z8 e_z8 => ?_)
    have b_ : 0 ≤ x0.toInt → (x0.toInt = 0 ∧ z8.toInt = 32) ∨ (x0.toInt = 1 ∧ z8.toInt = 64) ∨ (x0.toInt = 2 ∧ z8.toInt = 128) ∨ (x0.toInt = 3 ∧ z8.toInt = 256) := fun h => zshl32 e_z8 h (by omega)
    refine lv_goto (tgt := 15) hx hb dX6_bitsOfChunk_9 (by decide) ?_
    refine W.widen (k := 0) (n := 0) (by decide) (by decide) ?_
    have b_ : -2147483648 ≤ z8.toInt ∧ z8.toInt ≤ 2147483647 := ⟨zlo _, zhi _⟩
    have hpost : (0 ≤ x0.toInt → zBs x0.toInt z8.toInt) := by intro _; unfold zBs; omega
    have hP9 : va_P (dC, dI) vwCl [] s.heap := hP
    have hD9 : va_D A [] := hD
    exact W.iret (v := z8) hx hb hr (fun t ht hW => ⟨⟨z8, (fun _ => 0), rfl, hpost, (fun _ => 0), (fun _ => (fun _ => 0)), (fun _ => (fun _ => 0)), by rw [ht]; exact hP9, va_K.moved hW.alike hK, hD9⟩, hS.F ht⟩) hS.2.2 dX6_bitsOfChunk_15
set_option maxHeartbeats 8000000 in
set_option maxRecDepth 100000 in
theorem sX6_chunkBehind_0 (l : Launch) (dC : Nat → ClassId) (dI : Nat → Nat → Nat) (adK adV : Nat → Nat) (h0 : Nat) (h3 : Nat) (h1 : Nat) (h2 : Nat) (h4 : Nat) (h5 : Nat) (h6 : Nat) (h7 : Nat) (h8 : Nat) (k3 : ClassId) (sz : Nat) (v0 : Nat → Int32) (f3 : Nat → Int32) (x1 : Int32) (hv0 : zR rg_Postings v0) : Met l yX6_chunkBehind (zw yX6_chunkBehind cX6_chunkBehind 2 (some .int)) { frames := 0, cells := 0, slots := 0, locals := 0 } (zPc dC dI adK adV [.ref h0, .int x1] sz [(h0, .inr (6, mX6 h1 h2 h3 h4 h5 h6 h7 h8 v0)), (h3, zi k3 833 f3)] [(k3, .int)]) (va_Qi (fun (r : Int32) (u : Nat → Int32) => True) (fun (u : Nat → Int32) (t : State) => ∃ (ww : Nat → Int64) (aa : Nat → Nat → Int32) (bb : Nat → Nat → Int64), va_P (dC, dI) vwCl [(h0, .inr (6, mX6 h1 h2 h3 h4 h5 h6 h7 h8 v0)), (h3, zi k3 833 f3)] t.heap ∧ va_K (dC, dI) vwCl [(k3, .int)] t ∧ va_D (va_A [(h0, .inr (6, mX6 h1 h2 h3 h4 h5 h6 h7 h8 v0)), (h3, zi k3 833 f3)] sz) [(h0, .inr (6, mX6 h1 h2 h3 h4 h5 h6 h7 h8 v0)), (h3, zi k3 833 f3)]) (va_A [(h0, .inr (6, mX6 h1 h2 h3 h4 h5 h6 h7 h8 v0)), (h3, zi k3 833 f3)] sz)) 0 0 (va_A [(h0, .inr (6, mX6 h1 h2 h3 h4 h5 h6 h7 h8 v0)), (h3, zi k3 833 f3)] sz) := by
  refine Met.ofW (cc := cX6_chunkBehind) (maxL := 2) (ret := (some .int)) (by decide) rfl ?_
  intro p e s m args below meth c s₁ B hml hv
  obtain ⟨rfl, hsz, hP, hK, hD0, hE, hZ⟩ := hv
  have hx := B.exec
  have hb := B.bytes
  have hr := B.returns
  have hG : ∀ w ∈ zG, w.before _ s = true := fun w h => atoms_spec (ws := (zw yX6_chunkBehind cX6_chunkBehind 2 (some .int))) B.pre w (List.mem_cons_of_mem _ h)
  have hown : s.vm.findClass RX6 = some m.cls := findClass_of_methodNamed B.named
  have hlocks := B.notSynchronized

  subst hsz
  have hD := hD0.self (sz := s.heap.size)
  generalize hAe : va_A [(h0, .inr (6, mX6 h1 h2 h3 h4 h5 h6 h7 h8 v0)), (h3, zi k3 833 f3)] s.heap.size = A at hD hZ ⊢
  have hA : ∀ q : Nat, s.heap.size ≤ q → A q := fun q h => by rw [← hAe]; exact Or.inr h
  have hS : va_S A s.heap s.heap [] := va_S.rf
  have hl := lv_entry ([.ref h0, .int x1]) (n := 2) (Nat.le_of_ble_eq_true rfl)
  rw [lg_entry_eq]
  generalize (lg_sl ([.ref h0, .int x1]) ++ List.replicate (2 - (lg_sl ([.ref h0, .int x1])).length) Slot.unset).toArray = ls at hl ⊢
  have hl : lv_has ls 2 [(0, .ref h0), (1, .int x1)] := hl
  refine lv_iload_n hx hb dX6_chunkBehind_0 rfl (lv_at hl 1 rfl) ?_
  have b_ : -2147483648 ≤ x1.toInt ∧ x1.toInt ≤ 2147483647 := ⟨zlo _, zhi _⟩
  refine lv_if_lt (tgt := 21) hx hb dX6_chunkBehind_1 (by decide) (fun c_ => ?_) (fun c_ => ?_)
  · skip
    have b_ := zT_lt rfl zk_0 c_
    refine lv_iconst (v := (-1)) hx hb dX6_chunkBehind_21 (by decide) ?_
    refine W.widen (k := 0) (n := 0) (by decide) (by decide) ?_
    have hpost : True := trivial
    have hP9 : va_P (dC, dI) vwCl [(h0, .inr (6, mX6 h1 h2 h3 h4 h5 h6 h7 h8 v0)), (h3, zi k3 833 f3)] s.heap := hP
    have hD9 : va_D A [(h0, .inr (6, mX6 h1 h2 h3 h4 h5 h6 h7 h8 v0)), (h3, zi k3 833 f3)] := hD
    exact W.iret (v := (-1)) hx hb hr (fun t ht hW => ⟨⟨(-1), (fun _ => 0), rfl, hpost, (fun _ => 0), (fun _ => (fun _ => 0)), (fun _ => (fun _ => 0)), by rw [ht]; exact hP9, va_K.moved hW.alike hK, hD9⟩, hS.F ht⟩) hS.2.2 dX6_chunkBehind_22
  · skip
    have b_ := zF_lt rfl zk_0 c_
    refine lv_iload_n hx hb dX6_chunkBehind_4 rfl (lv_at hl 1 rfl) ?_
    refine lv_aload_n hx hb dX6_chunkBehind_5 rfl (lv_at hl 0 rfl) ?_
    have b_ : 0 ≤ (v0 8).toInt ∧ (v0 8).toInt ≤ 833 := hv0 8
    refine va_get (D := (dC, dI)) (ci := 6) (v := .int (v0 8)) (C := RX6) (T := TX6) (N := 12) hx hb hG zuX6 hown hK hP 0 rfl rfl 8 (by decide) (hG _ zv256) (fun _ h9 => h9) rfl dX6_chunkBehind_6 ?_
    refine lv_icmp_ge (tgt := 21) hx hb dX6_chunkBehind_9 (by decide) (fun c_ => ?_) (fun c_ => ?_)
    · skip
      have b_ := zT_ge rfl rfl c_
      refine lv_iconst (v := (-1)) hx hb dX6_chunkBehind_21 (by decide) ?_
      refine W.widen (k := 0) (n := 0) (by decide) (by decide) ?_
      have hpost : True := trivial
      have hP9 : va_P (dC, dI) vwCl [(h0, .inr (6, mX6 h1 h2 h3 h4 h5 h6 h7 h8 v0)), (h3, zi k3 833 f3)] s.heap := hP
      have hD9 : va_D A [(h0, .inr (6, mX6 h1 h2 h3 h4 h5 h6 h7 h8 v0)), (h3, zi k3 833 f3)] := hD
      exact W.iret (v := (-1)) hx hb hr (fun t ht hW => ⟨⟨(-1), (fun _ => 0), rfl, hpost, (fun _ => 0), (fun _ => (fun _ => 0)), (fun _ => (fun _ => 0)), by rw [ht]; exact hP9, va_K.moved hW.alike hK, hD9⟩, hS.F ht⟩) hS.2.2 dX6_chunkBehind_22
    · skip
      have b_ := zF_ge rfl rfl c_
      refine lv_aload_n hx hb dX6_chunkBehind_12 rfl (lv_at hl 0 rfl) ?_
      refine va_get (D := (dC, dI)) (ci := 6) (v := .ref h3) (C := RX6) (T := TX6) (N := 12) hx hb hG zuX6 hown hK hP 0 rfl rfl 2 (by decide) (hG _ zv250) (fun _ h9 => h9) rfl dX6_chunkBehind_13 ?_
      refine lv_iload_n hx hb dX6_chunkBehind_16 rfl (lv_at hl 1 rfl) ?_
      refine va_iald hx hb hK hP 1 0 rfl rfl (zin_lit ⟨by omega, by omega⟩) dX6_chunkBehind_17 ?_
      refine lv_topi (fun z17 e_z17 => ?_)
      refine lv_goto (tgt := 22) hx hb dX6_chunkBehind_18 (by decide) ?_
      refine W.widen (k := 0) (n := 0) (by decide) (by decide) ?_
      have b_ : -2147483648 ≤ z17.toInt ∧ z17.toInt ≤ 2147483647 := ⟨zlo _, zhi _⟩
      have hpost : True := trivial
      have hP9 : va_P (dC, dI) vwCl [(h0, .inr (6, mX6 h1 h2 h3 h4 h5 h6 h7 h8 v0)), (h3, zi k3 833 f3)] s.heap := hP
      have hD9 : va_D A [(h0, .inr (6, mX6 h1 h2 h3 h4 h5 h6 h7 h8 v0)), (h3, zi k3 833 f3)] := hD
      exact W.iret (v := z17) hx hb hr (fun t ht hW => ⟨⟨z17, (fun _ => 0), rfl, hpost, (fun _ => 0), (fun _ => (fun _ => 0)), (fun _ => (fun _ => 0)), by rw [ht]; exact hP9, va_K.moved hW.alike hK, hD9⟩, hS.F ht⟩) hS.2.2 dX6_chunkBehind_22
