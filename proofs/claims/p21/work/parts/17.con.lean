set_option maxHeartbeats 8000000 in
set_option maxRecDepth 100000 in
theorem sX3_want_2 (l : Launch) (dC : Nat → ClassId) (dI : Nat → Nat → Nat) (adK adV : Nat → Nat) (h0 : Nat) (h1 : Nat) (h27 : Nat) (h25 : Nat) (h3 : Nat) (h8 : Nat) (h14 : Nat) (h12 : Nat) (h9 : Nat) (h10 : Nat) (h11 : Nat) (h13 : Nat) (h26 : Nat) (h17 : Nat) (h28 : Nat) (h29 : Nat) (h2 : Nat) (h4 : Nat) (h5 : Nat) (h6 : Nat) (h7 : Nat) (h15 : Nat) (h16 : Nat) (k27 : ClassId) (k25 : ClassId) (k3 : ClassId) (k14 : ClassId) (k12 : ClassId) (k9 : ClassId) (k10 : ClassId) (k11 : ClassId) (k13 : ClassId) (k26 : ClassId) (pl0 : va_W) (sz : Nat) (v0 : Nat → Int32) (v1 : Nat → Int32) (f27 : Nat → Int32) (f25 : Nat → Option Nat) (f3 : Nat → Int32) (v8 : Nat → Int32) (f14 : Nat → Int32) (f12 : Nat → Int32) (f9 : Nat → Int32) (f10 : Nat → Int32) (f11 : Nat → Int32) (f13 : Nat → Int32) (f26 : Nat → Int32) (x1 : Int32) (hv0 : zR rg_Page v0) (hv1 : zR rg_Words400 v1) (hf3 : zA 0 399 f3) (hv8 : zR rg_Postings v8) (hf10 : zA 0 1250 f10) (hf13 : zA 0 832 f13) (hf26 : zA 0 399 f26) (hp0_ : zRd h8 f25 pl0) : Met l yX3_want (zw yX3_want cX3_want 2 none) { frames := 3, cells := 1, slots := 9, locals := 62 } (zPc dC dI adK adV [.ref h0, .int x1] sz ([(h0, .inr (3, mX3 h1 h8 h17 h25 h26 h27 h28 h29 v0)), (h1, .inr (10, mX10 h2 h3 h4 h5 h6 h7 v1)), (h27, zi k27 400 f27), (h25, .inl (k25, 400, .inr (.inr (.inr (.inr f25))))), (h3, zi k3 400 f3), (h8, .inr (6, mX6 h9 h10 h11 h12 h13 h14 h15 h16 v8)), (h14, zi k14 400 f14), (h12, zi k12 400 f12), (h9, zi k9 1250 f9), (h10, zi k10 833 f10), (h11, zi k11 833 f11), (h13, zi k13 400 f13), (h26, zi k26 400 f26)] ++ pl0) [(k27, .boolean), (k25, .object RX8), (k3, .int), (k14, .int), (k12, .int), (k9, .int), (k10, .int), (k11, .int), (k13, .int), (k26, .int)]) (va_Qv (fun (u : Nat → Int32) => (0 ≤ (u 0).toInt ∧ (u 0).toInt ≤ 400) ∧ ((v0 8).toInt ≤ (u 0).toInt) ∧ ((u 0).toInt ≤ (v0 8).toInt + 1)) (fun (u : Nat → Int32) (t : State) => ∃ (ww : Nat → Int64) (aa : Nat → Nat → Int32) (bb : Nat → Nat → Int64) (qq : Nat → Nat → Option Nat) (pl1 : va_W), zA 0 399 (aa 1) ∧ (zRd h8 (qq 0) pl1) ∧ (zKp h8 pl0 pl1) ∧ va_P (dC, dI) vwCl ([(h0, .inr (3, mX3 h1 h8 h17 h25 h26 h27 h28 h29 (upd v0 8 (u 0)))), (h1, .inr (10, mX10 h2 h3 h4 h5 h6 h7 v1)), (h27, zi k27 400 (aa 0)), (h25, .inl (k25, 400, .inr (.inr (.inr (.inr (qq 0)))))), (h3, zi k3 400 f3), (h8, .inr (6, mX6 h9 h10 h11 h12 h13 h14 h15 h16 v8)), (h14, zi k14 400 f14), (h12, zi k12 400 f12), (h9, zi k9 1250 f9), (h10, zi k10 833 f10), (h11, zi k11 833 f11), (h13, zi k13 400 f13), (h26, zi k26 400 (aa 1))] ++ pl1) t.heap ∧ va_K (dC, dI) vwCl [(k27, .boolean), (k25, .object RX8), (k3, .int), (k14, .int), (k12, .int), (k9, .int), (k10, .int), (k11, .int), (k13, .int), (k26, .int)] t ∧ va_D (va_A ([(h0, .inr (3, mX3 h1 h8 h17 h25 h26 h27 h28 h29 v0)), (h1, .inr (10, mX10 h2 h3 h4 h5 h6 h7 v1)), (h27, zi k27 400 f27), (h25, .inl (k25, 400, .inr (.inr (.inr (.inr f25))))), (h3, zi k3 400 f3), (h8, .inr (6, mX6 h9 h10 h11 h12 h13 h14 h15 h16 v8)), (h14, zi k14 400 f14), (h12, zi k12 400 f12), (h9, zi k9 1250 f9), (h10, zi k10 833 f10), (h11, zi k11 833 f11), (h13, zi k13 400 f13), (h26, zi k26 400 f26)] ++ pl0) sz) ([(h0, .inr (3, mX3 h1 h8 h17 h25 h26 h27 h28 h29 (upd v0 8 (u 0)))), (h1, .inr (10, mX10 h2 h3 h4 h5 h6 h7 v1)), (h27, zi k27 400 (aa 0)), (h25, .inl (k25, 400, .inr (.inr (.inr (.inr (qq 0)))))), (h3, zi k3 400 f3), (h8, .inr (6, mX6 h9 h10 h11 h12 h13 h14 h15 h16 v8)), (h14, zi k14 400 f14), (h12, zi k12 400 f12), (h9, zi k9 1250 f9), (h10, zi k10 833 f10), (h11, zi k11 833 f11), (h13, zi k13 400 f13), (h26, zi k26 400 (aa 1))] ++ pl1)) (va_A ([(h0, .inr (3, mX3 h1 h8 h17 h25 h26 h27 h28 h29 v0)), (h1, .inr (10, mX10 h2 h3 h4 h5 h6 h7 v1)), (h27, zi k27 400 f27), (h25, .inl (k25, 400, .inr (.inr (.inr (.inr f25))))), (h3, zi k3 400 f3), (h8, .inr (6, mX6 h9 h10 h11 h12 h13 h14 h15 h16 v8)), (h14, zi k14 400 f14), (h12, zi k12 400 f12), (h9, zi k9 1250 f9), (h10, zi k10 833 f10), (h11, zi k11 833 f11), (h13, zi k13 400 f13), (h26, zi k26 400 f26)] ++ pl0) sz)) 1 9 (va_A ([(h0, .inr (3, mX3 h1 h8 h17 h25 h26 h27 h28 h29 v0)), (h1, .inr (10, mX10 h2 h3 h4 h5 h6 h7 v1)), (h27, zi k27 400 f27), (h25, .inl (k25, 400, .inr (.inr (.inr (.inr f25))))), (h3, zi k3 400 f3), (h8, .inr (6, mX6 h9 h10 h11 h12 h13 h14 h15 h16 v8)), (h14, zi k14 400 f14), (h12, zi k12 400 f12), (h9, zi k9 1250 f9), (h10, zi k10 833 f10), (h11, zi k11 833 f11), (h13, zi k13 400 f13), (h26, zi k26 400 f26)] ++ pl0) sz) := by
  refine Met.ofW (cc := cX3_want) (maxL := 2) (ret := none) (by decide) rfl ?_
  intro p e s m args below meth c s₁ B hml hv
  obtain ⟨rfl, hsz, hP, hK, hD0, hE, hZ⟩ := hv
  have hx := B.exec
  have hb := B.bytes
  have hr := B.returns
  have hG : ∀ w ∈ zG, w.before _ s = true := fun w h => atoms_spec (ws := (zw yX3_want cX3_want 2 none)) B.pre w (List.mem_cons_of_mem _ h)
  have hown : s.vm.findClass RX3 = some m.cls := findClass_of_methodNamed B.named
  have hlocks := B.notSynchronized

  subst hsz
  have hD := hD0.self (sz := s.heap.size)
  generalize hAe : va_A ([(h0, .inr (3, mX3 h1 h8 h17 h25 h26 h27 h28 h29 v0)), (h1, .inr (10, mX10 h2 h3 h4 h5 h6 h7 v1)), (h27, zi k27 400 f27), (h25, .inl (k25, 400, .inr (.inr (.inr (.inr f25))))), (h3, zi k3 400 f3), (h8, .inr (6, mX6 h9 h10 h11 h12 h13 h14 h15 h16 v8)), (h14, zi k14 400 f14), (h12, zi k12 400 f12), (h9, zi k9 1250 f9), (h10, zi k10 833 f10), (h11, zi k11 833 f11), (h13, zi k13 400 f13), (h26, zi k26 400 f26)] ++ pl0) s.heap.size = A at hD hZ ⊢
  have hA : ∀ q : Nat, s.heap.size ≤ q → A q := fun q h => by rw [← hAe]; exact Or.inr h
  have hS : va_S A s.heap s.heap [] := va_S.rf
  have hl := lv_entry ([.ref h0, .int x1]) (n := 2) (Nat.le_of_ble_eq_true rfl)
  rw [lg_entry_eq]
  generalize (lg_sl ([.ref h0, .int x1]) ++ List.replicate (2 - (lg_sl ([.ref h0, .int x1])).length) Slot.unset).toArray = ls at hl ⊢
  have hl : lv_has ls 2 [(0, .ref h0), (1, .int x1)] := hl
  have b_ : 0 ≤ (v0 8).toInt ∧ (v0 8).toInt ≤ 400 := hv0 8
  refine lv_iload_n hx hb dX3_want_0 rfl (lv_at hl 1 rfl) ?_
  have b_ : -2147483648 ≤ x1.toInt ∧ x1.toInt ≤ 2147483647 := ⟨zlo _, zhi _⟩
  refine lv_if_lt (tgt := 34) hx hb dX3_want_1 (by decide) (fun c_ => ?_) (fun c_ => ?_)
  · skip
    have b_ := zT_lt rfl zk_0 c_
    refine W.widen (k := 1) (n := 9) (by decide) (by decide) ?_
    have hpost : (0 ≤ (v0 8).toInt ∧ (v0 8).toInt ≤ 400) ∧ ((v0 8).toInt ≤ (v0 8).toInt) ∧ ((v0 8).toInt ≤ (v0 8).toInt + 1) := ⟨(by first | with_reducible assumption | exact ⟨by omega, by omega⟩), by omega, by omega⟩
    have hP9 : va_P (dC, dI) vwCl ([(h0, .inr (3, mX3 h1 h8 h17 h25 h26 h27 h28 h29 (upd v0 8 (v0 8)))), (h1, .inr (10, mX10 h2 h3 h4 h5 h6 h7 v1)), (h27, zi k27 400 f27), (h25, .inl (k25, 400, .inr (.inr (.inr (.inr f25))))), (h3, zi k3 400 f3), (h8, .inr (6, mX6 h9 h10 h11 h12 h13 h14 h15 h16 v8)), (h14, zi k14 400 f14), (h12, zi k12 400 f12), (h9, zi k9 1250 f9), (h10, zi k10 833 f10), (h11, zi k11 833 f11), (h13, zi k13 400 f13), (h26, zi k26 400 f26)] ++ pl0) s.heap := hP
    have hD9 : va_D A ([(h0, .inr (3, mX3 h1 h8 h17 h25 h26 h27 h28 h29 (upd v0 8 (v0 8)))), (h1, .inr (10, mX10 h2 h3 h4 h5 h6 h7 v1)), (h27, zi k27 400 f27), (h25, .inl (k25, 400, .inr (.inr (.inr (.inr f25))))), (h3, zi k3 400 f3), (h8, .inr (6, mX6 h9 h10 h11 h12 h13 h14 h15 h16 v8)), (h14, zi k14 400 f14), (h12, zi k12 400 f12), (h9, zi k9 1250 f9), (h10, zi k10 833 f10), (h11, zi k11 833 f11), (h13, zi k13 400 f13), (h26, zi k26 400 f26)] ++ pl0) := hD
    have hB0 : zRd h8 f25 pl0 := by assumption
    have hB1 : zKp h8 pl0 pl0 := by first | assumption | exact zKp_rf
    exact W.vret hx hb hr (fun t ht hW => ⟨⟨(fun i => ([(v0 8)] : List (Int32)).getD i 0), rfl, hpost, (fun _ => 0), (fun i => ([f27, f26] : List (Nat → Int32)).getD i (fun _ => 0)), (fun _ => (fun _ => 0)), (fun i => ([f25] : List (Nat → Option Nat)).getD i (fun _ => none)), pl0, hf26, hB0, hB1, by rw [ht]; exact hP9, va_K.moved hW.alike hK, hD9⟩, hS.F ht⟩) hS.2.2 dX3_want_34
  · skip
    have b_ := zF_lt rfl zk_0 c_
    refine lv_iload_n hx hb dX3_want_4 rfl (lv_at hl 1 rfl) ?_
    refine lv_aload_n hx hb dX3_want_5 rfl (lv_at hl 0 rfl) ?_
    refine va_get (D := (dC, dI)) (ci := 3) (v := .ref h1) (C := RX3) (T := TX3) (N := 10) hx hb hG zuX3 hown hK hP 0 rfl rfl 0 (by decide) (hG _ zv473) (fun _ h9 => h9) rfl dX3_want_6 ?_
    have hPc := hP.sub (ws' := [(h1, .inr (10, mX10 h2 h3 h4 h5 h6 h7 v1))]) [1] rfl
    have hDc := hD.sub (ws' := [(h1, .inr (10, mX10 h2 h3 h4 h5 h6 h7 v1))]) [1] (by decide) rfl
    have hKc := hK.sub (tys' := []) [] rfl
    have hFc := va_free (wc := [(h1, .inr (10, mX10 h2 h3 h4 h5 h6 h7 v1))]) hD hS hA [1] rfl
    refine va_calli (va_runV (As := []) (rest := [.int x1]) ⟨hx, hb, hml, hown, hG⟩ (sX10_size_0 l dC dI adK adV h1 h2 h3 h4 h5 h6 h7 s.heap.size v1 hv1) (cwV 0 hG (zgV zv1207 zv627 zv628 zv131 zv629) rfl rfl rfl (by decide +kernel) ⟨Nat.le_of_ble_eq_true rfl, Nat.le_of_ble_eq_true rfl⟩) ⟨zPc_blind, va_recv hKc hPc (ci := 10) (q0 := 0) rfl rfl, zPc_pre hPc hKc hDc hE hS hFc hZ⟩ rfl rfl hl.1 rfl (lv_room (Nat.le_of_ble_eq_true rfl)) dX3_want_9 ⟨Nat.le_of_ble_eq_true rfl, Nat.le_of_ble_eq_true rfl⟩) hS (fun q _ h => hFc q h) hFc (fun r9_ u9_ t H1 locs ht hvm hw hB hz1 hk1 hS => ?_)
    replace hw : (0 ≤ r9_.toInt ∧ r9_.toInt ≤ 400) ∧ (r9_.toInt = (v1 7).toInt) ∧ (r9_.toInt = (v1 7).toInt) := hw
    obtain ⟨b_, hX9_0, hX9_1⟩ := hw
    obtain ⟨w9_, a9_, b9_, hP1, hK1, hD1⟩ := hB
    rw [ht] at hP1
    obtain ⟨hP, hD⟩ := va_joinQ (wr := [(h0, .inr (3, mX3 h1 h8 h17 h25 h26 h27 h28 h29 v0)), (h27, zi k27 400 f27), (h25, .inl (k25, 400, .inr (.inr (.inr (.inr f25))))), (h3, zi k3 400 f3), (h8, .inr (6, mX6 h9 h10 h11 h12 h13 h14 h15 h16 v8)), (h14, zi k14 400 f14), (h12, zi k12 400 f12), (h9, zi k9 1250 f9), (h10, zi k10 833 f10), (h11, zi k11 833 f11), (h13, zi k13 400 f13), (h26, zi k26 400 f26)]) (w1 := [(h1, .inr (10, mX10 h2 h3 h4 h5 h6 h7 v1))]) hP hD [1] [0, 2, 3, 4, 5, 6, 7, 8, 9, 10, 11, 12] rfl rfl (by decide) (by decide) hk1 hFc hP1 hD1
    have hP : va_P (dC, dI) vwCl ([(h0, .inr (3, mX3 h1 h8 h17 h25 h26 h27 h28 h29 v0)), (h1, .inr (10, mX10 h2 h3 h4 h5 h6 h7 v1)), (h27, zi k27 400 f27), (h25, .inl (k25, 400, .inr (.inr (.inr (.inr f25))))), (h3, zi k3 400 f3), (h8, .inr (6, mX6 h9 h10 h11 h12 h13 h14 h15 h16 v8)), (h14, zi k14 400 f14), (h12, zi k12 400 f12), (h9, zi k9 1250 f9), (h10, zi k10 833 f10), (h11, zi k11 833 f11), (h13, zi k13 400 f13), (h26, zi k26 400 f26)] ++ pl0) H1 := hP.part [0, 12, 1, 2, 3, 4, 5, 6, 7, 8, 9, 10, 11] rfl
    have hD : va_D A ([(h0, .inr (3, mX3 h1 h8 h17 h25 h26 h27 h28 h29 v0)), (h1, .inr (10, mX10 h2 h3 h4 h5 h6 h7 v1)), (h27, zi k27 400 f27), (h25, .inl (k25, 400, .inr (.inr (.inr (.inr f25))))), (h3, zi k3 400 f3), (h8, .inr (6, mX6 h9 h10 h11 h12 h13 h14 h15 h16 v8)), (h14, zi k14 400 f14), (h12, zi k12 400 f12), (h9, zi k9 1250 f9), (h10, zi k10 833 f10), (h11, zi k11 833 f11), (h13, zi k13 400 f13), (h26, zi k26 400 f26)] ++ pl0) := hD.part [0, 12, 1, 2, 3, 4, 5, 6, 7, 8, 9, 10, 11] (by decide) rfl
    generalize H1 = H at hP hS ⊢
    clear hz1
    refine lv_icmp_ge (tgt := 34) hx hb dX3_want_12 (by decide) (fun c_ => ?_) (fun c_ => ?_)
    · skip
      have b_ := zT_ge rfl rfl c_
      refine W.widen (k := 1) (n := 9) (by decide) (by decide) ?_
      have hpost : (0 ≤ (v0 8).toInt ∧ (v0 8).toInt ≤ 400) ∧ ((v0 8).toInt ≤ (v0 8).toInt) ∧ ((v0 8).toInt ≤ (v0 8).toInt + 1) := ⟨(by first | with_reducible assumption | exact ⟨by omega, by omega⟩), by omega, by omega⟩
      have hP9 : va_P (dC, dI) vwCl ([(h0, .inr (3, mX3 h1 h8 h17 h25 h26 h27 h28 h29 (upd v0 8 (v0 8)))), (h1, .inr (10, mX10 h2 h3 h4 h5 h6 h7 v1)), (h27, zi k27 400 f27), (h25, .inl (k25, 400, .inr (.inr (.inr (.inr f25))))), (h3, zi k3 400 f3), (h8, .inr (6, mX6 h9 h10 h11 h12 h13 h14 h15 h16 v8)), (h14, zi k14 400 f14), (h12, zi k12 400 f12), (h9, zi k9 1250 f9), (h10, zi k10 833 f10), (h11, zi k11 833 f11), (h13, zi k13 400 f13), (h26, zi k26 400 f26)] ++ pl0) H := hP
      have hD9 : va_D A ([(h0, .inr (3, mX3 h1 h8 h17 h25 h26 h27 h28 h29 (upd v0 8 (v0 8)))), (h1, .inr (10, mX10 h2 h3 h4 h5 h6 h7 v1)), (h27, zi k27 400 f27), (h25, .inl (k25, 400, .inr (.inr (.inr (.inr f25))))), (h3, zi k3 400 f3), (h8, .inr (6, mX6 h9 h10 h11 h12 h13 h14 h15 h16 v8)), (h14, zi k14 400 f14), (h12, zi k12 400 f12), (h9, zi k9 1250 f9), (h10, zi k10 833 f10), (h11, zi k11 833 f11), (h13, zi k13 400 f13), (h26, zi k26 400 f26)] ++ pl0) := hD
      have hB0 : zRd h8 f25 pl0 := by assumption
      have hB1 : zKp h8 pl0 pl0 := by first | assumption | exact zKp_rf
      exact W.vret hx hb hr (fun t ht hW => ⟨⟨(fun i => ([(v0 8)] : List (Int32)).getD i 0), rfl, hpost, (fun _ => 0), (fun i => ([f27, f26] : List (Nat → Int32)).getD i (fun _ => 0)), (fun _ => (fun _ => 0)), (fun i => ([f25] : List (Nat → Option Nat)).getD i (fun _ => none)), pl0, hf26, hB0, hB1, by rw [ht]; exact hP9, va_K.moved hW.alike hK, hD9⟩, hS.F ht⟩) hS.2.2 dX3_want_34
    · skip
      have b_ := zF_ge rfl rfl c_
      refine lv_aload_n hx hb dX3_want_15 rfl (lv_at hl 0 rfl) ?_
      refine va_get (D := (dC, dI)) (ci := 3) (v := .ref h27) (C := RX3) (T := TX3) (N := 10) hx hb hG zuX3 hown hK hP 0 rfl rfl 5 (by decide) (hG _ zv478) (fun _ h9 => h9) rfl dX3_want_16 ?_
      refine lv_iload_n hx hb dX3_want_19 rfl (lv_at hl 1 rfl) ?_
      refine va_zald hx hb hK hP 2 0 rfl rfl (zin_lit ⟨by omega, by omega⟩) dX3_want_20 ?_
      refine lv_topi (fun z20 e_z20 => ?_)
      have b_ : (f27 (x1 : Int32).toNatClampNeg).toInt = z20.toInt := congrArg Int32.toInt e_z20.symm
      have b_ : -2147483648 ≤ z20.toInt ∧ z20.toInt ≤ 2147483647 := ⟨zlo _, zhi _⟩
      refine lv_if_ne (tgt := 34) hx hb dX3_want_21 (by decide) (fun c_ => ?_) (fun c_ => ?_)
      · skip
        have b_ := zT_ne rfl zk_0 c_
        refine W.widen (k := 1) (n := 9) (by decide) (by decide) ?_
        have hpost : (0 ≤ (v0 8).toInt ∧ (v0 8).toInt ≤ 400) ∧ ((v0 8).toInt ≤ (v0 8).toInt) ∧ ((v0 8).toInt ≤ (v0 8).toInt + 1) := ⟨(by first | with_reducible assumption | exact ⟨by omega, by omega⟩), by omega, by omega⟩
        have hP9 : va_P (dC, dI) vwCl ([(h0, .inr (3, mX3 h1 h8 h17 h25 h26 h27 h28 h29 (upd v0 8 (v0 8)))), (h1, .inr (10, mX10 h2 h3 h4 h5 h6 h7 v1)), (h27, zi k27 400 f27), (h25, .inl (k25, 400, .inr (.inr (.inr (.inr f25))))), (h3, zi k3 400 f3), (h8, .inr (6, mX6 h9 h10 h11 h12 h13 h14 h15 h16 v8)), (h14, zi k14 400 f14), (h12, zi k12 400 f12), (h9, zi k9 1250 f9), (h10, zi k10 833 f10), (h11, zi k11 833 f11), (h13, zi k13 400 f13), (h26, zi k26 400 f26)] ++ pl0) H := hP
        have hD9 : va_D A ([(h0, .inr (3, mX3 h1 h8 h17 h25 h26 h27 h28 h29 (upd v0 8 (v0 8)))), (h1, .inr (10, mX10 h2 h3 h4 h5 h6 h7 v1)), (h27, zi k27 400 f27), (h25, .inl (k25, 400, .inr (.inr (.inr (.inr f25))))), (h3, zi k3 400 f3), (h8, .inr (6, mX6 h9 h10 h11 h12 h13 h14 h15 h16 v8)), (h14, zi k14 400 f14), (h12, zi k12 400 f12), (h9, zi k9 1250 f9), (h10, zi k10 833 f10), (h11, zi k11 833 f11), (h13, zi k13 400 f13), (h26, zi k26 400 f26)] ++ pl0) := hD
        have hB0 : zRd h8 f25 pl0 := by assumption
        have hB1 : zKp h8 pl0 pl0 := by first | assumption | exact zKp_rf
        exact W.vret hx hb hr (fun t ht hW => ⟨⟨(fun i => ([(v0 8)] : List (Int32)).getD i 0), rfl, hpost, (fun _ => 0), (fun i => ([f27, f26] : List (Nat → Int32)).getD i (fun _ => 0)), (fun _ => (fun _ => 0)), (fun i => ([f25] : List (Nat → Option Nat)).getD i (fun _ => none)), pl0, hf26, hB0, hB1, by rw [ht]; exact hP9, va_K.moved hW.alike hK, hD9⟩, hS.F ht⟩) hS.2.2 dX3_want_34
      · skip
        have b_ := zF_ne rfl zk_0 c_
        refine lv_aload_n hx hb dX3_want_24 rfl (lv_at hl 0 rfl) ?_
        refine va_get (D := (dC, dI)) (ci := 3) (v := .int (v0 8)) (C := RX3) (T := TX3) (N := 10) hx hb hG zuX3 hown hK hP 0 rfl rfl 8 (by decide) (hG _ zv481) (fun _ h9 => h9) rfl dX3_want_25 ?_
        refine lv_sipush (v := 400) hx hb dX3_want_28 (by decide) ?_
        refine lv_icmp_lt (tgt := 35) hx hb dX3_want_31 (by decide) (fun c_ => ?_) (fun c_ => ?_)
        · skip
          have b_ := zT_lt rfl zk_400 c_
          refine lv_aload_n hx hb dX3_want_35 rfl (lv_at hl 0 rfl) ?_
          refine va_get (D := (dC, dI)) (ci := 3) (v := .ref h27) (C := RX3) (T := TX3) (N := 10) hx hb hG zuX3 hown hK hP 0 rfl rfl 5 (by decide) (hG _ zv478) (fun _ h9 => h9) rfl dX3_want_36 ?_
          refine lv_iload_n hx hb dX3_want_39 rfl (lv_at hl 1 rfl) ?_
          refine lv_iconst (v := 1) hx hb dX3_want_40 (by decide) ?_
          refine va_zast hx hb hK hP hD hS 2 0 rfl rfl (zin_lit ⟨by omega, by omega⟩) dX3_want_41 (fun H locs hP hD hS => ?_)
          obtain ⟨f_41, e_f_41⟩ : ∃ z : Nat → Int32, z = upd f27 (x1 : Int32).toNatClampNeg (vp_nar .boolean 1) := ⟨_, rfl⟩
          have hP : va_P (dC, dI) vwCl ([(h0, .inr (3, mX3 h1 h8 h17 h25 h26 h27 h28 h29 v0)), (h1, .inr (10, mX10 h2 h3 h4 h5 h6 h7 v1)), (h27, zi k27 400 f_41), (h25, .inl (k25, 400, .inr (.inr (.inr (.inr f25))))), (h3, zi k3 400 f3), (h8, .inr (6, mX6 h9 h10 h11 h12 h13 h14 h15 h16 v8)), (h14, zi k14 400 f14), (h12, zi k12 400 f12), (h9, zi k9 1250 f9), (h10, zi k10 833 f10), (h11, zi k11 833 f11), (h13, zi k13 400 f13), (h26, zi k26 400 f26)] ++ pl0) H := by rw [e_f_41]; exact hP
          have hD : va_D A ([(h0, .inr (3, mX3 h1 h8 h17 h25 h26 h27 h28 h29 v0)), (h1, .inr (10, mX10 h2 h3 h4 h5 h6 h7 v1)), (h27, zi k27 400 f_41), (h25, .inl (k25, 400, .inr (.inr (.inr (.inr f25))))), (h3, zi k3 400 f3), (h8, .inr (6, mX6 h9 h10 h11 h12 h13 h14 h15 h16 v8)), (h14, zi k14 400 f14), (h12, zi k12 400 f12), (h9, zi k9 1250 f9), (h10, zi k10 833 f10), (h11, zi k11 833 f11), (h13, zi k13 400 f13), (h26, zi k26 400 f26)] ++ pl0) := by rw [e_f_41]; exact hD
          refine lv_aload_n hx hb dX3_want_42 rfl (lv_at hl 0 rfl) ?_
          refine va_get (D := (dC, dI)) (ci := 3) (v := .ref h25) (C := RX3) (T := TX3) (N := 10) hx hb hG zuX3 hown hK hP 0 rfl rfl 3 (by decide) (hG _ zv476) (fun _ h9 => h9) rfl dX3_want_43 ?_
          refine lv_aload_n hx hb dX3_want_46 rfl (lv_at hl 0 rfl) ?_
          refine va_get (D := (dC, dI)) (ci := 3) (v := .int (v0 8)) (C := RX3) (T := TX3) (N := 10) hx hb hG zuX3 hown hK hP 0 rfl rfl 8 (by decide) (hG _ zv481) (fun _ h9 => h9) rfl dX3_want_47 ?_
          refine va_aldq hx hb hK hP 3 1 rfl rfl (zin_lit ⟨by omega, by omega⟩) dX3_want_50 ?_
          refine lv_topq (fun o50 e_o50 => ?_)
          rcases o50 with _ | a50_
          · skip
            refine W.eq (g2 := F0 m 51 ls [.null]) rfl ?_
            refine zcutW (fun H locs ls u74_ w74_ a74_ b74_ => ∃ (q74_ : Nat → Nat → Option Nat) (pl74 : va_W), va_P (dC, dI) vwCl ([(h0, .inr (3, mX3 h1 h8 h17 h25 h26 h27 h28 h29 v0)), (h1, .inr (10, mX10 h2 h3 h4 h5 h6 h7 v1)), (h27, zi k27 400 f_41), (h25, .inl (k25, 400, .inr (.inr (.inr (.inr (q74_ 0)))))), (h3, zi k3 400 f3), (h8, .inr (6, mX6 h9 h10 h11 h12 h13 h14 h15 h16 v8)), (h14, zi k14 400 f14), (h12, zi k12 400 f12), (h9, zi k9 1250 f9), (h10, zi k10 833 f10), (h11, zi k11 833 f11), (h13, zi k13 400 f13), (h26, zi k26 400 f26)] ++ pl74) H ∧ va_D A ([(h0, .inr (3, mX3 h1 h8 h17 h25 h26 h27 h28 h29 v0)), (h1, .inr (10, mX10 h2 h3 h4 h5 h6 h7 v1)), (h27, zi k27 400 f_41), (h25, .inl (k25, 400, .inr (.inr (.inr (.inr (q74_ 0)))))), (h3, zi k3 400 f3), (h8, .inr (6, mX6 h9 h10 h11 h12 h13 h14 h15 h16 v8)), (h14, zi k14 400 f14), (h12, zi k12 400 f12), (h9, zi k9 1250 f9), (h10, zi k10 833 f10), (h11, zi k11 833 f11), (h13, zi k13 400 f13), (h26, zi k26 400 f26)] ++ pl74) ∧ va_S A s.heap H locs ∧ lv_has ls 2 [(0, .ref h0), (1, .int x1)] ∧ ((q74_ 0) (((v0 8) : Int32)).toNatClampNeg ≠ none) ∧ (zRd h8 (q74_ 0) pl74) ∧ (zKp h8 pl0 pl74)) (fun ls u74_ w74_ => F0 m 74 ls []) 1 9 ?_ (fun hJ74 => ?_)
            · skip
              intro H locs ls u74_ w74_ a74_ b74_ hc
              obtain ⟨q74_, pl74, hP, hD, hS, hl, hI74_0, hI74_1, hI74_2⟩ := hc
              refine lv_aload_n hx hb dX3_want_74 rfl (lv_at hl 0 rfl) ?_
              refine va_get (D := (dC, dI)) (ci := 3) (v := .ref h25) (C := RX3) (T := TX3) (N := 10) hx hb hG zuX3 hown hK hP 0 rfl rfl 3 (by decide) (hG _ zv476) (fun _ h9 => h9) rfl dX3_want_75 ?_
              refine lv_aload_n hx hb dX3_want_78 rfl (lv_at hl 0 rfl) ?_
              refine va_get (D := (dC, dI)) (ci := 3) (v := .int (v0 8)) (C := RX3) (T := TX3) (N := 10) hx hb hG zuX3 hown hK hP 0 rfl rfl 8 (by decide) (hG _ zv481) (fun _ h9 => h9) rfl dX3_want_79 ?_
              refine va_aldq hx hb hK hP 3 1 rfl rfl (zin_lit ⟨by omega, by omega⟩) dX3_want_82 ?_
              refine lv_topq (fun o82 e_o82 => ?_)
              rcases o82 with _ | a82_
              · skip
                exact absurd e_o82.symm (by assumption)
              · skip
                refine W.eq (g2 := F0 m 83 ls [.ref a82_]) rfl ?_
                have hnn_ : (q74_ 0) ((v0 8) : Int32).toNatClampNeg ≠ none := fun h => by rw [h] at e_o82; cases e_o82
                refine lv_aload_n hx hb dX3_want_83 rfl (lv_at hl 0 rfl) ?_
                refine va_get (D := (dC, dI)) (ci := 3) (v := .ref h1) (C := RX3) (T := TX3) (N := 10) hx hb hG zuX3 hown hK hP 0 rfl rfl 0 (by decide) (hG _ zv473) (fun _ h9 => h9) rfl dX3_want_84 ?_
                refine lv_iload_n hx hb dX3_want_87 rfl (lv_at hl 1 rfl) ?_
                have hPc := hP.sub (ws' := [(h1, .inr (10, mX10 h2 h3 h4 h5 h6 h7 v1)), (h3, zi k3 400 f3)]) [1, 4] rfl
                have hDc := hD.sub (ws' := [(h1, .inr (10, mX10 h2 h3 h4 h5 h6 h7 v1)), (h3, zi k3 400 f3)]) [1, 4] (by decide) rfl
                have hKc := hK.sub (tys' := [(k3, .int)]) [2] rfl
                have hFc := va_free (wc := [(h1, .inr (10, mX10 h2 h3 h4 h5 h6 h7 v1)), (h3, zi k3 400 f3)]) hD hS hA [1, 4] rfl
                refine va_calli (va_runV (As := [.int x1]) (rest := [.ref a82_]) ⟨hx, hb, hml, hown, hG⟩ (sX10_idAt_0 l dC dI adK adV h1 h3 h2 h4 h5 h6 h7 k3 H.size v1 f3 x1 hv1 hf3) (cwV 1 hG (zgV zv1209 zv753 zv754 zv131 zv755) rfl rfl rfl (by decide +kernel) ⟨Nat.le_of_ble_eq_true rfl, Nat.le_of_ble_eq_true rfl⟩) ⟨zPc_blind, va_recv hKc hPc (ci := 10) (q0 := 0) rfl rfl, zPc_pre hPc hKc hDc hE hS hFc hZ⟩ rfl rfl hl.1 rfl (lv_room (Nat.le_of_ble_eq_true rfl)) dX3_want_88 ⟨Nat.le_of_ble_eq_true rfl, Nat.le_of_ble_eq_true rfl⟩) hS (fun q _ h => hFc q h) hFc (fun r88_ u88_ t H1 locs ht hvm hw hB hz1 hk1 hS => ?_)
                replace hw : ((-1) ≤ r88_.toInt ∧ r88_.toInt ≤ 399) ∧ (0 ≤ x1.toInt ∧ x1.toInt < (v1 7).toInt → r88_.toInt = (f3 ((x1 : Int32)).toNatClampNeg).toInt) ∧ (x1.toInt < 0 → r88_.toInt = -1) := hw
                obtain ⟨b_, hX88_0, hX88_1⟩ := hw
                obtain ⟨w88_, a88_, b88_, hP1, hK1, hD1⟩ := hB
                rw [ht] at hP1
                obtain ⟨hP, hD⟩ := va_joinQ (wr := [(h0, .inr (3, mX3 h1 h8 h17 h25 h26 h27 h28 h29 v0)), (h27, zi k27 400 f_41), (h25, .inl (k25, 400, .inr (.inr (.inr (.inr (q74_ 0)))))), (h8, .inr (6, mX6 h9 h10 h11 h12 h13 h14 h15 h16 v8)), (h14, zi k14 400 f14), (h12, zi k12 400 f12), (h9, zi k9 1250 f9), (h10, zi k10 833 f10), (h11, zi k11 833 f11), (h13, zi k13 400 f13), (h26, zi k26 400 f26)]) (w1 := [(h1, .inr (10, mX10 h2 h3 h4 h5 h6 h7 v1)), (h3, zi k3 400 f3)]) hP hD [1, 4] [0, 2, 3, 5, 6, 7, 8, 9, 10, 11, 12] rfl rfl (by decide) (by decide) hk1 hFc hP1 hD1
                have hP : va_P (dC, dI) vwCl ([(h0, .inr (3, mX3 h1 h8 h17 h25 h26 h27 h28 h29 v0)), (h1, .inr (10, mX10 h2 h3 h4 h5 h6 h7 v1)), (h27, zi k27 400 f_41), (h25, .inl (k25, 400, .inr (.inr (.inr (.inr (q74_ 0)))))), (h3, zi k3 400 f3), (h8, .inr (6, mX6 h9 h10 h11 h12 h13 h14 h15 h16 v8)), (h14, zi k14 400 f14), (h12, zi k12 400 f12), (h9, zi k9 1250 f9), (h10, zi k10 833 f10), (h11, zi k11 833 f11), (h13, zi k13 400 f13), (h26, zi k26 400 f26)] ++ pl74) H1 := hP.part [0, 11, 1, 2, 12, 3, 4, 5, 6, 7, 8, 9, 10] rfl
                have hD : va_D A ([(h0, .inr (3, mX3 h1 h8 h17 h25 h26 h27 h28 h29 v0)), (h1, .inr (10, mX10 h2 h3 h4 h5 h6 h7 v1)), (h27, zi k27 400 f_41), (h25, .inl (k25, 400, .inr (.inr (.inr (.inr (q74_ 0)))))), (h3, zi k3 400 f3), (h8, .inr (6, mX6 h9 h10 h11 h12 h13 h14 h15 h16 v8)), (h14, zi k14 400 f14), (h12, zi k12 400 f12), (h9, zi k9 1250 f9), (h10, zi k10 833 f10), (h11, zi k11 833 f11), (h13, zi k13 400 f13), (h26, zi k26 400 f26)] ++ pl74) := hD.part [0, 11, 1, 2, 12, 3, 4, 5, 6, 7, 8, 9, 10] (by decide) rfl
                generalize H1 = H at hP hS ⊢
                clear hz1
                obtain ⟨v82_, hm82⟩ := (show zRd h8 (q74_ 0) pl74 from by assumption) _ (zltc (by omega) (by omega)) _ e_o82.symm
                obtain ⟨p82, q82, e_pl82⟩ := List.append_of_mem hm82
                rw [e_pl82] at hP hD
                have hP : va_P (dC, dI) vwCl ([(h0, .inr (3, mX3 h1 h8 h17 h25 h26 h27 h28 h29 v0)), (h1, .inr (10, mX10 h2 h3 h4 h5 h6 h7 v1)), (h27, zi k27 400 f_41), (h25, .inl (k25, 400, .inr (.inr (.inr (.inr (q74_ 0)))))), (h3, zi k3 400 f3), (h8, .inr (6, mX6 h9 h10 h11 h12 h13 h14 h15 h16 v8)), (h14, zi k14 400 f14), (h12, zi k12 400 f12), (h9, zi k9 1250 f9), (h10, zi k10 833 f10), (h11, zi k11 833 f11), (h13, zi k13 400 f13), (h26, zi k26 400 f26), (a82_, .inr (8, mX8 h8 v82_))] ++ (p82 ++ q82)) H := zfocP hP
                have hD : va_D A ([(h0, .inr (3, mX3 h1 h8 h17 h25 h26 h27 h28 h29 v0)), (h1, .inr (10, mX10 h2 h3 h4 h5 h6 h7 v1)), (h27, zi k27 400 f_41), (h25, .inl (k25, 400, .inr (.inr (.inr (.inr (q74_ 0)))))), (h3, zi k3 400 f3), (h8, .inr (6, mX6 h9 h10 h11 h12 h13 h14 h15 h16 v8)), (h14, zi k14 400 f14), (h12, zi k12 400 f12), (h9, zi k9 1250 f9), (h10, zi k10 833 f10), (h11, zi k11 833 f11), (h13, zi k13 400 f13), (h26, zi k26 400 f26), (a82_, .inr (8, mX8 h8 v82_))] ++ (p82 ++ q82)) := zfocD hD
                have hPc := hP.sub (ws' := [(a82_, .inr (8, mX8 h8 v82_)), (h8, .inr (6, mX6 h9 h10 h11 h12 h13 h14 h15 h16 v8)), (h14, zi k14 400 f14), (h12, zi k12 400 f12), (h9, zi k9 1250 f9), (h10, zi k10 833 f10), (h11, zi k11 833 f11), (h13, zi k13 400 f13)]) [13, 5, 6, 7, 8, 9, 10, 11] rfl
                have hDc := hD.sub (ws' := [(a82_, .inr (8, mX8 h8 v82_)), (h8, .inr (6, mX6 h9 h10 h11 h12 h13 h14 h15 h16 v8)), (h14, zi k14 400 f14), (h12, zi k12 400 f12), (h9, zi k9 1250 f9), (h10, zi k10 833 f10), (h11, zi k11 833 f11), (h13, zi k13 400 f13)]) [13, 5, 6, 7, 8, 9, 10, 11] (by decide) rfl
                have hKc := hK.sub (tys' := [(k14, .int), (k12, .int), (k9, .int), (k10, .int), (k11, .int), (k13, .int)]) [3, 4, 5, 6, 7, 8] rfl
                have hFc := va_free (wc := [(a82_, .inr (8, mX8 h8 v82_)), (h8, .inr (6, mX6 h9 h10 h11 h12 h13 h14 h15 h16 v8)), (h14, zi k14 400 f14), (h12, zi k12 400 f12), (h9, zi k9 1250 f9), (h10, zi k10 833 f10), (h11, zi k11 833 f11), (h13, zi k13 400 f13)]) hD hS hA [13, 5, 6, 7, 8, 9, 10, 11] rfl
                refine va_callv (va_runV (As := [.int r88_]) (rest := []) ⟨hx, hb, hml, hown, hG⟩ (sX8_open_0 l dC dI adK adV a82_ h8 h14 h12 h9 h10 h11 h13 h15 h16 k14 k12 k9 k10 k11 k13 H.size v82_ v8 f14 f12 f9 f10 f11 f13 r88_ hv8 hf10 hf13) (cwV 1 hG (zgV zv1210 zv898 zv899 zv134 zv900) rfl rfl rfl (by decide +kernel) ⟨Nat.le_of_ble_eq_true rfl, Nat.le_of_ble_eq_true rfl⟩) ⟨zPc_blind, va_recv hKc hPc (ci := 8) (q0 := 0) rfl rfl, zPc_pre hPc hKc hDc hE hS hFc hZ⟩ rfl rfl hl.1 rfl (lv_room (Nat.le_of_ble_eq_true rfl)) dX3_want_91 ⟨Nat.le_of_ble_eq_true rfl, Nat.le_of_ble_eq_true rfl⟩) hS (fun q _ h => hFc q h) hFc (fun u91_ t H1 locs ht hvm hw hB hz1 hk1 hS => ?_)
                replace hw : (0 ≤ (u91_ 2).toInt ∧ (u91_ 2).toInt ≤ 0) ∧ (0 ≤ (u91_ 3).toInt ∧ (u91_ 3).toInt ≤ 0) ∧ ((-1) ≤ (u91_ 4).toInt ∧ (u91_ 4).toInt ≤ (-1)) ∧ (0 ≤ (u91_ 5).toInt ∧ (u91_ 5).toInt ≤ 0) ∧ (0 ≤ (u91_ 6).toInt ∧ (u91_ 6).toInt ≤ 0) ∧ ((u91_ 4).toInt = -1) ∧ ((u91_ 5).toInt = 0) ∧ ((u91_ 6).toInt = 0) ∧ (zW (0 ≤ r88_.toInt → r88_.toInt ≤ 399 → ∀ B : Nat → List Bool, zPB f9 f10 f11 f12 f13 f14 (v8 8).toInt (v8 9).toInt (v8 10).toInt (v8 11).toInt B → zRr f12 f11 B (u91_ 0).toInt (u91_ 1).toInt (u91_ 2).toInt (u91_ 3).toInt (B ((r88_ : Int32)).toNatClampNeg))) := hw
                obtain ⟨b_, b_, b_, b_, b_, hX91_0, hX91_1, hX91_2, hX91_3⟩ := hw
                obtain ⟨w91_, a91_, b91_, hP1, hK1, hD1⟩ := hB
                rw [ht] at hP1
                obtain ⟨hP, hD⟩ := va_joinQ (wr := [(h0, .inr (3, mX3 h1 h8 h17 h25 h26 h27 h28 h29 v0)), (h1, .inr (10, mX10 h2 h3 h4 h5 h6 h7 v1)), (h27, zi k27 400 f_41), (h25, .inl (k25, 400, .inr (.inr (.inr (.inr (q74_ 0)))))), (h3, zi k3 400 f3), (h26, zi k26 400 f26)]) (w1 := [(a82_, .inr (8, mX8 h8 (upd (upd (upd (upd (upd (upd (upd v82_ 1 (u91_ 0)) 2 (u91_ 1)) 3 (u91_ 2)) 4 (u91_ 3)) 5 (u91_ 4)) 6 (u91_ 5)) 7 (u91_ 6)))), (h8, .inr (6, mX6 h9 h10 h11 h12 h13 h14 h15 h16 v8)), (h14, zi k14 400 f14), (h12, zi k12 400 f12), (h9, zi k9 1250 f9), (h10, zi k10 833 f10), (h11, zi k11 833 f11), (h13, zi k13 400 f13)]) hP hD [13, 5, 6, 7, 8, 9, 10, 11] [0, 1, 2, 3, 4, 12] rfl rfl (by decide) (by decide) hk1 hFc hP1 hD1
                have hP : va_P (dC, dI) vwCl ([(h0, .inr (3, mX3 h1 h8 h17 h25 h26 h27 h28 h29 v0)), (h1, .inr (10, mX10 h2 h3 h4 h5 h6 h7 v1)), (h27, zi k27 400 f_41), (h25, .inl (k25, 400, .inr (.inr (.inr (.inr (q74_ 0)))))), (h3, zi k3 400 f3), (h8, .inr (6, mX6 h9 h10 h11 h12 h13 h14 h15 h16 v8)), (h14, zi k14 400 f14), (h12, zi k12 400 f12), (h9, zi k9 1250 f9), (h10, zi k10 833 f10), (h11, zi k11 833 f11), (h13, zi k13 400 f13), (h26, zi k26 400 f26), (a82_, .inr (8, mX8 h8 (upd (upd (upd (upd (upd (upd (upd v82_ 1 (u91_ 0)) 2 (u91_ 1)) 3 (u91_ 2)) 4 (u91_ 3)) 5 (u91_ 4)) 6 (u91_ 5)) 7 (u91_ 6))))] ++ (p82 ++ q82)) H1 := hP.part [0, 1, 2, 3, 4, 7, 8, 9, 10, 11, 12, 13, 5, 6] rfl
                have hD : va_D A ([(h0, .inr (3, mX3 h1 h8 h17 h25 h26 h27 h28 h29 v0)), (h1, .inr (10, mX10 h2 h3 h4 h5 h6 h7 v1)), (h27, zi k27 400 f_41), (h25, .inl (k25, 400, .inr (.inr (.inr (.inr (q74_ 0)))))), (h3, zi k3 400 f3), (h8, .inr (6, mX6 h9 h10 h11 h12 h13 h14 h15 h16 v8)), (h14, zi k14 400 f14), (h12, zi k12 400 f12), (h9, zi k9 1250 f9), (h10, zi k10 833 f10), (h11, zi k11 833 f11), (h13, zi k13 400 f13), (h26, zi k26 400 f26), (a82_, .inr (8, mX8 h8 (upd (upd (upd (upd (upd (upd (upd v82_ 1 (u91_ 0)) 2 (u91_ 1)) 3 (u91_ 2)) 4 (u91_ 3)) 5 (u91_ 4)) 6 (u91_ 5)) 7 (u91_ 6))))] ++ (p82 ++ q82)) := hD.part [0, 1, 2, 3, 4, 7, 8, 9, 10, 11, 12, 13, 5, 6] (by decide) rfl
                generalize H1 = H at hP hS ⊢
                clear hz1
                refine lv_aload_n hx hb dX3_want_94 rfl (lv_at hl 0 rfl) ?_
                refine va_get (D := (dC, dI)) (ci := 3) (v := .ref h26) (C := RX3) (T := TX3) (N := 10) hx hb hG zuX3 hown hK hP 0 rfl rfl 4 (by decide) (hG _ zv477) (fun _ h9 => h9) rfl dX3_want_95 ?_
                refine lv_aload_n hx hb dX3_want_98 rfl (lv_at hl 0 rfl) ?_
                refine va_get (D := (dC, dI)) (ci := 3) (v := .int (v0 8)) (C := RX3) (T := TX3) (N := 10) hx hb hG zuX3 hown hK hP 0 rfl rfl 8 (by decide) (hG _ zv481) (fun _ h9 => h9) rfl dX3_want_99 ?_
                refine lv_iload_n hx hb dX3_want_102 rfl (lv_at hl 1 rfl) ?_
                refine va_iast hx hb hK hP hD hS 12 9 rfl rfl (zin_lit ⟨by omega, by omega⟩) dX3_want_103 (fun H locs hP hD hS => ?_)
                obtain ⟨f_103, e_f_103⟩ : ∃ z : Nat → Int32, z = upd f26 ((v0 8) : Int32).toNatClampNeg x1 := ⟨_, rfl⟩
                have hP : va_P (dC, dI) vwCl ([(h0, .inr (3, mX3 h1 h8 h17 h25 h26 h27 h28 h29 v0)), (h1, .inr (10, mX10 h2 h3 h4 h5 h6 h7 v1)), (h27, zi k27 400 f_41), (h25, .inl (k25, 400, .inr (.inr (.inr (.inr (q74_ 0)))))), (h3, zi k3 400 f3), (h8, .inr (6, mX6 h9 h10 h11 h12 h13 h14 h15 h16 v8)), (h14, zi k14 400 f14), (h12, zi k12 400 f12), (h9, zi k9 1250 f9), (h10, zi k10 833 f10), (h11, zi k11 833 f11), (h13, zi k13 400 f13), (h26, zi k26 400 f_103), (a82_, .inr (8, mX8 h8 (upd (upd (upd (upd (upd (upd (upd v82_ 1 (u91_ 0)) 2 (u91_ 1)) 3 (u91_ 2)) 4 (u91_ 3)) 5 (u91_ 4)) 6 (u91_ 5)) 7 (u91_ 6))))] ++ (p82 ++ q82)) H := by rw [e_f_103]; exact hP
                have hD : va_D A ([(h0, .inr (3, mX3 h1 h8 h17 h25 h26 h27 h28 h29 v0)), (h1, .inr (10, mX10 h2 h3 h4 h5 h6 h7 v1)), (h27, zi k27 400 f_41), (h25, .inl (k25, 400, .inr (.inr (.inr (.inr (q74_ 0)))))), (h3, zi k3 400 f3), (h8, .inr (6, mX6 h9 h10 h11 h12 h13 h14 h15 h16 v8)), (h14, zi k14 400 f14), (h12, zi k12 400 f12), (h9, zi k9 1250 f9), (h10, zi k10 833 f10), (h11, zi k11 833 f11), (h13, zi k13 400 f13), (h26, zi k26 400 f_103), (a82_, .inr (8, mX8 h8 (upd (upd (upd (upd (upd (upd (upd v82_ 1 (u91_ 0)) 2 (u91_ 1)) 3 (u91_ 2)) 4 (u91_ 3)) 5 (u91_ 4)) 6 (u91_ 5)) 7 (u91_ 6))))] ++ (p82 ++ q82)) := by rw [e_f_103]; exact hD
                have hf_103 : zA 0 399 f_103 := by rw [e_f_103]; exact zA_upd hf26 (show 0 ≤ (x1 : Int32).toInt from by omega) (show (x1 : Int32).toInt ≤ 399 from by omega)
                refine lv_aload_n hx hb dX3_want_104 rfl (lv_at hl 0 rfl) ?_
                refine lv_dup hx hb dX3_want_105 rfl ?_
                refine va_get (D := (dC, dI)) (ci := 3) (v := .int (v0 8)) (C := RX3) (T := TX3) (N := 10) hx hb hG zuX3 hown hK hP 0 rfl rfl 8 (by decide) (hG _ zv481) (fun _ h9 => h9) rfl dX3_want_106 ?_
                refine lv_iconst (v := 1) hx hb dX3_want_109 (by decide) ?_
                refine lv_iadd hx hb dX3_want_110 ?_
                refine lv_topi (fun z110 e_z110 => ?_)
                have b_ := zadd rfl zk_1 e_z110 (by omega) (by omega)
                refine va_put (D := (dC, dI)) (ci := 3) (v := .int z110) (ty := .int) (C := RX3) (T := TX3) (N := 10) hx hb hG zuX3 tyX3 tyX3_ok nmX3 hown hK hP hD hS 0 rfl rfl 8 (by decide) (hG _ zv481) (fun _ h9 => h9) rfl (by decide +kernel) rfl rfl (Nat.le_of_ble_eq_true rfl) dX3_want_111 (fun H locs hP hD hS => ?_)
                have hP : va_P (dC, dI) vwCl ([(h0, .inr (3, mX3 h1 h8 h17 h25 h26 h27 h28 h29 (upd v0 8 z110))), (h1, .inr (10, mX10 h2 h3 h4 h5 h6 h7 v1)), (h27, zi k27 400 f_41), (h25, .inl (k25, 400, .inr (.inr (.inr (.inr (q74_ 0)))))), (h3, zi k3 400 f3), (h8, .inr (6, mX6 h9 h10 h11 h12 h13 h14 h15 h16 v8)), (h14, zi k14 400 f14), (h12, zi k12 400 f12), (h9, zi k9 1250 f9), (h10, zi k10 833 f10), (h11, zi k11 833 f11), (h13, zi k13 400 f13), (h26, zi k26 400 f_103), (a82_, .inr (8, mX8 h8 (upd (upd (upd (upd (upd (upd (upd v82_ 1 (u91_ 0)) 2 (u91_ 1)) 3 (u91_ 2)) 4 (u91_ 3)) 5 (u91_ 4)) 6 (u91_ 5)) 7 (u91_ 6))))] ++ (p82 ++ q82)) H := hP
                have hD : va_D A ([(h0, .inr (3, mX3 h1 h8 h17 h25 h26 h27 h28 h29 (upd v0 8 z110))), (h1, .inr (10, mX10 h2 h3 h4 h5 h6 h7 v1)), (h27, zi k27 400 f_41), (h25, .inl (k25, 400, .inr (.inr (.inr (.inr (q74_ 0)))))), (h3, zi k3 400 f3), (h8, .inr (6, mX6 h9 h10 h11 h12 h13 h14 h15 h16 v8)), (h14, zi k14 400 f14), (h12, zi k12 400 f12), (h9, zi k9 1250 f9), (h10, zi k10 833 f10), (h11, zi k11 833 f11), (h13, zi k13 400 f13), (h26, zi k26 400 f_103), (a82_, .inr (8, mX8 h8 (upd (upd (upd (upd (upd (upd (upd v82_ 1 (u91_ 0)) 2 (u91_ 1)) 3 (u91_ 2)) 4 (u91_ 3)) 5 (u91_ 4)) 6 (u91_ 5)) 7 (u91_ 6))))] ++ (p82 ++ q82)) := hD
                obtain ⟨plx5, e_plx5⟩ : ∃ z : va_W, z = (a82_, .inr (8, mX8 h8 (upd (upd (upd (upd (upd (upd (upd v82_ 1 (u91_ 0)) 2 (u91_ 1)) 3 (u91_ 2)) 4 (u91_ 3)) 5 (u91_ 4)) 6 (u91_ 5)) 7 (u91_ 6)))) :: (p82 ++ q82) := ⟨_, rfl⟩
                have hP : va_P (dC, dI) vwCl ([(h0, .inr (3, mX3 h1 h8 h17 h25 h26 h27 h28 h29 (upd v0 8 z110))), (h1, .inr (10, mX10 h2 h3 h4 h5 h6 h7 v1)), (h27, zi k27 400 f_41), (h25, .inl (k25, 400, .inr (.inr (.inr (.inr (q74_ 0)))))), (h3, zi k3 400 f3), (h8, .inr (6, mX6 h9 h10 h11 h12 h13 h14 h15 h16 v8)), (h14, zi k14 400 f14), (h12, zi k12 400 f12), (h9, zi k9 1250 f9), (h10, zi k10 833 f10), (h11, zi k11 833 f11), (h13, zi k13 400 f13), (h26, zi k26 400 f_103)] ++ plx5) H := by rw [e_plx5]; exact hP
                have hD : va_D A ([(h0, .inr (3, mX3 h1 h8 h17 h25 h26 h27 h28 h29 (upd v0 8 z110))), (h1, .inr (10, mX10 h2 h3 h4 h5 h6 h7 v1)), (h27, zi k27 400 f_41), (h25, .inl (k25, 400, .inr (.inr (.inr (.inr (q74_ 0)))))), (h3, zi k3 400 f3), (h8, .inr (6, mX6 h9 h10 h11 h12 h13 h14 h15 h16 v8)), (h14, zi k14 400 f14), (h12, zi k12 400 f12), (h9, zi k9 1250 f9), (h10, zi k10 833 f10), (h11, zi k11 833 f11), (h13, zi k13 400 f13), (h26, zi k26 400 f_103)] ++ plx5) := by rw [e_plx5]; exact hD
                have hpl_ : zRd h8 (q74_ 0) plx5 := by rw [e_plx5]; exact zRd_put (show zRd h8 (q74_ 0) pl74 from by first | assumption | exact zKp_rf | exact zOt_rf) e_pl82
                have hpl_ : zKp h8 pl0 plx5 := by rw [e_plx5]; exact zKp_put (show zKp h8 pl0 pl74 from by first | assumption | exact zKp_rf | exact zOt_rf) e_pl82
                refine W.widen (k := 1) (n := 9) (by decide) (by decide) ?_
                have hpost : (0 ≤ z110.toInt ∧ z110.toInt ≤ 400) ∧ ((v0 8).toInt ≤ z110.toInt) ∧ (z110.toInt ≤ (v0 8).toInt + 1) := ⟨(by first | with_reducible assumption | exact ⟨by omega, by omega⟩), by omega, by omega⟩
                have hP9 : va_P (dC, dI) vwCl ([(h0, .inr (3, mX3 h1 h8 h17 h25 h26 h27 h28 h29 (upd v0 8 z110))), (h1, .inr (10, mX10 h2 h3 h4 h5 h6 h7 v1)), (h27, zi k27 400 f_41), (h25, .inl (k25, 400, .inr (.inr (.inr (.inr (q74_ 0)))))), (h3, zi k3 400 f3), (h8, .inr (6, mX6 h9 h10 h11 h12 h13 h14 h15 h16 v8)), (h14, zi k14 400 f14), (h12, zi k12 400 f12), (h9, zi k9 1250 f9), (h10, zi k10 833 f10), (h11, zi k11 833 f11), (h13, zi k13 400 f13), (h26, zi k26 400 f_103)] ++ plx5) H := hP
                have hD9 : va_D A ([(h0, .inr (3, mX3 h1 h8 h17 h25 h26 h27 h28 h29 (upd v0 8 z110))), (h1, .inr (10, mX10 h2 h3 h4 h5 h6 h7 v1)), (h27, zi k27 400 f_41), (h25, .inl (k25, 400, .inr (.inr (.inr (.inr (q74_ 0)))))), (h3, zi k3 400 f3), (h8, .inr (6, mX6 h9 h10 h11 h12 h13 h14 h15 h16 v8)), (h14, zi k14 400 f14), (h12, zi k12 400 f12), (h9, zi k9 1250 f9), (h10, zi k10 833 f10), (h11, zi k11 833 f11), (h13, zi k13 400 f13), (h26, zi k26 400 f_103)] ++ plx5) := hD
                have hB0 : zRd h8 (q74_ 0) plx5 := by assumption
                have hB1 : zKp h8 pl0 plx5 := by first | assumption | exact zKp_rf
                exact W.vret hx hb hr (fun t ht hW => ⟨⟨(fun i => ([z110] : List (Int32)).getD i 0), rfl, hpost, (fun _ => 0), (fun i => ([f_41, f_103] : List (Nat → Int32)).getD i (fun _ => 0)), (fun _ => (fun _ => 0)), (fun i => ([(q74_ 0)] : List (Nat → Option Nat)).getD i (fun _ => none)), plx5, hf_103, hB0, hB1, by rw [ht]; exact hP9, va_K.moved hW.alike hK, hD9⟩, hS.F ht⟩) hS.2.2 dX3_want_114
            · skip
              refine lv_ifnonnullN hx hb dX3_want_51 ?_
              refine lv_aload_n hx hb dX3_want_54 rfl (lv_at hl 0 rfl) ?_
              refine va_get (D := (dC, dI)) (ci := 3) (v := .ref h25) (C := RX3) (T := TX3) (N := 10) hx hb hG zuX3 hown hK hP 0 rfl rfl 3 (by decide) (hG _ zv476) (fun _ h9 => h9) rfl dX3_want_55 ?_
              refine lv_aload_n hx hb dX3_want_58 rfl (lv_at hl 0 rfl) ?_
              refine va_get (D := (dC, dI)) (ci := 3) (v := .int (v0 8)) (C := RX3) (T := TX3) (N := 10) hx hb hG zuX3 hown hK hP 0 rfl rfl 8 (by decide) (hG _ zv481) (fun _ h9 => h9) rfl dX3_want_59 ?_
              refine va_new (ci := 8) (fs := [.null, .int 0, .int 0, .int 0, .int 0, .int 0, .int 0, .int 0, .int 0]) (C := RX8) (T := TX8) (N := 9) hx hb hG zuX8 tyX8 tyX8_ok hown (hG _ zv468) (hG _ zv286) (hG _ zv134) hK hP hD hS hA rfl (by decide +kernel) (Nat.le_of_ble_eq_true rfl) (Nat.le_of_ble_eq_true rfl) dX3_want_62 (fun q62_ H hP hD hS => ?_)
              have hP : va_P (dC, dI) vwCl ([(h0, .inr (3, mX3 h1 h8 h17 h25 h26 h27 h28 h29 v0)), (h1, .inr (10, mX10 h2 h3 h4 h5 h6 h7 v1)), (h27, zi k27 400 f_41), (h25, .inl (k25, 400, .inr (.inr (.inr (.inr f25))))), (h3, zi k3 400 f3), (h8, .inr (6, mX6 h9 h10 h11 h12 h13 h14 h15 h16 v8)), (h14, zi k14 400 f14), (h12, zi k12 400 f12), (h9, zi k9 1250 f9), (h10, zi k10 833 f10), (h11, zi k11 833 f11), (h13, zi k13 400 f13), (h26, zi k26 400 f26), (q62_, .inr (8, [.null, .int 0, .int 0, .int 0, .int 0, .int 0, .int 0, .int 0, .int 0]))] ++ pl0) H := va_P.swap hP
              have hD : va_D A ([(h0, .inr (3, mX3 h1 h8 h17 h25 h26 h27 h28 h29 v0)), (h1, .inr (10, mX10 h2 h3 h4 h5 h6 h7 v1)), (h27, zi k27 400 f_41), (h25, .inl (k25, 400, .inr (.inr (.inr (.inr f25))))), (h3, zi k3 400 f3), (h8, .inr (6, mX6 h9 h10 h11 h12 h13 h14 h15 h16 v8)), (h14, zi k14 400 f14), (h12, zi k12 400 f12), (h9, zi k9 1250 f9), (h10, zi k10 833 f10), (h11, zi k11 833 f11), (h13, zi k13 400 f13), (h26, zi k26 400 f26), (q62_, .inr (8, [.null, .int 0, .int 0, .int 0, .int 0, .int 0, .int 0, .int 0, .int 0]))] ++ pl0) := va_D.swap hD
              refine lv_dup hx hb dX3_want_65 rfl ?_
              refine lv_aload_n hx hb dX3_want_66 rfl (lv_at hl 0 rfl) ?_
              refine va_get (D := (dC, dI)) (ci := 3) (v := .ref h8) (C := RX3) (T := TX3) (N := 10) hx hb hG zuX3 hown hK hP 0 rfl rfl 1 (by decide) (hG _ zv474) (fun _ h9 => h9) rfl dX3_want_67 ?_
              have hPc := hP.sub (ws' := [(q62_, .inr (8, [.null, .int 0, .int 0, .int 0, .int 0, .int 0, .int 0, .int 0, .int 0]))]) [13] rfl
              have hDc := hD.sub (ws' := [(q62_, .inr (8, [.null, .int 0, .int 0, .int 0, .int 0, .int 0, .int 0, .int 0, .int 0]))]) [13] (by decide) rfl
              have hKc := hK.sub (tys' := []) [] rfl
              have hFc := va_free (wc := [(q62_, .inr (8, [.null, .int 0, .int 0, .int 0, .int 0, .int 0, .int 0, .int 0, .int 0]))]) hD hS hA [13] rfl
              refine va_callv (va_runI (As := [.ref h8]) (rest := [.ref q62_, .int (v0 8), .ref h25]) ⟨hx, hb, hml, hown, hG⟩ (kX8_init_0 l dC dI adK adV q62_ h8 H.size) (cwI 1 hG (zgI zv289) rfl rfl rfl (hG _ zv134) (hG _ zv1208) (hG _ zv288) rfl (by decide +kernel) ⟨Nat.le_of_ble_eq_true rfl, Nat.le_of_ble_eq_true rfl⟩) ⟨zPc_blind, zPc_pre hPc hKc hDc hE hS hFc hZ⟩ rfl rfl hl.1 rfl (lv_room (Nat.le_of_ble_eq_true rfl)) dX3_want_70 ⟨Nat.le_of_ble_eq_true rfl, Nat.le_of_ble_eq_true rfl⟩) hS (fun q _ h => hFc q h) hFc (fun u70_ t H1 locs ht hvm hw hB hz1 hk1 hS => ?_)
              obtain ⟨hP1, hK1, hD1⟩ := hB
              rw [ht] at hP1
              have hP1 : va_P (dC, dI) vwCl [(q62_, .inr (8, mX8 h8 (fun i => ([0, 0, -1, 0, 0, -1, 0, 0, -1] : List Int32).getD i 0)))] H1 := hP1
              have hD1 : va_D _ [(q62_, .inr (8, mX8 h8 (fun i => ([0, 0, -1, 0, 0, -1, 0, 0, -1] : List Int32).getD i 0)))] := hD1
              obtain ⟨hP, hD⟩ := va_joinQ (wr := [(h0, .inr (3, mX3 h1 h8 h17 h25 h26 h27 h28 h29 v0)), (h1, .inr (10, mX10 h2 h3 h4 h5 h6 h7 v1)), (h27, zi k27 400 f_41), (h25, .inl (k25, 400, .inr (.inr (.inr (.inr f25))))), (h3, zi k3 400 f3), (h8, .inr (6, mX6 h9 h10 h11 h12 h13 h14 h15 h16 v8)), (h14, zi k14 400 f14), (h12, zi k12 400 f12), (h9, zi k9 1250 f9), (h10, zi k10 833 f10), (h11, zi k11 833 f11), (h13, zi k13 400 f13), (h26, zi k26 400 f26)]) (w1 := [(q62_, .inr (8, mX8 h8 (fun i => ([0, 0, -1, 0, 0, -1, 0, 0, -1] : List Int32).getD i 0)))]) hP hD [13] [0, 1, 2, 3, 4, 5, 6, 7, 8, 9, 10, 11, 12] rfl rfl (by decide) (by decide) hk1 hFc hP1 hD1
              have hP : va_P (dC, dI) vwCl ([(h0, .inr (3, mX3 h1 h8 h17 h25 h26 h27 h28 h29 v0)), (h1, .inr (10, mX10 h2 h3 h4 h5 h6 h7 v1)), (h27, zi k27 400 f_41), (h25, .inl (k25, 400, .inr (.inr (.inr (.inr f25))))), (h3, zi k3 400 f3), (h8, .inr (6, mX6 h9 h10 h11 h12 h13 h14 h15 h16 v8)), (h14, zi k14 400 f14), (h12, zi k12 400 f12), (h9, zi k9 1250 f9), (h10, zi k10 833 f10), (h11, zi k11 833 f11), (h13, zi k13 400 f13), (h26, zi k26 400 f26), (q62_, .inr (8, mX8 h8 (fun i => ([0, 0, -1, 0, 0, -1, 0, 0, -1] : List Int32).getD i 0)))] ++ pl0) H1 := hP.part [0, 1, 2, 3, 4, 5, 6, 7, 8, 9, 10, 11, 12, 13] rfl
              have hD : va_D A ([(h0, .inr (3, mX3 h1 h8 h17 h25 h26 h27 h28 h29 v0)), (h1, .inr (10, mX10 h2 h3 h4 h5 h6 h7 v1)), (h27, zi k27 400 f_41), (h25, .inl (k25, 400, .inr (.inr (.inr (.inr f25))))), (h3, zi k3 400 f3), (h8, .inr (6, mX6 h9 h10 h11 h12 h13 h14 h15 h16 v8)), (h14, zi k14 400 f14), (h12, zi k12 400 f12), (h9, zi k9 1250 f9), (h10, zi k10 833 f10), (h11, zi k11 833 f11), (h13, zi k13 400 f13), (h26, zi k26 400 f26), (q62_, .inr (8, mX8 h8 (fun i => ([0, 0, -1, 0, 0, -1, 0, 0, -1] : List Int32).getD i 0)))] ++ pl0) := hD.part [0, 1, 2, 3, 4, 5, 6, 7, 8, 9, 10, 11, 12, 13] (by decide) rfl
              generalize H1 = H at hP hS ⊢
              clear hz1
              refine va_astq hx hb hK hP hD hS 3 1 13 8 rfl rfl rfl rfl (zin_lit ⟨by omega, by omega⟩) dX3_want_73 (fun H locs hP hD hS => ?_)
              obtain ⟨f_73, e_f_73⟩ : ∃ z : Nat → Option Nat, z = va_up f25 ((v0 8) : Int32).toNatClampNeg (some q62_) := ⟨_, rfl⟩
              have hP : va_P (dC, dI) vwCl ([(h0, .inr (3, mX3 h1 h8 h17 h25 h26 h27 h28 h29 v0)), (h1, .inr (10, mX10 h2 h3 h4 h5 h6 h7 v1)), (h27, zi k27 400 f_41), (h25, .inl (k25, 400, .inr (.inr (.inr (.inr f_73))))), (h3, zi k3 400 f3), (h8, .inr (6, mX6 h9 h10 h11 h12 h13 h14 h15 h16 v8)), (h14, zi k14 400 f14), (h12, zi k12 400 f12), (h9, zi k9 1250 f9), (h10, zi k10 833 f10), (h11, zi k11 833 f11), (h13, zi k13 400 f13), (h26, zi k26 400 f26), (q62_, .inr (8, mX8 h8 (fun i => ([0, 0, -1, 0, 0, -1, 0, 0, -1] : List Int32).getD i 0)))] ++ pl0) H := by rw [e_f_73]; exact hP
              have hD : va_D A ([(h0, .inr (3, mX3 h1 h8 h17 h25 h26 h27 h28 h29 v0)), (h1, .inr (10, mX10 h2 h3 h4 h5 h6 h7 v1)), (h27, zi k27 400 f_41), (h25, .inl (k25, 400, .inr (.inr (.inr (.inr f_73))))), (h3, zi k3 400 f3), (h8, .inr (6, mX6 h9 h10 h11 h12 h13 h14 h15 h16 v8)), (h14, zi k14 400 f14), (h12, zi k12 400 f12), (h9, zi k9 1250 f9), (h10, zi k10 833 f10), (h11, zi k11 833 f11), (h13, zi k13 400 f13), (h26, zi k26 400 f26), (q62_, .inr (8, mX8 h8 (fun i => ([0, 0, -1, 0, 0, -1, 0, 0, -1] : List Int32).getD i 0)))] ++ pl0) := by rw [e_f_73]; exact hD
              obtain ⟨plx6, e_plx6⟩ : ∃ z : va_W, z = (q62_, .inr (8, mX8 h8 (fun i => ([0, 0, -1, 0, 0, -1, 0, 0, -1] : List Int32).getD i 0))) :: pl0 := ⟨_, rfl⟩
              have hP : va_P (dC, dI) vwCl ([(h0, .inr (3, mX3 h1 h8 h17 h25 h26 h27 h28 h29 v0)), (h1, .inr (10, mX10 h2 h3 h4 h5 h6 h7 v1)), (h27, zi k27 400 f_41), (h25, .inl (k25, 400, .inr (.inr (.inr (.inr f_73))))), (h3, zi k3 400 f3), (h8, .inr (6, mX6 h9 h10 h11 h12 h13 h14 h15 h16 v8)), (h14, zi k14 400 f14), (h12, zi k12 400 f12), (h9, zi k9 1250 f9), (h10, zi k10 833 f10), (h11, zi k11 833 f11), (h13, zi k13 400 f13), (h26, zi k26 400 f26)] ++ plx6) H := by rw [e_plx6]; exact hP
              have hD : va_D A ([(h0, .inr (3, mX3 h1 h8 h17 h25 h26 h27 h28 h29 v0)), (h1, .inr (10, mX10 h2 h3 h4 h5 h6 h7 v1)), (h27, zi k27 400 f_41), (h25, .inl (k25, 400, .inr (.inr (.inr (.inr f_73))))), (h3, zi k3 400 f3), (h8, .inr (6, mX6 h9 h10 h11 h12 h13 h14 h15 h16 v8)), (h14, zi k14 400 f14), (h12, zi k12 400 f12), (h9, zi k9 1250 f9), (h10, zi k10 833 f10), (h11, zi k11 833 f11), (h13, zi k13 400 f13), (h26, zi k26 400 f26)] ++ plx6) := by rw [e_plx6]; exact hD
              have hpl_ : zRd h8 f_73 plx6 := by rw [e_plx6, e_f_73]; exact zRd_newR (show zRd h8 f25 pl0 from by first | assumption | exact zKp_rf | exact zOt_rf)
              have hpl_ : zKp h8 pl0 plx6 := by rw [e_plx6]; exact zKp_newR (show zKp h8 pl0 pl0 from by first | assumption | exact zKp_rf | exact zOt_rf)
              have hc : va_P (dC, dI) vwCl ([(h0, .inr (3, mX3 h1 h8 h17 h25 h26 h27 h28 h29 v0)), (h1, .inr (10, mX10 h2 h3 h4 h5 h6 h7 v1)), (h27, zi k27 400 f_41), (h25, .inl (k25, 400, .inr (.inr (.inr (.inr f_73))))), (h3, zi k3 400 f3), (h8, .inr (6, mX6 h9 h10 h11 h12 h13 h14 h15 h16 v8)), (h14, zi k14 400 f14), (h12, zi k12 400 f12), (h9, zi k9 1250 f9), (h10, zi k10 833 f10), (h11, zi k11 833 f11), (h13, zi k13 400 f13), (h26, zi k26 400 f26)] ++ plx6) H ∧ va_D A ([(h0, .inr (3, mX3 h1 h8 h17 h25 h26 h27 h28 h29 v0)), (h1, .inr (10, mX10 h2 h3 h4 h5 h6 h7 v1)), (h27, zi k27 400 f_41), (h25, .inl (k25, 400, .inr (.inr (.inr (.inr f_73))))), (h3, zi k3 400 f3), (h8, .inr (6, mX6 h9 h10 h11 h12 h13 h14 h15 h16 v8)), (h14, zi k14 400 f14), (h12, zi k12 400 f12), (h9, zi k9 1250 f9), (h10, zi k10 833 f10), (h11, zi k11 833 f11), (h13, zi k13 400 f13), (h26, zi k26 400 f26)] ++ plx6) ∧ va_S A s.heap H locs ∧ lv_has ls 2 [(0, .ref h0), (1, .int x1)] ∧ (f_73 (((v0 8) : Int32)).toNatClampNeg ≠ none) ∧ (zRd h8 f_73 plx6) ∧ (zKp h8 pl0 plx6) := ⟨hP, hD, hS, lv_sub hl [0, 1] rfl, by first | (rw [e_f_73, va_up_self]; exact fun h => by cases h) | exact fun h => by (rw [h] at e_o50; cases e_o50), by assumption, by first | assumption | exact zKp_rf⟩
              exact hJ74 H locs ls (fun _ => 0) (fun _ => 0) (fun _ => (fun _ => 0)) (fun _ => (fun _ => 0)) ⟨(fun i => ([f_73] : List (Nat → Option Nat)).getD i (fun _ => none)), plx6, hc⟩
          · skip
            refine W.eq (g2 := F0 m 51 ls [.ref a50_]) rfl ?_
            have hnn_ : f25 ((v0 8) : Int32).toNatClampNeg ≠ none := fun h => by rw [h] at e_o50; cases e_o50
            refine zcutW (fun H locs ls u74_ w74_ a74_ b74_ => ∃ (q74_ : Nat → Nat → Option Nat) (pl74 : va_W), va_P (dC, dI) vwCl ([(h0, .inr (3, mX3 h1 h8 h17 h25 h26 h27 h28 h29 v0)), (h1, .inr (10, mX10 h2 h3 h4 h5 h6 h7 v1)), (h27, zi k27 400 f_41), (h25, .inl (k25, 400, .inr (.inr (.inr (.inr (q74_ 0)))))), (h3, zi k3 400 f3), (h8, .inr (6, mX6 h9 h10 h11 h12 h13 h14 h15 h16 v8)), (h14, zi k14 400 f14), (h12, zi k12 400 f12), (h9, zi k9 1250 f9), (h10, zi k10 833 f10), (h11, zi k11 833 f11), (h13, zi k13 400 f13), (h26, zi k26 400 f26)] ++ pl74) H ∧ va_D A ([(h0, .inr (3, mX3 h1 h8 h17 h25 h26 h27 h28 h29 v0)), (h1, .inr (10, mX10 h2 h3 h4 h5 h6 h7 v1)), (h27, zi k27 400 f_41), (h25, .inl (k25, 400, .inr (.inr (.inr (.inr (q74_ 0)))))), (h3, zi k3 400 f3), (h8, .inr (6, mX6 h9 h10 h11 h12 h13 h14 h15 h16 v8)), (h14, zi k14 400 f14), (h12, zi k12 400 f12), (h9, zi k9 1250 f9), (h10, zi k10 833 f10), (h11, zi k11 833 f11), (h13, zi k13 400 f13), (h26, zi k26 400 f26)] ++ pl74) ∧ va_S A s.heap H locs ∧ lv_has ls 2 [(0, .ref h0), (1, .int x1)] ∧ ((q74_ 0) (((v0 8) : Int32)).toNatClampNeg ≠ none) ∧ (zRd h8 (q74_ 0) pl74) ∧ (zKp h8 pl0 pl74)) (fun ls u74_ w74_ => F0 m 74 ls []) 1 9 ?_ (fun hJ74 => ?_)
            · skip
              intro H locs ls u74_ w74_ a74_ b74_ hc
              obtain ⟨q74_, pl74, hP, hD, hS, hl, hI74_0, hI74_1, hI74_2⟩ := hc
              refine lv_aload_n hx hb dX3_want_74 rfl (lv_at hl 0 rfl) ?_
              refine va_get (D := (dC, dI)) (ci := 3) (v := .ref h25) (C := RX3) (T := TX3) (N := 10) hx hb hG zuX3 hown hK hP 0 rfl rfl 3 (by decide) (hG _ zv476) (fun _ h9 => h9) rfl dX3_want_75 ?_
              refine lv_aload_n hx hb dX3_want_78 rfl (lv_at hl 0 rfl) ?_
              refine va_get (D := (dC, dI)) (ci := 3) (v := .int (v0 8)) (C := RX3) (T := TX3) (N := 10) hx hb hG zuX3 hown hK hP 0 rfl rfl 8 (by decide) (hG _ zv481) (fun _ h9 => h9) rfl dX3_want_79 ?_
              refine va_aldq hx hb hK hP 3 1 rfl rfl (zin_lit ⟨by omega, by omega⟩) dX3_want_82 ?_
              refine lv_topq (fun o82 e_o82 => ?_)
              rcases o82 with _ | a82_
              · skip
                exact absurd e_o82.symm (by assumption)
              · skip
                refine W.eq (g2 := F0 m 83 ls [.ref a82_]) rfl ?_
                have hnn_ : (q74_ 0) ((v0 8) : Int32).toNatClampNeg ≠ none := fun h => by rw [h] at e_o82; cases e_o82
                refine lv_aload_n hx hb dX3_want_83 rfl (lv_at hl 0 rfl) ?_
                refine va_get (D := (dC, dI)) (ci := 3) (v := .ref h1) (C := RX3) (T := TX3) (N := 10) hx hb hG zuX3 hown hK hP 0 rfl rfl 0 (by decide) (hG _ zv473) (fun _ h9 => h9) rfl dX3_want_84 ?_
                refine lv_iload_n hx hb dX3_want_87 rfl (lv_at hl 1 rfl) ?_
                have hPc := hP.sub (ws' := [(h1, .inr (10, mX10 h2 h3 h4 h5 h6 h7 v1)), (h3, zi k3 400 f3)]) [1, 4] rfl
                have hDc := hD.sub (ws' := [(h1, .inr (10, mX10 h2 h3 h4 h5 h6 h7 v1)), (h3, zi k3 400 f3)]) [1, 4] (by decide) rfl
                have hKc := hK.sub (tys' := [(k3, .int)]) [2] rfl
                have hFc := va_free (wc := [(h1, .inr (10, mX10 h2 h3 h4 h5 h6 h7 v1)), (h3, zi k3 400 f3)]) hD hS hA [1, 4] rfl
                refine va_calli (va_runV (As := [.int x1]) (rest := [.ref a82_]) ⟨hx, hb, hml, hown, hG⟩ (sX10_idAt_0 l dC dI adK adV h1 h3 h2 h4 h5 h6 h7 k3 H.size v1 f3 x1 hv1 hf3) (cwV 1 hG (zgV zv1209 zv753 zv754 zv131 zv755) rfl rfl rfl (by decide +kernel) ⟨Nat.le_of_ble_eq_true rfl, Nat.le_of_ble_eq_true rfl⟩) ⟨zPc_blind, va_recv hKc hPc (ci := 10) (q0 := 0) rfl rfl, zPc_pre hPc hKc hDc hE hS hFc hZ⟩ rfl rfl hl.1 rfl (lv_room (Nat.le_of_ble_eq_true rfl)) dX3_want_88 ⟨Nat.le_of_ble_eq_true rfl, Nat.le_of_ble_eq_true rfl⟩) hS (fun q _ h => hFc q h) hFc (fun r88_ u88_ t H1 locs ht hvm hw hB hz1 hk1 hS => ?_)
                replace hw : ((-1) ≤ r88_.toInt ∧ r88_.toInt ≤ 399) ∧ (0 ≤ x1.toInt ∧ x1.toInt < (v1 7).toInt → r88_.toInt = (f3 ((x1 : Int32)).toNatClampNeg).toInt) ∧ (x1.toInt < 0 → r88_.toInt = -1) := hw
                obtain ⟨b_, hX88_0, hX88_1⟩ := hw
                obtain ⟨w88_, a88_, b88_, hP1, hK1, hD1⟩ := hB
                rw [ht] at hP1
                obtain ⟨hP, hD⟩ := va_joinQ (wr := [(h0, .inr (3, mX3 h1 h8 h17 h25 h26 h27 h28 h29 v0)), (h27, zi k27 400 f_41), (h25, .inl (k25, 400, .inr (.inr (.inr (.inr (q74_ 0)))))), (h8, .inr (6, mX6 h9 h10 h11 h12 h13 h14 h15 h16 v8)), (h14, zi k14 400 f14), (h12, zi k12 400 f12), (h9, zi k9 1250 f9), (h10, zi k10 833 f10), (h11, zi k11 833 f11), (h13, zi k13 400 f13), (h26, zi k26 400 f26)]) (w1 := [(h1, .inr (10, mX10 h2 h3 h4 h5 h6 h7 v1)), (h3, zi k3 400 f3)]) hP hD [1, 4] [0, 2, 3, 5, 6, 7, 8, 9, 10, 11, 12] rfl rfl (by decide) (by decide) hk1 hFc hP1 hD1
                have hP : va_P (dC, dI) vwCl ([(h0, .inr (3, mX3 h1 h8 h17 h25 h26 h27 h28 h29 v0)), (h1, .inr (10, mX10 h2 h3 h4 h5 h6 h7 v1)), (h27, zi k27 400 f_41), (h25, .inl (k25, 400, .inr (.inr (.inr (.inr (q74_ 0)))))), (h3, zi k3 400 f3), (h8, .inr (6, mX6 h9 h10 h11 h12 h13 h14 h15 h16 v8)), (h14, zi k14 400 f14), (h12, zi k12 400 f12), (h9, zi k9 1250 f9), (h10, zi k10 833 f10), (h11, zi k11 833 f11), (h13, zi k13 400 f13), (h26, zi k26 400 f26)] ++ pl74) H1 := hP.part [0, 11, 1, 2, 12, 3, 4, 5, 6, 7, 8, 9, 10] rfl
                have hD : va_D A ([(h0, .inr (3, mX3 h1 h8 h17 h25 h26 h27 h28 h29 v0)), (h1, .inr (10, mX10 h2 h3 h4 h5 h6 h7 v1)), (h27, zi k27 400 f_41), (h25, .inl (k25, 400, .inr (.inr (.inr (.inr (q74_ 0)))))), (h3, zi k3 400 f3), (h8, .inr (6, mX6 h9 h10 h11 h12 h13 h14 h15 h16 v8)), (h14, zi k14 400 f14), (h12, zi k12 400 f12), (h9, zi k9 1250 f9), (h10, zi k10 833 f10), (h11, zi k11 833 f11), (h13, zi k13 400 f13), (h26, zi k26 400 f26)] ++ pl74) := hD.part [0, 11, 1, 2, 12, 3, 4, 5, 6, 7, 8, 9, 10] (by decide) rfl
                generalize H1 = H at hP hS ⊢
                clear hz1
                obtain ⟨v82_, hm82⟩ := (show zRd h8 (q74_ 0) pl74 from by assumption) _ (zltc (by omega) (by omega)) _ e_o82.symm
                obtain ⟨p82, q82, e_pl82⟩ := List.append_of_mem hm82
                rw [e_pl82] at hP hD
                have hP : va_P (dC, dI) vwCl ([(h0, .inr (3, mX3 h1 h8 h17 h25 h26 h27 h28 h29 v0)), (h1, .inr (10, mX10 h2 h3 h4 h5 h6 h7 v1)), (h27, zi k27 400 f_41), (h25, .inl (k25, 400, .inr (.inr (.inr (.inr (q74_ 0)))))), (h3, zi k3 400 f3), (h8, .inr (6, mX6 h9 h10 h11 h12 h13 h14 h15 h16 v8)), (h14, zi k14 400 f14), (h12, zi k12 400 f12), (h9, zi k9 1250 f9), (h10, zi k10 833 f10), (h11, zi k11 833 f11), (h13, zi k13 400 f13), (h26, zi k26 400 f26), (a82_, .inr (8, mX8 h8 v82_))] ++ (p82 ++ q82)) H := zfocP hP
                have hD : va_D A ([(h0, .inr (3, mX3 h1 h8 h17 h25 h26 h27 h28 h29 v0)), (h1, .inr (10, mX10 h2 h3 h4 h5 h6 h7 v1)), (h27, zi k27 400 f_41), (h25, .inl (k25, 400, .inr (.inr (.inr (.inr (q74_ 0)))))), (h3, zi k3 400 f3), (h8, .inr (6, mX6 h9 h10 h11 h12 h13 h14 h15 h16 v8)), (h14, zi k14 400 f14), (h12, zi k12 400 f12), (h9, zi k9 1250 f9), (h10, zi k10 833 f10), (h11, zi k11 833 f11), (h13, zi k13 400 f13), (h26, zi k26 400 f26), (a82_, .inr (8, mX8 h8 v82_))] ++ (p82 ++ q82)) := zfocD hD
                have hPc := hP.sub (ws' := [(a82_, .inr (8, mX8 h8 v82_)), (h8, .inr (6, mX6 h9 h10 h11 h12 h13 h14 h15 h16 v8)), (h14, zi k14 400 f14), (h12, zi k12 400 f12), (h9, zi k9 1250 f9), (h10, zi k10 833 f10), (h11, zi k11 833 f11), (h13, zi k13 400 f13)]) [13, 5, 6, 7, 8, 9, 10, 11] rfl
                have hDc := hD.sub (ws' := [(a82_, .inr (8, mX8 h8 v82_)), (h8, .inr (6, mX6 h9 h10 h11 h12 h13 h14 h15 h16 v8)), (h14, zi k14 400 f14), (h12, zi k12 400 f12), (h9, zi k9 1250 f9), (h10, zi k10 833 f10), (h11, zi k11 833 f11), (h13, zi k13 400 f13)]) [13, 5, 6, 7, 8, 9, 10, 11] (by decide) rfl
                have hKc := hK.sub (tys' := [(k14, .int), (k12, .int), (k9, .int), (k10, .int), (k11, .int), (k13, .int)]) [3, 4, 5, 6, 7, 8] rfl
                have hFc := va_free (wc := [(a82_, .inr (8, mX8 h8 v82_)), (h8, .inr (6, mX6 h9 h10 h11 h12 h13 h14 h15 h16 v8)), (h14, zi k14 400 f14), (h12, zi k12 400 f12), (h9, zi k9 1250 f9), (h10, zi k10 833 f10), (h11, zi k11 833 f11), (h13, zi k13 400 f13)]) hD hS hA [13, 5, 6, 7, 8, 9, 10, 11] rfl
                refine va_callv (va_runV (As := [.int r88_]) (rest := []) ⟨hx, hb, hml, hown, hG⟩ (sX8_open_0 l dC dI adK adV a82_ h8 h14 h12 h9 h10 h11 h13 h15 h16 k14 k12 k9 k10 k11 k13 H.size v82_ v8 f14 f12 f9 f10 f11 f13 r88_ hv8 hf10 hf13) (cwV 1 hG (zgV zv1210 zv898 zv899 zv134 zv900) rfl rfl rfl (by decide +kernel) ⟨Nat.le_of_ble_eq_true rfl, Nat.le_of_ble_eq_true rfl⟩) ⟨zPc_blind, va_recv hKc hPc (ci := 8) (q0 := 0) rfl rfl, zPc_pre hPc hKc hDc hE hS hFc hZ⟩ rfl rfl hl.1 rfl (lv_room (Nat.le_of_ble_eq_true rfl)) dX3_want_91 ⟨Nat.le_of_ble_eq_true rfl, Nat.le_of_ble_eq_true rfl⟩) hS (fun q _ h => hFc q h) hFc (fun u91_ t H1 locs ht hvm hw hB hz1 hk1 hS => ?_)
                replace hw : (0 ≤ (u91_ 2).toInt ∧ (u91_ 2).toInt ≤ 0) ∧ (0 ≤ (u91_ 3).toInt ∧ (u91_ 3).toInt ≤ 0) ∧ ((-1) ≤ (u91_ 4).toInt ∧ (u91_ 4).toInt ≤ (-1)) ∧ (0 ≤ (u91_ 5).toInt ∧ (u91_ 5).toInt ≤ 0) ∧ (0 ≤ (u91_ 6).toInt ∧ (u91_ 6).toInt ≤ 0) ∧ ((u91_ 4).toInt = -1) ∧ ((u91_ 5).toInt = 0) ∧ ((u91_ 6).toInt = 0) ∧ (zW (0 ≤ r88_.toInt → r88_.toInt ≤ 399 → ∀ B : Nat → List Bool, zPB f9 f10 f11 f12 f13 f14 (v8 8).toInt (v8 9).toInt (v8 10).toInt (v8 11).toInt B → zRr f12 f11 B (u91_ 0).toInt (u91_ 1).toInt (u91_ 2).toInt (u91_ 3).toInt (B ((r88_ : Int32)).toNatClampNeg))) := hw
                obtain ⟨b_, b_, b_, b_, b_, hX91_0, hX91_1, hX91_2, hX91_3⟩ := hw
                obtain ⟨w91_, a91_, b91_, hP1, hK1, hD1⟩ := hB
                rw [ht] at hP1
                obtain ⟨hP, hD⟩ := va_joinQ (wr := [(h0, .inr (3, mX3 h1 h8 h17 h25 h26 h27 h28 h29 v0)), (h1, .inr (10, mX10 h2 h3 h4 h5 h6 h7 v1)), (h27, zi k27 400 f_41), (h25, .inl (k25, 400, .inr (.inr (.inr (.inr (q74_ 0)))))), (h3, zi k3 400 f3), (h26, zi k26 400 f26)]) (w1 := [(a82_, .inr (8, mX8 h8 (upd (upd (upd (upd (upd (upd (upd v82_ 1 (u91_ 0)) 2 (u91_ 1)) 3 (u91_ 2)) 4 (u91_ 3)) 5 (u91_ 4)) 6 (u91_ 5)) 7 (u91_ 6)))), (h8, .inr (6, mX6 h9 h10 h11 h12 h13 h14 h15 h16 v8)), (h14, zi k14 400 f14), (h12, zi k12 400 f12), (h9, zi k9 1250 f9), (h10, zi k10 833 f10), (h11, zi k11 833 f11), (h13, zi k13 400 f13)]) hP hD [13, 5, 6, 7, 8, 9, 10, 11] [0, 1, 2, 3, 4, 12] rfl rfl (by decide) (by decide) hk1 hFc hP1 hD1
                have hP : va_P (dC, dI) vwCl ([(h0, .inr (3, mX3 h1 h8 h17 h25 h26 h27 h28 h29 v0)), (h1, .inr (10, mX10 h2 h3 h4 h5 h6 h7 v1)), (h27, zi k27 400 f_41), (h25, .inl (k25, 400, .inr (.inr (.inr (.inr (q74_ 0)))))), (h3, zi k3 400 f3), (h8, .inr (6, mX6 h9 h10 h11 h12 h13 h14 h15 h16 v8)), (h14, zi k14 400 f14), (h12, zi k12 400 f12), (h9, zi k9 1250 f9), (h10, zi k10 833 f10), (h11, zi k11 833 f11), (h13, zi k13 400 f13), (h26, zi k26 400 f26), (a82_, .inr (8, mX8 h8 (upd (upd (upd (upd (upd (upd (upd v82_ 1 (u91_ 0)) 2 (u91_ 1)) 3 (u91_ 2)) 4 (u91_ 3)) 5 (u91_ 4)) 6 (u91_ 5)) 7 (u91_ 6))))] ++ (p82 ++ q82)) H1 := hP.part [0, 1, 2, 3, 4, 7, 8, 9, 10, 11, 12, 13, 5, 6] rfl
                have hD : va_D A ([(h0, .inr (3, mX3 h1 h8 h17 h25 h26 h27 h28 h29 v0)), (h1, .inr (10, mX10 h2 h3 h4 h5 h6 h7 v1)), (h27, zi k27 400 f_41), (h25, .inl (k25, 400, .inr (.inr (.inr (.inr (q74_ 0)))))), (h3, zi k3 400 f3), (h8, .inr (6, mX6 h9 h10 h11 h12 h13 h14 h15 h16 v8)), (h14, zi k14 400 f14), (h12, zi k12 400 f12), (h9, zi k9 1250 f9), (h10, zi k10 833 f10), (h11, zi k11 833 f11), (h13, zi k13 400 f13), (h26, zi k26 400 f26), (a82_, .inr (8, mX8 h8 (upd (upd (upd (upd (upd (upd (upd v82_ 1 (u91_ 0)) 2 (u91_ 1)) 3 (u91_ 2)) 4 (u91_ 3)) 5 (u91_ 4)) 6 (u91_ 5)) 7 (u91_ 6))))] ++ (p82 ++ q82)) := hD.part [0, 1, 2, 3, 4, 7, 8, 9, 10, 11, 12, 13, 5, 6] (by decide) rfl
                generalize H1 = H at hP hS ⊢
                clear hz1
                refine lv_aload_n hx hb dX3_want_94 rfl (lv_at hl 0 rfl) ?_
                refine va_get (D := (dC, dI)) (ci := 3) (v := .ref h26) (C := RX3) (T := TX3) (N := 10) hx hb hG zuX3 hown hK hP 0 rfl rfl 4 (by decide) (hG _ zv477) (fun _ h9 => h9) rfl dX3_want_95 ?_
                refine lv_aload_n hx hb dX3_want_98 rfl (lv_at hl 0 rfl) ?_
                refine va_get (D := (dC, dI)) (ci := 3) (v := .int (v0 8)) (C := RX3) (T := TX3) (N := 10) hx hb hG zuX3 hown hK hP 0 rfl rfl 8 (by decide) (hG _ zv481) (fun _ h9 => h9) rfl dX3_want_99 ?_
                refine lv_iload_n hx hb dX3_want_102 rfl (lv_at hl 1 rfl) ?_
                refine va_iast hx hb hK hP hD hS 12 9 rfl rfl (zin_lit ⟨by omega, by omega⟩) dX3_want_103 (fun H locs hP hD hS => ?_)
                obtain ⟨f_103, e_f_103⟩ : ∃ z : Nat → Int32, z = upd f26 ((v0 8) : Int32).toNatClampNeg x1 := ⟨_, rfl⟩
                have hP : va_P (dC, dI) vwCl ([(h0, .inr (3, mX3 h1 h8 h17 h25 h26 h27 h28 h29 v0)), (h1, .inr (10, mX10 h2 h3 h4 h5 h6 h7 v1)), (h27, zi k27 400 f_41), (h25, .inl (k25, 400, .inr (.inr (.inr (.inr (q74_ 0)))))), (h3, zi k3 400 f3), (h8, .inr (6, mX6 h9 h10 h11 h12 h13 h14 h15 h16 v8)), (h14, zi k14 400 f14), (h12, zi k12 400 f12), (h9, zi k9 1250 f9), (h10, zi k10 833 f10), (h11, zi k11 833 f11), (h13, zi k13 400 f13), (h26, zi k26 400 f_103), (a82_, .inr (8, mX8 h8 (upd (upd (upd (upd (upd (upd (upd v82_ 1 (u91_ 0)) 2 (u91_ 1)) 3 (u91_ 2)) 4 (u91_ 3)) 5 (u91_ 4)) 6 (u91_ 5)) 7 (u91_ 6))))] ++ (p82 ++ q82)) H := by rw [e_f_103]; exact hP
                have hD : va_D A ([(h0, .inr (3, mX3 h1 h8 h17 h25 h26 h27 h28 h29 v0)), (h1, .inr (10, mX10 h2 h3 h4 h5 h6 h7 v1)), (h27, zi k27 400 f_41), (h25, .inl (k25, 400, .inr (.inr (.inr (.inr (q74_ 0)))))), (h3, zi k3 400 f3), (h8, .inr (6, mX6 h9 h10 h11 h12 h13 h14 h15 h16 v8)), (h14, zi k14 400 f14), (h12, zi k12 400 f12), (h9, zi k9 1250 f9), (h10, zi k10 833 f10), (h11, zi k11 833 f11), (h13, zi k13 400 f13), (h26, zi k26 400 f_103), (a82_, .inr (8, mX8 h8 (upd (upd (upd (upd (upd (upd (upd v82_ 1 (u91_ 0)) 2 (u91_ 1)) 3 (u91_ 2)) 4 (u91_ 3)) 5 (u91_ 4)) 6 (u91_ 5)) 7 (u91_ 6))))] ++ (p82 ++ q82)) := by rw [e_f_103]; exact hD
                have hf_103 : zA 0 399 f_103 := by rw [e_f_103]; exact zA_upd hf26 (show 0 ≤ (x1 : Int32).toInt from by omega) (show (x1 : Int32).toInt ≤ 399 from by omega)
                refine lv_aload_n hx hb dX3_want_104 rfl (lv_at hl 0 rfl) ?_
                refine lv_dup hx hb dX3_want_105 rfl ?_
                refine va_get (D := (dC, dI)) (ci := 3) (v := .int (v0 8)) (C := RX3) (T := TX3) (N := 10) hx hb hG zuX3 hown hK hP 0 rfl rfl 8 (by decide) (hG _ zv481) (fun _ h9 => h9) rfl dX3_want_106 ?_
                refine lv_iconst (v := 1) hx hb dX3_want_109 (by decide) ?_
                refine lv_iadd hx hb dX3_want_110 ?_
                refine lv_topi (fun z110 e_z110 => ?_)
                have b_ := zadd rfl zk_1 e_z110 (by omega) (by omega)
                refine va_put (D := (dC, dI)) (ci := 3) (v := .int z110) (ty := .int) (C := RX3) (T := TX3) (N := 10) hx hb hG zuX3 tyX3 tyX3_ok nmX3 hown hK hP hD hS 0 rfl rfl 8 (by decide) (hG _ zv481) (fun _ h9 => h9) rfl (by decide +kernel) rfl rfl (Nat.le_of_ble_eq_true rfl) dX3_want_111 (fun H locs hP hD hS => ?_)
                have hP : va_P (dC, dI) vwCl ([(h0, .inr (3, mX3 h1 h8 h17 h25 h26 h27 h28 h29 (upd v0 8 z110))), (h1, .inr (10, mX10 h2 h3 h4 h5 h6 h7 v1)), (h27, zi k27 400 f_41), (h25, .inl (k25, 400, .inr (.inr (.inr (.inr (q74_ 0)))))), (h3, zi k3 400 f3), (h8, .inr (6, mX6 h9 h10 h11 h12 h13 h14 h15 h16 v8)), (h14, zi k14 400 f14), (h12, zi k12 400 f12), (h9, zi k9 1250 f9), (h10, zi k10 833 f10), (h11, zi k11 833 f11), (h13, zi k13 400 f13), (h26, zi k26 400 f_103), (a82_, .inr (8, mX8 h8 (upd (upd (upd (upd (upd (upd (upd v82_ 1 (u91_ 0)) 2 (u91_ 1)) 3 (u91_ 2)) 4 (u91_ 3)) 5 (u91_ 4)) 6 (u91_ 5)) 7 (u91_ 6))))] ++ (p82 ++ q82)) H := hP
                have hD : va_D A ([(h0, .inr (3, mX3 h1 h8 h17 h25 h26 h27 h28 h29 (upd v0 8 z110))), (h1, .inr (10, mX10 h2 h3 h4 h5 h6 h7 v1)), (h27, zi k27 400 f_41), (h25, .inl (k25, 400, .inr (.inr (.inr (.inr (q74_ 0)))))), (h3, zi k3 400 f3), (h8, .inr (6, mX6 h9 h10 h11 h12 h13 h14 h15 h16 v8)), (h14, zi k14 400 f14), (h12, zi k12 400 f12), (h9, zi k9 1250 f9), (h10, zi k10 833 f10), (h11, zi k11 833 f11), (h13, zi k13 400 f13), (h26, zi k26 400 f_103), (a82_, .inr (8, mX8 h8 (upd (upd (upd (upd (upd (upd (upd v82_ 1 (u91_ 0)) 2 (u91_ 1)) 3 (u91_ 2)) 4 (u91_ 3)) 5 (u91_ 4)) 6 (u91_ 5)) 7 (u91_ 6))))] ++ (p82 ++ q82)) := hD
                obtain ⟨plx7, e_plx7⟩ : ∃ z : va_W, z = (a82_, .inr (8, mX8 h8 (upd (upd (upd (upd (upd (upd (upd v82_ 1 (u91_ 0)) 2 (u91_ 1)) 3 (u91_ 2)) 4 (u91_ 3)) 5 (u91_ 4)) 6 (u91_ 5)) 7 (u91_ 6)))) :: (p82 ++ q82) := ⟨_, rfl⟩
                have hP : va_P (dC, dI) vwCl ([(h0, .inr (3, mX3 h1 h8 h17 h25 h26 h27 h28 h29 (upd v0 8 z110))), (h1, .inr (10, mX10 h2 h3 h4 h5 h6 h7 v1)), (h27, zi k27 400 f_41), (h25, .inl (k25, 400, .inr (.inr (.inr (.inr (q74_ 0)))))), (h3, zi k3 400 f3), (h8, .inr (6, mX6 h9 h10 h11 h12 h13 h14 h15 h16 v8)), (h14, zi k14 400 f14), (h12, zi k12 400 f12), (h9, zi k9 1250 f9), (h10, zi k10 833 f10), (h11, zi k11 833 f11), (h13, zi k13 400 f13), (h26, zi k26 400 f_103)] ++ plx7) H := by rw [e_plx7]; exact hP
                have hD : va_D A ([(h0, .inr (3, mX3 h1 h8 h17 h25 h26 h27 h28 h29 (upd v0 8 z110))), (h1, .inr (10, mX10 h2 h3 h4 h5 h6 h7 v1)), (h27, zi k27 400 f_41), (h25, .inl (k25, 400, .inr (.inr (.inr (.inr (q74_ 0)))))), (h3, zi k3 400 f3), (h8, .inr (6, mX6 h9 h10 h11 h12 h13 h14 h15 h16 v8)), (h14, zi k14 400 f14), (h12, zi k12 400 f12), (h9, zi k9 1250 f9), (h10, zi k10 833 f10), (h11, zi k11 833 f11), (h13, zi k13 400 f13), (h26, zi k26 400 f_103)] ++ plx7) := by rw [e_plx7]; exact hD
                have hpl_ : zRd h8 (q74_ 0) plx7 := by rw [e_plx7]; exact zRd_put (show zRd h8 (q74_ 0) pl74 from by first | assumption | exact zKp_rf | exact zOt_rf) e_pl82
                have hpl_ : zKp h8 pl0 plx7 := by rw [e_plx7]; exact zKp_put (show zKp h8 pl0 pl74 from by first | assumption | exact zKp_rf | exact zOt_rf) e_pl82
                refine W.widen (k := 1) (n := 9) (by decide) (by decide) ?_
                have hpost : (0 ≤ z110.toInt ∧ z110.toInt ≤ 400) ∧ ((v0 8).toInt ≤ z110.toInt) ∧ (z110.toInt ≤ (v0 8).toInt + 1) := ⟨(by first | with_reducible assumption | exact ⟨by omega, by omega⟩), by omega, by omega⟩
                have hP9 : va_P (dC, dI) vwCl ([(h0, .inr (3, mX3 h1 h8 h17 h25 h26 h27 h28 h29 (upd v0 8 z110))), (h1, .inr (10, mX10 h2 h3 h4 h5 h6 h7 v1)), (h27, zi k27 400 f_41), (h25, .inl (k25, 400, .inr (.inr (.inr (.inr (q74_ 0)))))), (h3, zi k3 400 f3), (h8, .inr (6, mX6 h9 h10 h11 h12 h13 h14 h15 h16 v8)), (h14, zi k14 400 f14), (h12, zi k12 400 f12), (h9, zi k9 1250 f9), (h10, zi k10 833 f10), (h11, zi k11 833 f11), (h13, zi k13 400 f13), (h26, zi k26 400 f_103)] ++ plx7) H := hP
                have hD9 : va_D A ([(h0, .inr (3, mX3 h1 h8 h17 h25 h26 h27 h28 h29 (upd v0 8 z110))), (h1, .inr (10, mX10 h2 h3 h4 h5 h6 h7 v1)), (h27, zi k27 400 f_41), (h25, .inl (k25, 400, .inr (.inr (.inr (.inr (q74_ 0)))))), (h3, zi k3 400 f3), (h8, .inr (6, mX6 h9 h10 h11 h12 h13 h14 h15 h16 v8)), (h14, zi k14 400 f14), (h12, zi k12 400 f12), (h9, zi k9 1250 f9), (h10, zi k10 833 f10), (h11, zi k11 833 f11), (h13, zi k13 400 f13), (h26, zi k26 400 f_103)] ++ plx7) := hD
                have hB0 : zRd h8 (q74_ 0) plx7 := by assumption
                have hB1 : zKp h8 pl0 plx7 := by first | assumption | exact zKp_rf
                exact W.vret hx hb hr (fun t ht hW => ⟨⟨(fun i => ([z110] : List (Int32)).getD i 0), rfl, hpost, (fun _ => 0), (fun i => ([f_41, f_103] : List (Nat → Int32)).getD i (fun _ => 0)), (fun _ => (fun _ => 0)), (fun i => ([(q74_ 0)] : List (Nat → Option Nat)).getD i (fun _ => none)), plx7, hf_103, hB0, hB1, by rw [ht]; exact hP9, va_K.moved hW.alike hK, hD9⟩, hS.F ht⟩) hS.2.2 dX3_want_114
            · skip
              refine lv_ifnonnull (tgt := 74) hx hb dX3_want_51 (by decide) ?_
              refine W.widen (k := 1) (n := 9) (by decide) (by decide) ?_
              have hc : va_P (dC, dI) vwCl ([(h0, .inr (3, mX3 h1 h8 h17 h25 h26 h27 h28 h29 v0)), (h1, .inr (10, mX10 h2 h3 h4 h5 h6 h7 v1)), (h27, zi k27 400 f_41), (h25, .inl (k25, 400, .inr (.inr (.inr (.inr f25))))), (h3, zi k3 400 f3), (h8, .inr (6, mX6 h9 h10 h11 h12 h13 h14 h15 h16 v8)), (h14, zi k14 400 f14), (h12, zi k12 400 f12), (h9, zi k9 1250 f9), (h10, zi k10 833 f10), (h11, zi k11 833 f11), (h13, zi k13 400 f13), (h26, zi k26 400 f26)] ++ pl0) H ∧ va_D A ([(h0, .inr (3, mX3 h1 h8 h17 h25 h26 h27 h28 h29 v0)), (h1, .inr (10, mX10 h2 h3 h4 h5 h6 h7 v1)), (h27, zi k27 400 f_41), (h25, .inl (k25, 400, .inr (.inr (.inr (.inr f25))))), (h3, zi k3 400 f3), (h8, .inr (6, mX6 h9 h10 h11 h12 h13 h14 h15 h16 v8)), (h14, zi k14 400 f14), (h12, zi k12 400 f12), (h9, zi k9 1250 f9), (h10, zi k10 833 f10), (h11, zi k11 833 f11), (h13, zi k13 400 f13), (h26, zi k26 400 f26)] ++ pl0) ∧ va_S A s.heap H locs ∧ lv_has ls 2 [(0, .ref h0), (1, .int x1)] ∧ (f25 (((v0 8) : Int32)).toNatClampNeg ≠ none) ∧ (zRd h8 f25 pl0) ∧ (zKp h8 pl0 pl0) := ⟨hP, hD, hS, lv_sub hl [0, 1] rfl, by first | (rw [e_f_73, va_up_self]; exact fun h => by cases h) | exact fun h => by (rw [h] at e_o50; cases e_o50), by assumption, by first | assumption | exact zKp_rf⟩
              exact hJ74 H locs ls (fun _ => 0) (fun _ => 0) (fun _ => (fun _ => 0)) (fun _ => (fun _ => 0)) ⟨(fun i => ([f25] : List (Nat → Option Nat)).getD i (fun _ => none)), pl0, hc⟩
        · skip
          have b_ := zF_lt rfl zk_400 c_
          refine W.widen (k := 1) (n := 9) (by decide) (by decide) ?_
          have hpost : (0 ≤ (v0 8).toInt ∧ (v0 8).toInt ≤ 400) ∧ ((v0 8).toInt ≤ (v0 8).toInt) ∧ ((v0 8).toInt ≤ (v0 8).toInt + 1) := ⟨(by first | with_reducible assumption | exact ⟨by omega, by omega⟩), by omega, by omega⟩
          have hP9 : va_P (dC, dI) vwCl ([(h0, .inr (3, mX3 h1 h8 h17 h25 h26 h27 h28 h29 (upd v0 8 (v0 8)))), (h1, .inr (10, mX10 h2 h3 h4 h5 h6 h7 v1)), (h27, zi k27 400 f27), (h25, .inl (k25, 400, .inr (.inr (.inr (.inr f25))))), (h3, zi k3 400 f3), (h8, .inr (6, mX6 h9 h10 h11 h12 h13 h14 h15 h16 v8)), (h14, zi k14 400 f14), (h12, zi k12 400 f12), (h9, zi k9 1250 f9), (h10, zi k10 833 f10), (h11, zi k11 833 f11), (h13, zi k13 400 f13), (h26, zi k26 400 f26)] ++ pl0) H := hP
          have hD9 : va_D A ([(h0, .inr (3, mX3 h1 h8 h17 h25 h26 h27 h28 h29 (upd v0 8 (v0 8)))), (h1, .inr (10, mX10 h2 h3 h4 h5 h6 h7 v1)), (h27, zi k27 400 f27), (h25, .inl (k25, 400, .inr (.inr (.inr (.inr f25))))), (h3, zi k3 400 f3), (h8, .inr (6, mX6 h9 h10 h11 h12 h13 h14 h15 h16 v8)), (h14, zi k14 400 f14), (h12, zi k12 400 f12), (h9, zi k9 1250 f9), (h10, zi k10 833 f10), (h11, zi k11 833 f11), (h13, zi k13 400 f13), (h26, zi k26 400 f26)] ++ pl0) := hD
          have hB0 : zRd h8 f25 pl0 := by assumption
          have hB1 : zKp h8 pl0 pl0 := by first | assumption | exact zKp_rf
          exact W.vret hx hb hr (fun t ht hW => ⟨⟨(fun i => ([(v0 8)] : List (Int32)).getD i 0), rfl, hpost, (fun _ => 0), (fun i => ([f27, f26] : List (Nat → Int32)).getD i (fun _ => 0)), (fun _ => (fun _ => 0)), (fun i => ([f25] : List (Nat → Option Nat)).getD i (fun _ => none)), pl0, hf26, hB0, hB1, by rw [ht]; exact hP9, va_K.moved hW.alike hK, hD9⟩, hS.F ht⟩) hS.2.2 dX3_want_34
set_option maxHeartbeats 8000000 in
set_option maxRecDepth 100000 in
theorem sX6_bitsOfChunk_0 (l : Launch) (dC : Nat → ClassId) (dI : Nat → Nat → Nat) (adK adV : Nat → Nat) (sz : Nat) (x0 : Int32) : Met l yX6_bitsOfChunk (zw yX6_bitsOfChunk cX6_bitsOfChunk 1 (some .int)) { frames := 0, cells := 0, slots := 0, locals := 0 } (zPc dC dI adK adV [.int x0] sz [] []) (va_Qi (fun (r : Int32) (u : Nat → Int32) => (0 ≤ x0.toInt → zBs x0.toInt r.toInt)) (fun (u : Nat → Int32) (t : State) => ∃ (ww : Nat → Int64) (aa : Nat → Nat → Int32) (bb : Nat → Nat → Int64), va_P (dC, dI) vwCl [] t.heap ∧ va_K (dC, dI) vwCl [] t ∧ va_D (va_A [] sz) []) (va_A [] sz)) 0 0 (va_A [] sz) := by
  refine Met.ofW (cc := cX6_bitsOfChunk) (maxL := 1) (ret := (some .int)) (by decide) rfl ?_
  intro p e s m args below meth c s₁ B hml hv
  obtain ⟨rfl, hsz, hP, hK, hD0, hE, hZ⟩ := hv
  have hx := B.exec
  have hb := B.bytes
  have hr := B.returns
  have hG : ∀ w ∈ zG, w.before _ s = true := fun w h => atoms_spec (ws := (zw yX6_bitsOfChunk cX6_bitsOfChunk 1 (some .int))) B.pre w (List.mem_cons_of_mem _ h)
  have hown : s.vm.findClass RX6 = some m.cls := findClass_of_methodNamed B.named
  have hlocks := B.notSynchronized

  subst hsz
  have hD := hD0.self (sz := s.heap.size)
  generalize hAe : va_A [] s.heap.size = A at hD hZ ⊢
  have hA : ∀ q : Nat, s.heap.size ≤ q → A q := fun q h => by rw [← hAe]; exact Or.inr h
  have hS : va_S A s.heap s.heap [] := va_S.rf
  have hl := lv_entry ([.int x0]) (n := 1) (Nat.le_of_ble_eq_true rfl)
  rw [lg_entry_eq]
  generalize (lg_sl ([.int x0]) ++ List.replicate (1 - (lg_sl ([.int x0])).length) Slot.unset).toArray = ls at hl ⊢
  have hl : lv_has ls 1 [(0, .int x0)] := hl
  have b_ := zk_256
  refine lv_iload_n hx hb dX6_bitsOfChunk_0 rfl (lv_at hl 0 rfl) ?_
  refine lv_iconst (v := 3) hx hb dX6_bitsOfChunk_1 (by decide) ?_
  have b_ : -2147483648 ≤ x0.toInt ∧ x0.toInt ≤ 2147483647 := ⟨zlo _, zhi _⟩
  refine lv_icmp_ge (tgt := 12) hx hb dX6_bitsOfChunk_2 (by decide) (fun c_ => ?_) (fun c_ => ?_)
  · skip
    have b_ := zT_ge rfl zk_3 c_
    refine lv_sipush (v := 256) hx hb dX6_bitsOfChunk_12 (by decide) ?_
    refine W.widen (k := 0) (n := 0) (by decide) (by decide) ?_
    have hpost : (0 ≤ x0.toInt → zBs x0.toInt (256 : Int32).toInt) := by intro _; unfold zBs; omega
    have hP9 : va_P (dC, dI) vwCl [] s.heap := hP
    have hD9 : va_D A [] := hD
    exact W.iret (v := 256) hx hb hr (fun t ht hW => ⟨⟨256, (fun _ => 0), rfl, hpost, (fun _ => 0), (fun _ => (fun _ => 0)), (fun _ => (fun _ => 0)), by rw [ht]; exact hP9, va_K.moved hW.alike hK, hD9⟩, hS.F ht⟩) hS.2.2 dX6_bitsOfChunk_15
  · skip
    have b_ := zF_ge rfl zk_3 c_
    refine lv_bipush (v := 32) hx hb dX6_bitsOfChunk_5 (by decide) ?_
    refine lv_iload_n hx hb dX6_bitsOfChunk_7 rfl (lv_at hl 0 rfl) ?_
    refine lv_ishl hx hb dX6_bitsOfChunk_8 ?_
    refine lv_topi (fun z8 e_z8 => ?_)
    have b_ : 0 ≤ x0.toInt → (x0.toInt = 0 ∧ z8.toInt = 32) ∨ (x0.toInt = 1 ∧ z8.toInt = 64) ∨ (x0.toInt = 2 ∧ z8.toInt = 128) ∨ (x0.toInt = 3 ∧ z8.toInt = 256) := fun h => zshl32 e_z8 h (by omega)
    refine lv_goto (tgt := 15) hx hb dX6_bitsOfChunk_9 (by decide) ?_
    refine W.widen (k := 0) (n := 0) (by decide) (by decide) ?_
    have b_ : -2147483648 ≤ z8.toInt ∧ z8.toInt ≤ 2147483647 := ⟨zlo _, zhi _⟩
    have hpost : (0 ≤ x0.toInt → zBs x0.toInt z8.toInt) := by intro _; unfold zBs; omega
    have hP9 : va_P (dC, dI) vwCl [] s.heap := hP
    have hD9 : va_D A [] := hD
    exact W.iret (v := z8) hx hb hr (fun t ht hW => ⟨⟨z8, (fun _ => 0), rfl, hpost, (fun _ => 0), (fun _ => (fun _ => 0)), (fun _ => (fun _ => 0)), by rw [ht]; exact hP9, va_K.moved hW.alike hK, hD9⟩, hS.F ht⟩) hS.2.2 dX6_bitsOfChunk_15
set_option maxHeartbeats 8000000 in
set_option maxRecDepth 100000 in
theorem sX6_chunkBehind_0 (l : Launch) (dC : Nat → ClassId) (dI : Nat → Nat → Nat) (adK adV : Nat → Nat) (h0 : Nat) (h3 : Nat) (h1 : Nat) (h2 : Nat) (h4 : Nat) (h5 : Nat) (h6 : Nat) (h7 : Nat) (h8 : Nat) (k3 : ClassId) (sz : Nat) (v0 : Nat → Int32) (f3 : Nat → Int32) (x1 : Int32) (hv0 : zR rg_Postings v0) : Met l yX6_chunkBehind (zw yX6_chunkBehind cX6_chunkBehind 2 (some .int)) { frames := 0, cells := 0, slots := 0, locals := 0 } (zPc dC dI adK adV [.ref h0, .int x1] sz [(h0, .inr (6, mX6 h1 h2 h3 h4 h5 h6 h7 h8 v0)), (h3, zi k3 833 f3)] [(k3, .int)]) (va_Qi (fun (r : Int32) (u : Nat → Int32) => (0 ≤ x1.toInt ∧ x1.toInt < (v0 8).toInt → r.toInt = (f3 ((x1 : Int32)).toNatClampNeg).toInt)) (fun (u : Nat → Int32) (t : State) => ∃ (ww : Nat → Int64) (aa : Nat → Nat → Int32) (bb : Nat → Nat → Int64), va_P (dC, dI) vwCl [(h0, .inr (6, mX6 h1 h2 h3 h4 h5 h6 h7 h8 v0)), (h3, zi k3 833 f3)] t.heap ∧ va_K (dC, dI) vwCl [(k3, .int)] t ∧ va_D (va_A [(h0, .inr (6, mX6 h1 h2 h3 h4 h5 h6 h7 h8 v0)), (h3, zi k3 833 f3)] sz) [(h0, .inr (6, mX6 h1 h2 h3 h4 h5 h6 h7 h8 v0)), (h3, zi k3 833 f3)]) (va_A [(h0, .inr (6, mX6 h1 h2 h3 h4 h5 h6 h7 h8 v0)), (h3, zi k3 833 f3)] sz)) 0 0 (va_A [(h0, .inr (6, mX6 h1 h2 h3 h4 h5 h6 h7 h8 v0)), (h3, zi k3 833 f3)] sz) := by
  refine Met.ofW (cc := cX6_chunkBehind) (maxL := 2) (ret := (some .int)) (by decide) rfl ?_
  intro p e s m args below meth c s₁ B hml hv
  obtain ⟨rfl, hsz, hP, hK, hD0, hE, hZ⟩ := hv
  have hx := B.exec
  have hb := B.bytes
  have hr := B.returns
  have hG : ∀ w ∈ zG, w.before _ s = true := fun w h => atoms_spec (ws := (zw yX6_chunkBehind cX6_chunkBehind 2 (some .int))) B.pre w (List.mem_cons_of_mem _ h)
  have hown : s.vm.findClass RX6 = some m.cls := findClass_of_methodNamed B.named
  have hlocks := B.notSynchronized

  subst hsz
  have hD := hD0.self (sz := s.heap.size)
  generalize hAe : va_A [(h0, .inr (6, mX6 h1 h2 h3 h4 h5 h6 h7 h8 v0)), (h3, zi k3 833 f3)] s.heap.size = A at hD hZ ⊢
  have hA : ∀ q : Nat, s.heap.size ≤ q → A q := fun q h => by rw [← hAe]; exact Or.inr h
  have hS : va_S A s.heap s.heap [] := va_S.rf
  have hl := lv_entry ([.ref h0, .int x1]) (n := 2) (Nat.le_of_ble_eq_true rfl)
  rw [lg_entry_eq]
  generalize (lg_sl ([.ref h0, .int x1]) ++ List.replicate (2 - (lg_sl ([.ref h0, .int x1])).length) Slot.unset).toArray = ls at hl ⊢
  have hl : lv_has ls 2 [(0, .ref h0), (1, .int x1)] := hl
  have b_ := zk_m1
  have b_ : 0 ≤ (v0 8).toInt ∧ (v0 8).toInt ≤ 833 := hv0 8
  refine lv_iload_n hx hb dX6_chunkBehind_0 rfl (lv_at hl 1 rfl) ?_
  have b_ : -2147483648 ≤ x1.toInt ∧ x1.toInt ≤ 2147483647 := ⟨zlo _, zhi _⟩
  refine lv_if_lt (tgt := 21) hx hb dX6_chunkBehind_1 (by decide) (fun c_ => ?_) (fun c_ => ?_)
  · skip
    have b_ := zT_lt rfl zk_0 c_
    refine lv_iconst (v := (-1)) hx hb dX6_chunkBehind_21 (by decide) ?_
    refine W.widen (k := 0) (n := 0) (by decide) (by decide) ?_
    have hpost : (0 ≤ x1.toInt ∧ x1.toInt < (v0 8).toInt → ((-1) : Int32).toInt = (f3 ((x1 : Int32)).toNatClampNeg).toInt) := by first | (intro q; rw [e_z17]) | (intro q; omega)
    have hP9 : va_P (dC, dI) vwCl [(h0, .inr (6, mX6 h1 h2 h3 h4 h5 h6 h7 h8 v0)), (h3, zi k3 833 f3)] s.heap := hP
    have hD9 : va_D A [(h0, .inr (6, mX6 h1 h2 h3 h4 h5 h6 h7 h8 v0)), (h3, zi k3 833 f3)] := hD
    exact W.iret (v := (-1)) hx hb hr (fun t ht hW => ⟨⟨(-1), (fun _ => 0), rfl, hpost, (fun _ => 0), (fun _ => (fun _ => 0)), (fun _ => (fun _ => 0)), by rw [ht]; exact hP9, va_K.moved hW.alike hK, hD9⟩, hS.F ht⟩) hS.2.2 dX6_chunkBehind_22
  · skip
    have b_ := zF_lt rfl zk_0 c_
    refine lv_iload_n hx hb dX6_chunkBehind_4 rfl (lv_at hl 1 rfl) ?_
    refine lv_aload_n hx hb dX6_chunkBehind_5 rfl (lv_at hl 0 rfl) ?_
    refine va_get (D := (dC, dI)) (ci := 6) (v := .int (v0 8)) (C := RX6) (T := TX6) (N := 12) hx hb hG zuX6 hown hK hP 0 rfl rfl 8 (by decide) (hG _ zv256) (fun _ h9 => h9) rfl dX6_chunkBehind_6 ?_
    refine lv_icmp_ge (tgt := 21) hx hb dX6_chunkBehind_9 (by decide) (fun c_ => ?_) (fun c_ => ?_)
    · skip
      have b_ := zT_ge rfl rfl c_
      refine lv_iconst (v := (-1)) hx hb dX6_chunkBehind_21 (by decide) ?_
      refine W.widen (k := 0) (n := 0) (by decide) (by decide) ?_
      have hpost : (0 ≤ x1.toInt ∧ x1.toInt < (v0 8).toInt → ((-1) : Int32).toInt = (f3 ((x1 : Int32)).toNatClampNeg).toInt) := by first | (intro q; rw [e_z17]) | (intro q; omega)
      have hP9 : va_P (dC, dI) vwCl [(h0, .inr (6, mX6 h1 h2 h3 h4 h5 h6 h7 h8 v0)), (h3, zi k3 833 f3)] s.heap := hP
      have hD9 : va_D A [(h0, .inr (6, mX6 h1 h2 h3 h4 h5 h6 h7 h8 v0)), (h3, zi k3 833 f3)] := hD
      exact W.iret (v := (-1)) hx hb hr (fun t ht hW => ⟨⟨(-1), (fun _ => 0), rfl, hpost, (fun _ => 0), (fun _ => (fun _ => 0)), (fun _ => (fun _ => 0)), by rw [ht]; exact hP9, va_K.moved hW.alike hK, hD9⟩, hS.F ht⟩) hS.2.2 dX6_chunkBehind_22
    · skip
      have b_ := zF_ge rfl rfl c_
      refine lv_aload_n hx hb dX6_chunkBehind_12 rfl (lv_at hl 0 rfl) ?_
      refine va_get (D := (dC, dI)) (ci := 6) (v := .ref h3) (C := RX6) (T := TX6) (N := 12) hx hb hG zuX6 hown hK hP 0 rfl rfl 2 (by decide) (hG _ zv250) (fun _ h9 => h9) rfl dX6_chunkBehind_13 ?_
      refine lv_iload_n hx hb dX6_chunkBehind_16 rfl (lv_at hl 1 rfl) ?_
      refine va_iald hx hb hK hP 1 0 rfl rfl (zin_lit ⟨by omega, by omega⟩) dX6_chunkBehind_17 ?_
      refine lv_topi (fun z17 e_z17 => ?_)
      refine lv_goto (tgt := 22) hx hb dX6_chunkBehind_18 (by decide) ?_
      refine W.widen (k := 0) (n := 0) (by decide) (by decide) ?_
      have b_ : -2147483648 ≤ z17.toInt ∧ z17.toInt ≤ 2147483647 := ⟨zlo _, zhi _⟩
      have hpost : (0 ≤ x1.toInt ∧ x1.toInt < (v0 8).toInt → z17.toInt = (f3 ((x1 : Int32)).toNatClampNeg).toInt) := by first | (intro q; rw [e_z17]) | (intro q; omega)
      have hP9 : va_P (dC, dI) vwCl [(h0, .inr (6, mX6 h1 h2 h3 h4 h5 h6 h7 h8 v0)), (h3, zi k3 833 f3)] s.heap := hP
      have hD9 : va_D A [(h0, .inr (6, mX6 h1 h2 h3 h4 h5 h6 h7 h8 v0)), (h3, zi k3 833 f3)] := hD
      exact W.iret (v := z17) hx hb hr (fun t ht hW => ⟨⟨z17, (fun _ => 0), rfl, hpost, (fun _ => 0), (fun _ => (fun _ => 0)), (fun _ => (fun _ => 0)), by rw [ht]; exact hP9, va_K.moved hW.alike hK, hD9⟩, hS.F ht⟩) hS.2.2 dX6_chunkBehind_22
set_option maxHeartbeats 8000000 in
set_option maxRecDepth 100000 in
theorem sX6_bitInChunk_0 (l : Launch) (dC : Nat → ClassId) (dI : Nat → Nat → Nat) (adK adV : Nat → Nat) (h0 : Nat) (h2 : Nat) (h1 : Nat) (h3 : Nat) (h4 : Nat) (h5 : Nat) (h6 : Nat) (h7 : Nat) (h8 : Nat) (k2 : ClassId) (k1 : ClassId) (sz : Nat) (v0 : Nat → Int32) (f2 : Nat → Int32) (f1 : Nat → Int32) (x1 : Int32) (x2 : Int32) (hv0 : zR rg_Postings v0) (hf2 : zA 0 1250 f2) : Met l yX6_bitInChunk (zw yX6_bitInChunk cX6_bitInChunk 4 (some .int)) { frames := 0, cells := 0, slots := 0, locals := 0 } (zPc dC dI adK adV [.ref h0, .int x1, .int x2] sz [(h0, .inr (6, mX6 h1 h2 h3 h4 h5 h6 h7 h8 v0)), (h2, zi k2 833 f2), (h1, zi k1 1250 f1)] [(k2, .int), (k1, .int)]) (va_Qi (fun (r : Int32) (u : Nat → Int32) => (0 ≤ r.toInt ∧ r.toInt ≤ 1) ∧ (zBi f1 f2 (v0 8).toInt (x1 : Int32) x2.toInt r.toInt)) (fun (u : Nat → Int32) (t : State) => ∃ (ww : Nat → Int64) (aa : Nat → Nat → Int32) (bb : Nat → Nat → Int64), va_P (dC, dI) vwCl [(h0, .inr (6, mX6 h1 h2 h3 h4 h5 h6 h7 h8 v0)), (h2, zi k2 833 f2), (h1, zi k1 1250 f1)] t.heap ∧ va_K (dC, dI) vwCl [(k2, .int), (k1, .int)] t ∧ va_D (va_A [(h0, .inr (6, mX6 h1 h2 h3 h4 h5 h6 h7 h8 v0)), (h2, zi k2 833 f2), (h1, zi k1 1250 f1)] sz) [(h0, .inr (6, mX6 h1 h2 h3 h4 h5 h6 h7 h8 v0)), (h2, zi k2 833 f2), (h1, zi k1 1250 f1)]) (va_A [(h0, .inr (6, mX6 h1 h2 h3 h4 h5 h6 h7 h8 v0)), (h2, zi k2 833 f2), (h1, zi k1 1250 f1)] sz)) 0 0 (va_A [(h0, .inr (6, mX6 h1 h2 h3 h4 h5 h6 h7 h8 v0)), (h2, zi k2 833 f2), (h1, zi k1 1250 f1)] sz) := by
  refine Met.ofW (cc := cX6_bitInChunk) (maxL := 4) (ret := (some .int)) (by decide) rfl ?_
  intro p e s m args below meth c s₁ B hml hv
  obtain ⟨rfl, hsz, hP, hK, hD0, hE, hZ⟩ := hv
  have hx := B.exec
  have hb := B.bytes
  have hr := B.returns
  have hG : ∀ w ∈ zG, w.before _ s = true := fun w h => atoms_spec (ws := (zw yX6_bitInChunk cX6_bitInChunk 4 (some .int))) B.pre w (List.mem_cons_of_mem _ h)
  have hown : s.vm.findClass RX6 = some m.cls := findClass_of_methodNamed B.named
  have hlocks := B.notSynchronized

  subst hsz
  have hD := hD0.self (sz := s.heap.size)
  generalize hAe : va_A [(h0, .inr (6, mX6 h1 h2 h3 h4 h5 h6 h7 h8 v0)), (h2, zi k2 833 f2), (h1, zi k1 1250 f1)] s.heap.size = A at hD hZ ⊢
  have hA : ∀ q : Nat, s.heap.size ≤ q → A q := fun q h => by rw [← hAe]; exact Or.inr h
  have hS : va_S A s.heap s.heap [] := va_S.rf
  have hl := lv_entry ([.ref h0, .int x1, .int x2]) (n := 4) (Nat.le_of_ble_eq_true rfl)
  rw [lg_entry_eq]
  generalize (lg_sl ([.ref h0, .int x1, .int x2]) ++ List.replicate (4 - (lg_sl ([.ref h0, .int x1, .int x2])).length) Slot.unset).toArray = ls at hl ⊢
  have hl : lv_has ls 4 [(0, .ref h0), (1, .int x1), (2, .int x2)] := hl
  have b_ := zk_0
  have b_ : 0 ≤ (v0 8).toInt ∧ (v0 8).toInt ≤ 833 := hv0 8
  refine lv_iload_n hx hb dX6_bitInChunk_0 rfl (lv_at hl 1 rfl) ?_
  have b_ : -2147483648 ≤ x1.toInt ∧ x1.toInt ≤ 2147483647 := ⟨zlo _, zhi _⟩
  refine lv_if_lt (tgt := 16) hx hb dX6_bitInChunk_1 (by decide) (fun c_ => ?_) (fun c_ => ?_)
  · skip
    have b_ := zT_lt rfl zk_0 c_
    refine lv_iconst (v := 0) hx hb dX6_bitInChunk_16 (by decide) ?_
    refine W.widen (k := 0) (n := 0) (by decide) (by decide) ?_
    have hpost : (0 ≤ (0 : Int32).toInt ∧ (0 : Int32).toInt ≤ 1) ∧ (zBi f1 f2 (v0 8).toInt (x1 : Int32) x2.toInt (0 : Int32).toInt) := ⟨(by first | with_reducible assumption | exact ⟨by omega, by omega⟩), by first | exact zBi_i e_z44 (by rw [← e_z23]; omega) (by omega) e_z52 e_z54 (by omega) | exact zBi_o (P := z28) (by rw [← e_z23]; omega) (by omega) | exact zBi_x (by omega)⟩
    have hP9 : va_P (dC, dI) vwCl [(h0, .inr (6, mX6 h1 h2 h3 h4 h5 h6 h7 h8 v0)), (h2, zi k2 833 f2), (h1, zi k1 1250 f1)] s.heap := hP
    have hD9 : va_D A [(h0, .inr (6, mX6 h1 h2 h3 h4 h5 h6 h7 h8 v0)), (h2, zi k2 833 f2), (h1, zi k1 1250 f1)] := hD
    exact W.iret (v := 0) hx hb hr (fun t ht hW => ⟨⟨0, (fun _ => 0), rfl, hpost, (fun _ => 0), (fun _ => (fun _ => 0)), (fun _ => (fun _ => 0)), by rw [ht]; exact hP9, va_K.moved hW.alike hK, hD9⟩, hS.F ht⟩) hS.2.2 dX6_bitInChunk_17
  · skip
    have b_ := zF_lt rfl zk_0 c_
    refine lv_iload_n hx hb dX6_bitInChunk_4 rfl (lv_at hl 1 rfl) ?_
    refine lv_aload_n hx hb dX6_bitInChunk_5 rfl (lv_at hl 0 rfl) ?_
    refine va_get (D := (dC, dI)) (ci := 6) (v := .int (v0 8)) (C := RX6) (T := TX6) (N := 12) hx hb hG zuX6 hown hK hP 0 rfl rfl 8 (by decide) (hG _ zv256) (fun _ h9 => h9) rfl dX6_bitInChunk_6 ?_
    refine lv_icmp_ge (tgt := 16) hx hb dX6_bitInChunk_9 (by decide) (fun c_ => ?_) (fun c_ => ?_)
    · skip
      have b_ := zT_ge rfl rfl c_
      refine lv_iconst (v := 0) hx hb dX6_bitInChunk_16 (by decide) ?_
      refine W.widen (k := 0) (n := 0) (by decide) (by decide) ?_
      have hpost : (0 ≤ (0 : Int32).toInt ∧ (0 : Int32).toInt ≤ 1) ∧ (zBi f1 f2 (v0 8).toInt (x1 : Int32) x2.toInt (0 : Int32).toInt) := ⟨(by first | with_reducible assumption | exact ⟨by omega, by omega⟩), by first | exact zBi_i e_z44 (by rw [← e_z23]; omega) (by omega) e_z52 e_z54 (by omega) | exact zBi_o (P := z28) (by rw [← e_z23]; omega) (by omega) | exact zBi_x (by omega)⟩
      have hP9 : va_P (dC, dI) vwCl [(h0, .inr (6, mX6 h1 h2 h3 h4 h5 h6 h7 h8 v0)), (h2, zi k2 833 f2), (h1, zi k1 1250 f1)] s.heap := hP
      have hD9 : va_D A [(h0, .inr (6, mX6 h1 h2 h3 h4 h5 h6 h7 h8 v0)), (h2, zi k2 833 f2), (h1, zi k1 1250 f1)] := hD
      exact W.iret (v := 0) hx hb hr (fun t ht hW => ⟨⟨0, (fun _ => 0), rfl, hpost, (fun _ => 0), (fun _ => (fun _ => 0)), (fun _ => (fun _ => 0)), by rw [ht]; exact hP9, va_K.moved hW.alike hK, hD9⟩, hS.F ht⟩) hS.2.2 dX6_bitInChunk_17
    · skip
      have b_ := zF_ge rfl rfl c_
      refine lv_iload_n hx hb dX6_bitInChunk_12 rfl (lv_at hl 2 rfl) ?_
      have b_ : -2147483648 ≤ x2.toInt ∧ x2.toInt ≤ 2147483647 := ⟨zlo _, zhi _⟩
      refine lv_if_ge (tgt := 18) hx hb dX6_bitInChunk_13 (by decide) (fun c_ => ?_) (fun c_ => ?_)
      · skip
        have b_ := zT_ge rfl zk_0 c_
        refine lv_aload_n hx hb dX6_bitInChunk_18 rfl (lv_at hl 0 rfl) ?_
        refine va_get (D := (dC, dI)) (ci := 6) (v := .ref h2) (C := RX6) (T := TX6) (N := 12) hx hb hG zuX6 hown hK hP 0 rfl rfl 1 (by decide) (hG _ zv249) (fun _ h9 => h9) rfl dX6_bitInChunk_19 ?_
        refine lv_iload_n hx hb dX6_bitInChunk_22 rfl (lv_at hl 1 rfl) ?_
        refine va_iald hx hb hK hP 1 0 rfl rfl (zin_lit ⟨by omega, by omega⟩) dX6_bitInChunk_23 ?_
        refine lv_topi (fun z23 e_z23 => ?_)
        have b_ : 0 ≤ z23.toInt ∧ z23.toInt ≤ 1250 := by rw [e_z23]; exact hf2 _
        refine lv_iload_n hx hb dX6_bitInChunk_24 rfl (lv_at hl 2 rfl) ?_
        refine lv_bipush (v := 32) hx hb dX6_bitInChunk_25 (by decide) ?_
        refine lv_idiv hx hb dX6_bitInChunk_27 (by decide) ?_
        refine lv_topi (fun z27 e_z27 => ?_)
        have b_ := zdiv rfl zk_32 e_z27 (by omega) (by decide)
        refine lv_iadd hx hb dX6_bitInChunk_28 ?_
        refine lv_topi (fun z28 e_z28 => ?_)
        have b_ := zadd rfl rfl e_z28 (by omega) (by omega)
        refine lv_istore_n (lv' := [(3, .int z28), (0, .ref h0), (1, .int x1), (2, .int x2)]) hx hb dX6_bitInChunk_29 rfl hl (by decide) rfl (fun ls hl => ?_)
        refine lv_iload_n hx hb dX6_bitInChunk_30 rfl (lv_at hl 0 rfl) ?_
        refine lv_aload_n hx hb dX6_bitInChunk_31 rfl (lv_at hl 1 rfl) ?_
        refine va_get (D := (dC, dI)) (ci := 6) (v := .ref h1) (C := RX6) (T := TX6) (N := 12) hx hb hG zuX6 hown hK hP 0 rfl rfl 0 (by decide) (hG _ zv248) (fun _ h9 => h9) rfl dX6_bitInChunk_32 ?_
        refine va_alen (v := 1250) hx hb hK hP 2 1 rfl rfl (show Int32.ofNat 1250 = 1250 from by decide +kernel) dX6_bitInChunk_35 ?_
        refine lv_icmp_ge (tgt := 58) hx hb dX6_bitInChunk_36 (by decide) (fun c_ => ?_) (fun c_ => ?_)
        · skip
          have b_ := zT_ge rfl zk_1250 c_
          refine lv_iconst (v := 0) hx hb dX6_bitInChunk_58 (by decide) ?_
          refine W.widen (k := 0) (n := 0) (by decide) (by decide) ?_
          have hpost : (0 ≤ (0 : Int32).toInt ∧ (0 : Int32).toInt ≤ 1) ∧ (zBi f1 f2 (v0 8).toInt (x1 : Int32) x2.toInt (0 : Int32).toInt) := ⟨(by first | with_reducible assumption | exact ⟨by omega, by omega⟩), by first | exact zBi_i e_z44 (by rw [← e_z23]; omega) (by omega) e_z52 e_z54 (by omega) | exact zBi_o (P := z28) (by rw [← e_z23]; omega) (by omega) | exact zBi_x (by omega)⟩
          have hP9 : va_P (dC, dI) vwCl [(h0, .inr (6, mX6 h1 h2 h3 h4 h5 h6 h7 h8 v0)), (h2, zi k2 833 f2), (h1, zi k1 1250 f1)] s.heap := hP
          have hD9 : va_D A [(h0, .inr (6, mX6 h1 h2 h3 h4 h5 h6 h7 h8 v0)), (h2, zi k2 833 f2), (h1, zi k1 1250 f1)] := hD
          exact W.iret (v := 0) hx hb hr (fun t ht hW => ⟨⟨0, (fun _ => 0), rfl, hpost, (fun _ => 0), (fun _ => (fun _ => 0)), (fun _ => (fun _ => 0)), by rw [ht]; exact hP9, va_K.moved hW.alike hK, hD9⟩, hS.F ht⟩) hS.2.2 dX6_bitInChunk_59
        · skip
          have b_ := zF_ge rfl zk_1250 c_
          refine lv_aload_n hx hb dX6_bitInChunk_39 rfl (lv_at hl 1 rfl) ?_
          refine va_get (D := (dC, dI)) (ci := 6) (v := .ref h1) (C := RX6) (T := TX6) (N := 12) hx hb hG zuX6 hown hK hP 0 rfl rfl 0 (by decide) (hG _ zv248) (fun _ h9 => h9) rfl dX6_bitInChunk_40 ?_
          refine lv_iload_n hx hb dX6_bitInChunk_43 rfl (lv_at hl 0 rfl) ?_
          refine va_iald hx hb hK hP 2 1 rfl rfl (zin_lit ⟨by omega, by omega⟩) dX6_bitInChunk_44 ?_
          refine lv_topi (fun z44 e_z44 => ?_)
          refine lv_bipush (v := 31) hx hb dX6_bitInChunk_45 (by decide) ?_
          refine lv_iload_n hx hb dX6_bitInChunk_47 rfl (lv_at hl 3 rfl) ?_
          refine lv_bipush (v := 32) hx hb dX6_bitInChunk_48 (by decide) ?_
          refine lv_irem hx hb dX6_bitInChunk_50 (by decide) ?_
          refine lv_topi (fun z50 e_z50 => ?_)
          have b_ := zrem rfl zk_32 e_z50 (by omega) (by decide)
          refine lv_isub hx hb dX6_bitInChunk_51 ?_
          refine lv_topi (fun z51 e_z51 => ?_)
          have b_ := zsub zk_31 rfl e_z51 (by omega) (by omega)
          have b_ : -2147483648 ≤ z44.toInt ∧ z44.toInt ≤ 2147483647 := ⟨zlo _, zhi _⟩
          refine lv_iushr hx hb dX6_bitInChunk_52 rfl ?_
          refine lv_topi (fun z52 e_z52 => ?_)
          refine lv_iconst (v := 1) hx hb dX6_bitInChunk_53 (by decide) ?_
          have b_ : -2147483648 ≤ z52.toInt ∧ z52.toInt ≤ 2147483647 := ⟨zlo _, zhi _⟩
          refine lv_iand hx hb dX6_bitInChunk_54 ?_
          refine lv_topi (fun z54 e_z54 => ?_)
          have b_ := zand (x := z52) zk_1 e_z54 (by decide)
          refine lv_goto (tgt := 59) hx hb dX6_bitInChunk_55 (by decide) ?_
          refine W.widen (k := 0) (n := 0) (by decide) (by decide) ?_
          have hpost : (0 ≤ z54.toInt ∧ z54.toInt ≤ 1) ∧ (zBi f1 f2 (v0 8).toInt (x1 : Int32) x2.toInt z54.toInt) := ⟨(by first | with_reducible assumption | exact ⟨by omega, by omega⟩), by first | exact zBi_i e_z44 (by rw [← e_z23]; omega) (by omega) e_z52 e_z54 (by omega) | exact zBi_o (P := z28) (by rw [← e_z23]; omega) (by omega) | exact zBi_x (by omega)⟩
          have hP9 : va_P (dC, dI) vwCl [(h0, .inr (6, mX6 h1 h2 h3 h4 h5 h6 h7 h8 v0)), (h2, zi k2 833 f2), (h1, zi k1 1250 f1)] s.heap := hP
          have hD9 : va_D A [(h0, .inr (6, mX6 h1 h2 h3 h4 h5 h6 h7 h8 v0)), (h2, zi k2 833 f2), (h1, zi k1 1250 f1)] := hD
          exact W.iret (v := z54) hx hb hr (fun t ht hW => ⟨⟨z54, (fun _ => 0), rfl, hpost, (fun _ => 0), (fun _ => (fun _ => 0)), (fun _ => (fun _ => 0)), by rw [ht]; exact hP9, va_K.moved hW.alike hK, hD9⟩, hS.F ht⟩) hS.2.2 dX6_bitInChunk_59
      · skip
        have b_ := zF_ge rfl zk_0 c_
        refine lv_iconst (v := 0) hx hb dX6_bitInChunk_16 (by decide) ?_
        refine W.widen (k := 0) (n := 0) (by decide) (by decide) ?_
        have hpost : (0 ≤ (0 : Int32).toInt ∧ (0 : Int32).toInt ≤ 1) ∧ (zBi f1 f2 (v0 8).toInt (x1 : Int32) x2.toInt (0 : Int32).toInt) := ⟨(by first | with_reducible assumption | exact ⟨by omega, by omega⟩), by first | exact zBi_i e_z44 (by rw [← e_z23]; omega) (by omega) e_z52 e_z54 (by omega) | exact zBi_o (P := z28) (by rw [← e_z23]; omega) (by omega) | exact zBi_x (by omega)⟩
        have hP9 : va_P (dC, dI) vwCl [(h0, .inr (6, mX6 h1 h2 h3 h4 h5 h6 h7 h8 v0)), (h2, zi k2 833 f2), (h1, zi k1 1250 f1)] s.heap := hP
        have hD9 : va_D A [(h0, .inr (6, mX6 h1 h2 h3 h4 h5 h6 h7 h8 v0)), (h2, zi k2 833 f2), (h1, zi k1 1250 f1)] := hD
        exact W.iret (v := 0) hx hb hr (fun t ht hW => ⟨⟨0, (fun _ => 0), rfl, hpost, (fun _ => 0), (fun _ => (fun _ => 0)), (fun _ => (fun _ => 0)), by rw [ht]; exact hP9, va_K.moved hW.alike hK, hD9⟩, hS.F ht⟩) hS.2.2 dX6_bitInChunk_17
set_option maxHeartbeats 8000000 in
set_option maxRecDepth 100000 in
theorem sX8_oneBit_0 (l : Launch) (dC : Nat → ClassId) (dI : Nat → Nat → Nat) (adK adV : Nat → Nat) (h0 : Nat) (h1 : Nat) (h4 : Nat) (h3 : Nat) (h2 : Nat) (h5 : Nat) (h6 : Nat) (h7 : Nat) (h8 : Nat) (h9 : Nat) (k4 : ClassId) (k3 : ClassId) (k2 : ClassId) (k5 : ClassId) (k6 : ClassId) (k7 : ClassId) (sz : Nat) (v0 : Nat → Int32) (v1 : Nat → Int32) (f4 : Nat → Int32) (f3 : Nat → Int32) (f2 : Nat → Int32) (f5 : Nat → Int32) (f6 : Nat → Int32) (f7 : Nat → Int32) (hv1 : zR rg_Postings v1) (hf3 : zA 0 1250 f3) (hf6 : zA 0 832 f6) : Met l yX8_oneBit (zw yX8_oneBit cX8_oneBit 2 (some .int)) { frames := 1, cells := 0, slots := 0, locals := 23 } (zPc dC dI adK adV [.ref h0] sz [(h0, .inr (8, mX8 h1 v0)), (h1, .inr (6, mX6 h2 h3 h4 h5 h6 h7 h8 h9 v1)), (h4, zi k4 833 f4), (h3, zi k3 833 f3), (h2, zi k2 1250 f2), (h5, zi k5 400 f5), (h6, zi k6 400 f6), (h7, zi k7 400 f7)] [(k4, .int), (k3, .int), (k2, .int), (k5, .int), (k6, .int), (k7, .int)]) (va_Qi (fun (r : Int32) (u : Nat → Int32) => (0 ≤ r.toInt ∧ r.toInt ≤ 1) ∧ ((-2147483648) ≤ (u 0).toInt ∧ (u 0).toInt ≤ 2147483646) ∧ (zOb f2 f3 f4 f5 f6 f7 (v1 8).toInt (v1 9).toInt (v1 10).toInt (v1 11).toInt (v0 1).toInt (v0 2).toInt (v0 3).toInt (v0 4).toInt (u 0).toInt (u 1).toInt (u 2).toInt (u 3).toInt r.toInt)) (fun (u : Nat → Int32) (t : State) => ∃ (ww : Nat → Int64) (aa : Nat → Nat → Int32) (bb : Nat → Nat → Int64), va_P (dC, dI) vwCl [(h0, .inr (8, mX8 h1 (upd (upd (upd (upd v0 1 (u 0)) 2 (u 1)) 3 (u 2)) 4 (u 3)))), (h1, .inr (6, mX6 h2 h3 h4 h5 h6 h7 h8 h9 v1)), (h4, zi k4 833 f4), (h3, zi k3 833 f3), (h2, zi k2 1250 f2), (h5, zi k5 400 f5), (h6, zi k6 400 f6), (h7, zi k7 400 f7)] t.heap ∧ va_K (dC, dI) vwCl [(k4, .int), (k3, .int), (k2, .int), (k5, .int), (k6, .int), (k7, .int)] t ∧ va_D (va_A [(h0, .inr (8, mX8 h1 v0)), (h1, .inr (6, mX6 h2 h3 h4 h5 h6 h7 h8 h9 v1)), (h4, zi k4 833 f4), (h3, zi k3 833 f3), (h2, zi k2 1250 f2), (h5, zi k5 400 f5), (h6, zi k6 400 f6), (h7, zi k7 400 f7)] sz) [(h0, .inr (8, mX8 h1 (upd (upd (upd (upd v0 1 (u 0)) 2 (u 1)) 3 (u 2)) 4 (u 3)))), (h1, .inr (6, mX6 h2 h3 h4 h5 h6 h7 h8 h9 v1)), (h4, zi k4 833 f4), (h3, zi k3 833 f3), (h2, zi k2 1250 f2), (h5, zi k5 400 f5), (h6, zi k6 400 f6), (h7, zi k7 400 f7)]) (va_A [(h0, .inr (8, mX8 h1 v0)), (h1, .inr (6, mX6 h2 h3 h4 h5 h6 h7 h8 h9 v1)), (h4, zi k4 833 f4), (h3, zi k3 833 f3), (h2, zi k2 1250 f2), (h5, zi k5 400 f5), (h6, zi k6 400 f6), (h7, zi k7 400 f7)] sz)) 0 0 (va_A [(h0, .inr (8, mX8 h1 v0)), (h1, .inr (6, mX6 h2 h3 h4 h5 h6 h7 h8 h9 v1)), (h4, zi k4 833 f4), (h3, zi k3 833 f3), (h2, zi k2 1250 f2), (h5, zi k5 400 f5), (h6, zi k6 400 f6), (h7, zi k7 400 f7)] sz) := by
  refine Met.ofW (cc := cX8_oneBit) (maxL := 2) (ret := (some .int)) (by decide) rfl ?_
  intro p e s m args below meth c s₁ B hml hv
  obtain ⟨rfl, hsz, hP, hK, hD0, hE, hZ⟩ := hv
  have hx := B.exec
  have hb := B.bytes
  have hr := B.returns
  have hG : ∀ w ∈ zG, w.before _ s = true := fun w h => atoms_spec (ws := (zw yX8_oneBit cX8_oneBit 2 (some .int))) B.pre w (List.mem_cons_of_mem _ h)
  have hown : s.vm.findClass RX8 = some m.cls := findClass_of_methodNamed B.named
  have hlocks := B.notSynchronized

  subst hsz
  have hD := hD0.self (sz := s.heap.size)
  generalize hAe : va_A [(h0, .inr (8, mX8 h1 v0)), (h1, .inr (6, mX6 h2 h3 h4 h5 h6 h7 h8 h9 v1)), (h4, zi k4 833 f4), (h3, zi k3 833 f3), (h2, zi k2 1250 f2), (h5, zi k5 400 f5), (h6, zi k6 400 f6), (h7, zi k7 400 f7)] s.heap.size = A at hD hZ ⊢
  have hA : ∀ q : Nat, s.heap.size ≤ q → A q := fun q h => by rw [← hAe]; exact Or.inr h
  have hS : va_S A s.heap s.heap [] := va_S.rf
  have hl := lv_entry ([.ref h0]) (n := 2) (Nat.le_of_ble_eq_true rfl)
  rw [lg_entry_eq]
  generalize (lg_sl ([.ref h0]) ++ List.replicate (2 - (lg_sl ([.ref h0])).length) Slot.unset).toArray = ls at hl ⊢
  have hl : lv_has ls 2 [(0, .ref h0)] := hl
  have b_ := zk_0
  have b_ : 0 ≤ (v1 8).toInt ∧ (v1 8).toInt ≤ 833 := hv1 8
  have b_ : 0 ≤ (v1 9).toInt ∧ (v1 9).toInt ≤ 1250 := hv1 9
  have b_ : -2147483648 ≤ (v1 10).toInt ∧ (v1 10).toInt ≤ 2147483647 := ⟨zlo _, zhi _⟩
  have b_ : -2147483648 ≤ (v1 11).toInt ∧ (v1 11).toInt ≤ 2147483647 := ⟨zlo _, zhi _⟩
  have b_ : -2147483648 ≤ (v0 1).toInt ∧ (v0 1).toInt ≤ 2147483647 := ⟨zlo _, zhi _⟩
  have b_ : -2147483648 ≤ (v0 2).toInt ∧ (v0 2).toInt ≤ 2147483647 := ⟨zlo _, zhi _⟩
  have b_ : -2147483648 ≤ (v0 3).toInt ∧ (v0 3).toInt ≤ 2147483647 := ⟨zlo _, zhi _⟩
  have b_ : -2147483648 ≤ (v0 4).toInt ∧ (v0 4).toInt ≤ 2147483647 := ⟨zlo _, zhi _⟩
  refine lv_aload_n hx hb dX8_oneBit_0 rfl (lv_at hl 0 rfl) ?_
  refine va_get (D := (dC, dI)) (ci := 8) (v := .int (v0 1)) (C := RX8) (T := TX8) (N := 9) hx hb hG zuX8 hown hK hP 0 rfl rfl 1 (by decide) (hG _ zv292) (fun _ h9 => h9) rfl dX8_oneBit_1 ?_
  refine lv_if_gt (tgt := 9) hx hb dX8_oneBit_4 (by decide) (fun c_ => ?_) (fun c_ => ?_)
  · skip
    have b_ := zT_gt rfl zk_0 c_
    refine lv_aload_n hx hb dX8_oneBit_9 rfl (lv_at hl 0 rfl) ?_
    refine va_get (D := (dC, dI)) (ci := 8) (v := .int (v0 4)) (C := RX8) (T := TX8) (N := 9) hx hb hG zuX8 hown hK hP 0 rfl rfl 4 (by decide) (hG _ zv295) (fun _ h9 => h9) rfl dX8_oneBit_10 ?_
    refine lv_aload_n hx hb dX8_oneBit_13 rfl (lv_at hl 0 rfl) ?_
    refine va_get (D := (dC, dI)) (ci := 8) (v := .int (v0 3)) (C := RX8) (T := TX8) (N := 9) hx hb hG zuX8 hown hK hP 0 rfl rfl 3 (by decide) (hG _ zv294) (fun _ h9 => h9) rfl dX8_oneBit_14 ?_
    have hPc := hP.sub (ws' := []) [] rfl
    have hDc := hD.sub (ws' := []) [] (by decide) rfl
    have hKc := hK.sub (tys' := []) [] rfl
    have hFc := va_free (wc := []) hD hS hA [] rfl
    refine va_calli (va_runS (As := [.int (v0 3)]) (rest := [.int (v0 4)]) ⟨hx, hb, hml, hown, hG⟩ (sX6_bitsOfChunk_0 l dC dI adK adV s.heap.size (v0 3)) (va_cwS 1 hG (zgS zv922 zv848 zv133 zv849) rfl rfl rfl (by decide +kernel) ⟨Nat.le_of_ble_eq_true rfl, Nat.le_of_ble_eq_true rfl⟩) ⟨zPc_blind, zPc_pre hPc hKc hDc hE hS hFc hZ⟩ rfl rfl hl.1 rfl (lv_room (Nat.le_of_ble_eq_true rfl)) dX8_oneBit_17 ⟨Nat.le_of_ble_eq_true rfl, Nat.le_of_ble_eq_true rfl⟩) hS (fun q _ h => hFc q h) hFc (fun r17_ u17_ t H1 locs ht hvm hw hB hz1 hk1 hS => ?_)
    replace hw : (0 ≤ (v0 3).toInt → zBs (v0 3).toInt r17_.toInt) := hw
    have hX17_0 := hw
    obtain ⟨w17_, a17_, b17_, hP1, hK1, hD1⟩ := hB
    rw [ht] at hP1
    obtain ⟨hP, hD⟩ := va_join (wr := [(h0, .inr (8, mX8 h1 v0)), (h1, .inr (6, mX6 h2 h3 h4 h5 h6 h7 h8 h9 v1)), (h4, zi k4 833 f4), (h3, zi k3 833 f3), (h2, zi k2 1250 f2), (h5, zi k5 400 f5), (h6, zi k6 400 f6), (h7, zi k7 400 f7)]) (w1 := []) hP hD [] [0, 1, 2, 3, 4, 5, 6, 7] rfl rfl (by decide) (by decide) hk1 hFc hP1 hD1
    have hP : va_P (dC, dI) vwCl [(h0, .inr (8, mX8 h1 v0)), (h1, .inr (6, mX6 h2 h3 h4 h5 h6 h7 h8 h9 v1)), (h4, zi k4 833 f4), (h3, zi k3 833 f3), (h2, zi k2 1250 f2), (h5, zi k5 400 f5), (h6, zi k6 400 f6), (h7, zi k7 400 f7)] H1 := hP.sub [0, 1, 2, 3, 4, 5, 6, 7] rfl
    have hD : va_D A [(h0, .inr (8, mX8 h1 v0)), (h1, .inr (6, mX6 h2 h3 h4 h5 h6 h7 h8 h9 v1)), (h4, zi k4 833 f4), (h3, zi k3 833 f3), (h2, zi k2 1250 f2), (h5, zi k5 400 f5), (h6, zi k6 400 f6), (h7, zi k7 400 f7)] := hD.sub [0, 1, 2, 3, 4, 5, 6, 7] (by decide) rfl
    generalize H1 = H at hP hS ⊢
    clear hz1
    refine zcutW (fun H locs ls u53_ w53_ a53_ b53_ => va_P (dC, dI) vwCl [(h0, .inr (8, mX8 h1 (upd (upd (upd v0 2 (u53_ 0)) 3 (u53_ 1)) 4 (u53_ 2)))), (h1, .inr (6, mX6 h2 h3 h4 h5 h6 h7 h8 h9 v1)), (h4, zi k4 833 f4), (h3, zi k3 833 f3), (h2, zi k2 1250 f2), (h5, zi k5 400 f5), (h6, zi k6 400 f6), (h7, zi k7 400 f7)] H ∧ va_D A [(h0, .inr (8, mX8 h1 (upd (upd (upd v0 2 (u53_ 0)) 3 (u53_ 1)) 4 (u53_ 2)))), (h1, .inr (6, mX6 h2 h3 h4 h5 h6 h7 h8 h9 v1)), (h4, zi k4 833 f4), (h3, zi k3 833 f3), (h2, zi k2 1250 f2), (h5, zi k5 400 f5), (h6, zi k6 400 f6), (h7, zi k7 400 f7)] ∧ va_S A s.heap H locs ∧ lv_has ls 2 [(0, .ref h0)] ∧ (zOs f2 f3 f4 f5 f6 f7 (v1 8).toInt (v1 9).toInt (v1 10).toInt (v1 11).toInt (v0 1).toInt (v0 2).toInt (v0 3).toInt (v0 4).toInt (v0 1).toInt (u53_ 0).toInt (u53_ 1).toInt (u53_ 2).toInt)) (fun ls u53_ w53_ => F0 m 53 ls []) 0 0 ?_ (fun hJ53 => ?_)
    · skip
      intro H locs ls u53_ w53_ a53_ b53_ hc
      obtain ⟨hP, hD, hS, hl, hI53_0⟩ := hc
      refine lv_aload_n hx hb dX8_oneBit_53 rfl (lv_at hl 0 rfl) ?_
      refine va_get (D := (dC, dI)) (ci := 8) (v := .ref h1) (C := RX8) (T := TX8) (N := 9) hx hb hG zuX8 hown hK hP 0 rfl rfl 0 (by decide) (hG _ zv291) (fun _ h9 => h9) rfl dX8_oneBit_54 ?_
      refine lv_aload_n hx hb dX8_oneBit_57 rfl (lv_at hl 0 rfl) ?_
      refine va_get (D := (dC, dI)) (ci := 8) (v := .int (u53_ 0)) (C := RX8) (T := TX8) (N := 9) hx hb hG zuX8 hown hK hP 0 rfl rfl 2 (by decide) (hG _ zv293) (fun _ h9 => h9) rfl dX8_oneBit_58 ?_
      refine lv_aload_n hx hb dX8_oneBit_61 rfl (lv_at hl 0 rfl) ?_
      refine va_get (D := (dC, dI)) (ci := 8) (v := .int (u53_ 2)) (C := RX8) (T := TX8) (N := 9) hx hb hG zuX8 hown hK hP 0 rfl rfl 4 (by decide) (hG _ zv295) (fun _ h9 => h9) rfl dX8_oneBit_62 ?_
      have hPc := hP.sub (ws' := [(h1, .inr (6, mX6 h2 h3 h4 h5 h6 h7 h8 h9 v1)), (h3, zi k3 833 f3), (h2, zi k2 1250 f2)]) [1, 3, 4] rfl
      have hDc := hD.sub (ws' := [(h1, .inr (6, mX6 h2 h3 h4 h5 h6 h7 h8 h9 v1)), (h3, zi k3 833 f3), (h2, zi k2 1250 f2)]) [1, 3, 4] (by decide) rfl
      have hKc := hK.sub (tys' := [(k3, .int), (k2, .int)]) [1, 2] rfl
      have hFc := va_free (wc := [(h1, .inr (6, mX6 h2 h3 h4 h5 h6 h7 h8 h9 v1)), (h3, zi k3 833 f3), (h2, zi k2 1250 f2)]) hD hS hA [1, 3, 4] rfl
      refine va_calli (va_runV (As := [.int (u53_ 0), .int (u53_ 2)]) (rest := []) ⟨hx, hb, hml, hown, hG⟩ (sX6_bitInChunk_0 l dC dI adK adV h1 h3 h2 h4 h5 h6 h7 h8 h9 k3 k2 H.size v1 f3 f2 (u53_ 0) (u53_ 2) hv1 hf3) (cwV 2 hG (zgV zv927 zv928 zv929 zv133 zv930) rfl rfl rfl (by decide +kernel) ⟨Nat.le_of_ble_eq_true rfl, Nat.le_of_ble_eq_true rfl⟩) ⟨zPc_blind, va_recv hKc hPc (ci := 6) (q0 := 0) rfl rfl, zPc_pre hPc hKc hDc hE hS hFc hZ⟩ rfl rfl hl.1 rfl (lv_room (Nat.le_of_ble_eq_true rfl)) dX8_oneBit_65 ⟨Nat.le_of_ble_eq_true rfl, Nat.le_of_ble_eq_true rfl⟩) hS (fun q _ h => hFc q h) hFc (fun r65_ u65_ t H1 locs ht hvm hw hB hz1 hk1 hS => ?_)
      replace hw : (0 ≤ r65_.toInt ∧ r65_.toInt ≤ 1) ∧ (zBi f2 f3 (v1 8).toInt ((u53_ 0) : Int32) (u53_ 2).toInt r65_.toInt) := hw
      obtain ⟨b_, hX65_0⟩ := hw
      obtain ⟨w65_, a65_, b65_, hP1, hK1, hD1⟩ := hB
      rw [ht] at hP1
      obtain ⟨hP, hD⟩ := va_join (wr := [(h0, .inr (8, mX8 h1 (upd (upd (upd v0 2 (u53_ 0)) 3 (u53_ 1)) 4 (u53_ 2)))), (h4, zi k4 833 f4), (h5, zi k5 400 f5), (h6, zi k6 400 f6), (h7, zi k7 400 f7)]) (w1 := [(h1, .inr (6, mX6 h2 h3 h4 h5 h6 h7 h8 h9 v1)), (h3, zi k3 833 f3), (h2, zi k2 1250 f2)]) hP hD [1, 3, 4] [0, 2, 5, 6, 7] rfl rfl (by decide) (by decide) hk1 hFc hP1 hD1
      have hP : va_P (dC, dI) vwCl [(h0, .inr (8, mX8 h1 (upd (upd (upd v0 2 (u53_ 0)) 3 (u53_ 1)) 4 (u53_ 2)))), (h1, .inr (6, mX6 h2 h3 h4 h5 h6 h7 h8 h9 v1)), (h4, zi k4 833 f4), (h3, zi k3 833 f3), (h2, zi k2 1250 f2), (h5, zi k5 400 f5), (h6, zi k6 400 f6), (h7, zi k7 400 f7)] H1 := hP.sub [0, 5, 1, 6, 7, 2, 3, 4] rfl
      have hD : va_D A [(h0, .inr (8, mX8 h1 (upd (upd (upd v0 2 (u53_ 0)) 3 (u53_ 1)) 4 (u53_ 2)))), (h1, .inr (6, mX6 h2 h3 h4 h5 h6 h7 h8 h9 v1)), (h4, zi k4 833 f4), (h3, zi k3 833 f3), (h2, zi k2 1250 f2), (h5, zi k5 400 f5), (h6, zi k6 400 f6), (h7, zi k7 400 f7)] := hD.sub [0, 5, 1, 6, 7, 2, 3, 4] (by decide) rfl
      generalize H1 = H at hP hS ⊢
      clear hz1
      refine lv_istore_n (lv' := [(1, .int r65_), (0, .ref h0)]) hx hb dX8_oneBit_68 rfl hl (by decide) rfl (fun ls hl => ?_)
      refine lv_aload_n hx hb dX8_oneBit_69 rfl (lv_at hl 1 rfl) ?_
      refine lv_dup hx hb dX8_oneBit_70 rfl ?_
      refine va_get (D := (dC, dI)) (ci := 8) (v := .int (u53_ 2)) (C := RX8) (T := TX8) (N := 9) hx hb hG zuX8 hown hK hP 0 rfl rfl 4 (by decide) (hG _ zv295) (fun _ h9 => h9) rfl dX8_oneBit_71 ?_
      refine lv_iconst (v := 1) hx hb dX8_oneBit_74 (by decide) ?_
      have b_ : -2147483648 ≤ (u53_ 2).toInt ∧ (u53_ 2).toInt ≤ 2147483647 := ⟨zlo _, zhi _⟩
      refine lv_iadd hx hb dX8_oneBit_75 ?_
      refine lv_topi (fun z75 e_z75 => ?_)
      refine va_put (D := (dC, dI)) (ci := 8) (v := .int z75) (ty := .int) (C := RX8) (T := TX8) (N := 9) hx hb hG zuX8 tyX8 tyX8_ok nmX8 hown hK hP hD hS 0 rfl rfl 4 (by decide) (hG _ zv295) (fun _ h9 => h9) rfl (by decide +kernel) rfl rfl (Nat.le_of_ble_eq_true rfl) dX8_oneBit_76 (fun H locs hP hD hS => ?_)
      have hP : va_P (dC, dI) vwCl [(h0, .inr (8, mX8 h1 (upd (upd (upd v0 2 (u53_ 0)) 3 (u53_ 1)) 4 z75))), (h1, .inr (6, mX6 h2 h3 h4 h5 h6 h7 h8 h9 v1)), (h4, zi k4 833 f4), (h3, zi k3 833 f3), (h2, zi k2 1250 f2), (h5, zi k5 400 f5), (h6, zi k6 400 f6), (h7, zi k7 400 f7)] H := hP
      have hD : va_D A [(h0, .inr (8, mX8 h1 (upd (upd (upd v0 2 (u53_ 0)) 3 (u53_ 1)) 4 z75))), (h1, .inr (6, mX6 h2 h3 h4 h5 h6 h7 h8 h9 v1)), (h4, zi k4 833 f4), (h3, zi k3 833 f3), (h2, zi k2 1250 f2), (h5, zi k5 400 f5), (h6, zi k6 400 f6), (h7, zi k7 400 f7)] := hD
      refine lv_aload_n hx hb dX8_oneBit_79 rfl (lv_at hl 1 rfl) ?_
      refine lv_dup hx hb dX8_oneBit_80 rfl ?_
      refine va_get (D := (dC, dI)) (ci := 8) (v := .int (v0 1)) (C := RX8) (T := TX8) (N := 9) hx hb hG zuX8 hown hK hP 0 rfl rfl 1 (by decide) (hG _ zv292) (fun _ h9 => h9) rfl dX8_oneBit_81 ?_
      refine lv_iconst (v := 1) hx hb dX8_oneBit_84 (by decide) ?_
      refine lv_isub hx hb dX8_oneBit_85 ?_
      refine lv_topi (fun z85 e_z85 => ?_)
      have b_ := zsub rfl zk_1 e_z85 (by omega) (by omega)
      refine va_put (D := (dC, dI)) (ci := 8) (v := .int z85) (ty := .int) (C := RX8) (T := TX8) (N := 9) hx hb hG zuX8 tyX8 tyX8_ok nmX8 hown hK hP hD hS 0 rfl rfl 1 (by decide) (hG _ zv292) (fun _ h9 => h9) rfl (by decide +kernel) rfl rfl (Nat.le_of_ble_eq_true rfl) dX8_oneBit_86 (fun H locs hP hD hS => ?_)
      have hP : va_P (dC, dI) vwCl [(h0, .inr (8, mX8 h1 (upd (upd (upd (upd v0 1 z85) 2 (u53_ 0)) 3 (u53_ 1)) 4 z75))), (h1, .inr (6, mX6 h2 h3 h4 h5 h6 h7 h8 h9 v1)), (h4, zi k4 833 f4), (h3, zi k3 833 f3), (h2, zi k2 1250 f2), (h5, zi k5 400 f5), (h6, zi k6 400 f6), (h7, zi k7 400 f7)] H := hP
      have hD : va_D A [(h0, .inr (8, mX8 h1 (upd (upd (upd (upd v0 1 z85) 2 (u53_ 0)) 3 (u53_ 1)) 4 z75))), (h1, .inr (6, mX6 h2 h3 h4 h5 h6 h7 h8 h9 v1)), (h4, zi k4 833 f4), (h3, zi k3 833 f3), (h2, zi k2 1250 f2), (h5, zi k5 400 f5), (h6, zi k6 400 f6), (h7, zi k7 400 f7)] := hD
      refine lv_iload_n hx hb dX8_oneBit_89 rfl (lv_at hl 0 rfl) ?_
      refine W.widen (k := 0) (n := 0) (by decide) (by decide) ?_
      have b_ : -2147483648 ≤ (u53_ 0).toInt ∧ (u53_ 0).toInt ≤ 2147483647 := ⟨zlo _, zhi _⟩
      have b_ : -2147483648 ≤ (u53_ 1).toInt ∧ (u53_ 1).toInt ≤ 2147483647 := ⟨zlo _, zhi _⟩
      have b_ : -2147483648 ≤ z75.toInt ∧ z75.toInt ≤ 2147483647 := ⟨zlo _, zhi _⟩
      have hpost : (0 ≤ r65_.toInt ∧ r65_.toInt ≤ 1) ∧ ((-2147483648) ≤ z85.toInt ∧ z85.toInt ≤ 2147483646) ∧ (zOb f2 f3 f4 f5 f6 f7 (v1 8).toInt (v1 9).toInt (v1 10).toInt (v1 11).toInt (v0 1).toInt (v0 2).toInt (v0 3).toInt (v0 4).toInt z85.toInt (u53_ 0).toInt (u53_ 1).toInt z75.toInt r65_.toInt) := ⟨(by first | with_reducible assumption | exact ⟨by omega, by omega⟩), (by first | with_reducible assumption | exact ⟨by omega, by omega⟩), by first | exact zOb_c hI53_0 hX65_0 (by omega) e_z75 e_z85 | exact zOb_z (by omega)⟩
      have hP9 : va_P (dC, dI) vwCl [(h0, .inr (8, mX8 h1 (upd (upd (upd (upd v0 1 z85) 2 (u53_ 0)) 3 (u53_ 1)) 4 z75))), (h1, .inr (6, mX6 h2 h3 h4 h5 h6 h7 h8 h9 v1)), (h4, zi k4 833 f4), (h3, zi k3 833 f3), (h2, zi k2 1250 f2), (h5, zi k5 400 f5), (h6, zi k6 400 f6), (h7, zi k7 400 f7)] H := hP
      have hD9 : va_D A [(h0, .inr (8, mX8 h1 (upd (upd (upd (upd v0 1 z85) 2 (u53_ 0)) 3 (u53_ 1)) 4 z75))), (h1, .inr (6, mX6 h2 h3 h4 h5 h6 h7 h8 h9 v1)), (h4, zi k4 833 f4), (h3, zi k3 833 f3), (h2, zi k2 1250 f2), (h5, zi k5 400 f5), (h6, zi k6 400 f6), (h7, zi k7 400 f7)] := hD
      exact W.iret (v := r65_) hx hb hr (fun t ht hW => ⟨⟨r65_, (fun i => ([z85, (u53_ 0), (u53_ 1), z75] : List (Int32)).getD i 0), rfl, hpost, (fun _ => 0), (fun _ => (fun _ => 0)), (fun _ => (fun _ => 0)), by rw [ht]; exact hP9, va_K.moved hW.alike hK, hD9⟩, hS.F ht⟩) hS.2.2 dX8_oneBit_90
    · skip
      have b_ : -2147483648 ≤ r17_.toInt ∧ r17_.toInt ≤ 2147483647 := ⟨zlo _, zhi _⟩
      refine lv_icmp_ne (tgt := 53) hx hb dX8_oneBit_20 (by decide) (fun c_ => ?_) (fun c_ => ?_)
      · skip
        have b_ := zT_ne rfl rfl c_
        have hc : va_P (dC, dI) vwCl [(h0, .inr (8, mX8 h1 (upd (upd (upd v0 2 (v0 2)) 3 (v0 3)) 4 (v0 4)))), (h1, .inr (6, mX6 h2 h3 h4 h5 h6 h7 h8 h9 v1)), (h4, zi k4 833 f4), (h3, zi k3 833 f3), (h2, zi k2 1250 f2), (h5, zi k5 400 f5), (h6, zi k6 400 f6), (h7, zi k7 400 f7)] H ∧ va_D A [(h0, .inr (8, mX8 h1 (upd (upd (upd v0 2 (v0 2)) 3 (v0 3)) 4 (v0 4)))), (h1, .inr (6, mX6 h2 h3 h4 h5 h6 h7 h8 h9 v1)), (h4, zi k4 833 f4), (h3, zi k3 833 f3), (h2, zi k2 1250 f2), (h5, zi k5 400 f5), (h6, zi k6 400 f6), (h7, zi k7 400 f7)] ∧ va_S A s.heap H locs ∧ lv_has ls 2 [(0, .ref h0)] ∧ (zOs f2 f3 f4 f5 f6 f7 (v1 8).toInt (v1 9).toInt (v1 10).toInt (v1 11).toInt (v0 1).toInt (v0 2).toInt (v0 3).toInt (v0 4).toInt (v0 1).toInt (v0 2).toInt (v0 3).toInt (v0 4).toInt) := ⟨hP, hD, hS, lv_sub hl [0] rfl, by first | exact zOs_b hX17_0 (by omega) hX32_0 e_z44 (by omega) | exact zOs_a hX17_0 (by omega)⟩
        exact hJ53 H locs ls (fun i => ([(v0 2), (v0 3), (v0 4)] : List (Int32)).getD i 0) (fun _ => 0) (fun _ => (fun _ => 0)) (fun _ => (fun _ => 0)) hc
      · skip
        have b_ := zF_ne rfl rfl c_
        refine lv_aload_n hx hb dX8_oneBit_23 rfl (lv_at hl 0 rfl) ?_
        refine lv_aload_n hx hb dX8_oneBit_24 rfl (lv_at hl 0 rfl) ?_
        refine va_get (D := (dC, dI)) (ci := 8) (v := .ref h1) (C := RX8) (T := TX8) (N := 9) hx hb hG zuX8 hown hK hP 0 rfl rfl 0 (by decide) (hG _ zv291) (fun _ h9 => h9) rfl dX8_oneBit_25 ?_
        refine lv_aload_n hx hb dX8_oneBit_28 rfl (lv_at hl 0 rfl) ?_
        refine va_get (D := (dC, dI)) (ci := 8) (v := .int (v0 2)) (C := RX8) (T := TX8) (N := 9) hx hb hG zuX8 hown hK hP 0 rfl rfl 2 (by decide) (hG _ zv293) (fun _ h9 => h9) rfl dX8_oneBit_29 ?_
        have hPc := hP.sub (ws' := [(h1, .inr (6, mX6 h2 h3 h4 h5 h6 h7 h8 h9 v1)), (h4, zi k4 833 f4)]) [1, 2] rfl
        have hDc := hD.sub (ws' := [(h1, .inr (6, mX6 h2 h3 h4 h5 h6 h7 h8 h9 v1)), (h4, zi k4 833 f4)]) [1, 2] (by decide) rfl
        have hKc := hK.sub (tys' := [(k4, .int)]) [0] rfl
        have hFc := va_free (wc := [(h1, .inr (6, mX6 h2 h3 h4 h5 h6 h7 h8 h9 v1)), (h4, zi k4 833 f4)]) hD hS hA [1, 2] rfl
        refine va_calli (va_runV (As := [.int (v0 2)]) (rest := [.ref h0]) ⟨hx, hb, hml, hown, hG⟩ (sX6_chunkBehind_0 l dC dI adK adV h1 h4 h2 h3 h5 h6 h7 h8 h9 k4 H.size v1 f4 (v0 2) hv1) (cwV 1 hG (zgV zv923 zv924 zv925 zv133 zv926) rfl rfl rfl (by decide +kernel) ⟨Nat.le_of_ble_eq_true rfl, Nat.le_of_ble_eq_true rfl⟩) ⟨zPc_blind, va_recv hKc hPc (ci := 6) (q0 := 0) rfl rfl, zPc_pre hPc hKc hDc hE hS hFc hZ⟩ rfl rfl hl.1 rfl (lv_room (Nat.le_of_ble_eq_true rfl)) dX8_oneBit_32 ⟨Nat.le_of_ble_eq_true rfl, Nat.le_of_ble_eq_true rfl⟩) hS (fun q _ h => hFc q h) hFc (fun r32_ u32_ t H1 locs ht hvm hw hB hz1 hk1 hS => ?_)
        replace hw : (0 ≤ (v0 2).toInt ∧ (v0 2).toInt < (v1 8).toInt → r32_.toInt = (f4 (((v0 2) : Int32)).toNatClampNeg).toInt) := hw
        have hX32_0 := hw
        obtain ⟨w32_, a32_, b32_, hP1, hK1, hD1⟩ := hB
        rw [ht] at hP1
        obtain ⟨hP, hD⟩ := va_join (wr := [(h0, .inr (8, mX8 h1 v0)), (h3, zi k3 833 f3), (h2, zi k2 1250 f2), (h5, zi k5 400 f5), (h6, zi k6 400 f6), (h7, zi k7 400 f7)]) (w1 := [(h1, .inr (6, mX6 h2 h3 h4 h5 h6 h7 h8 h9 v1)), (h4, zi k4 833 f4)]) hP hD [1, 2] [0, 3, 4, 5, 6, 7] rfl rfl (by decide) (by decide) hk1 hFc hP1 hD1
        have hP : va_P (dC, dI) vwCl [(h0, .inr (8, mX8 h1 v0)), (h1, .inr (6, mX6 h2 h3 h4 h5 h6 h7 h8 h9 v1)), (h4, zi k4 833 f4), (h3, zi k3 833 f3), (h2, zi k2 1250 f2), (h5, zi k5 400 f5), (h6, zi k6 400 f6), (h7, zi k7 400 f7)] H1 := hP.sub [0, 6, 7, 1, 2, 3, 4, 5] rfl
        have hD : va_D A [(h0, .inr (8, mX8 h1 v0)), (h1, .inr (6, mX6 h2 h3 h4 h5 h6 h7 h8 h9 v1)), (h4, zi k4 833 f4), (h3, zi k3 833 f3), (h2, zi k2 1250 f2), (h5, zi k5 400 f5), (h6, zi k6 400 f6), (h7, zi k7 400 f7)] := hD.sub [0, 6, 7, 1, 2, 3, 4, 5] (by decide) rfl
        generalize H1 = H at hP hS ⊢
        clear hz1
        refine va_put (D := (dC, dI)) (ci := 8) (v := .int r32_) (ty := .int) (C := RX8) (T := TX8) (N := 9) hx hb hG zuX8 tyX8 tyX8_ok nmX8 hown hK hP hD hS 0 rfl rfl 2 (by decide) (hG _ zv293) (fun _ h9 => h9) rfl (by decide +kernel) rfl rfl (Nat.le_of_ble_eq_true rfl) dX8_oneBit_35 (fun H locs hP hD hS => ?_)
        have hP : va_P (dC, dI) vwCl [(h0, .inr (8, mX8 h1 (upd v0 2 r32_))), (h1, .inr (6, mX6 h2 h3 h4 h5 h6 h7 h8 h9 v1)), (h4, zi k4 833 f4), (h3, zi k3 833 f3), (h2, zi k2 1250 f2), (h5, zi k5 400 f5), (h6, zi k6 400 f6), (h7, zi k7 400 f7)] H := hP
        have hD : va_D A [(h0, .inr (8, mX8 h1 (upd v0 2 r32_))), (h1, .inr (6, mX6 h2 h3 h4 h5 h6 h7 h8 h9 v1)), (h4, zi k4 833 f4), (h3, zi k3 833 f3), (h2, zi k2 1250 f2), (h5, zi k5 400 f5), (h6, zi k6 400 f6), (h7, zi k7 400 f7)] := hD
        refine lv_aload_n hx hb dX8_oneBit_38 rfl (lv_at hl 0 rfl) ?_
        refine lv_dup hx hb dX8_oneBit_39 rfl ?_
        refine va_get (D := (dC, dI)) (ci := 8) (v := .int (v0 3)) (C := RX8) (T := TX8) (N := 9) hx hb hG zuX8 hown hK hP 0 rfl rfl 3 (by decide) (hG _ zv294) (fun _ h9 => h9) rfl dX8_oneBit_40 ?_
        refine lv_iconst (v := 1) hx hb dX8_oneBit_43 (by decide) ?_
        refine lv_iadd hx hb dX8_oneBit_44 ?_
        refine lv_topi (fun z44 e_z44 => ?_)
        refine va_put (D := (dC, dI)) (ci := 8) (v := .int z44) (ty := .int) (C := RX8) (T := TX8) (N := 9) hx hb hG zuX8 tyX8 tyX8_ok nmX8 hown hK hP hD hS 0 rfl rfl 3 (by decide) (hG _ zv294) (fun _ h9 => h9) rfl (by decide +kernel) rfl rfl (Nat.le_of_ble_eq_true rfl) dX8_oneBit_45 (fun H locs hP hD hS => ?_)
        have hP : va_P (dC, dI) vwCl [(h0, .inr (8, mX8 h1 (upd (upd v0 2 r32_) 3 z44))), (h1, .inr (6, mX6 h2 h3 h4 h5 h6 h7 h8 h9 v1)), (h4, zi k4 833 f4), (h3, zi k3 833 f3), (h2, zi k2 1250 f2), (h5, zi k5 400 f5), (h6, zi k6 400 f6), (h7, zi k7 400 f7)] H := hP
        have hD : va_D A [(h0, .inr (8, mX8 h1 (upd (upd v0 2 r32_) 3 z44))), (h1, .inr (6, mX6 h2 h3 h4 h5 h6 h7 h8 h9 v1)), (h4, zi k4 833 f4), (h3, zi k3 833 f3), (h2, zi k2 1250 f2), (h5, zi k5 400 f5), (h6, zi k6 400 f6), (h7, zi k7 400 f7)] := hD
        refine lv_aload_n hx hb dX8_oneBit_48 rfl (lv_at hl 0 rfl) ?_
        refine lv_iconst (v := 0) hx hb dX8_oneBit_49 (by decide) ?_
        refine va_put (D := (dC, dI)) (ci := 8) (v := .int 0) (ty := .int) (C := RX8) (T := TX8) (N := 9) hx hb hG zuX8 tyX8 tyX8_ok nmX8 hown hK hP hD hS 0 rfl rfl 4 (by decide) (hG _ zv295) (fun _ h9 => h9) rfl (by decide +kernel) rfl rfl (Nat.le_of_ble_eq_true rfl) dX8_oneBit_50 (fun H locs hP hD hS => ?_)
        have hP : va_P (dC, dI) vwCl [(h0, .inr (8, mX8 h1 (upd (upd (upd v0 2 r32_) 3 z44) 4 0))), (h1, .inr (6, mX6 h2 h3 h4 h5 h6 h7 h8 h9 v1)), (h4, zi k4 833 f4), (h3, zi k3 833 f3), (h2, zi k2 1250 f2), (h5, zi k5 400 f5), (h6, zi k6 400 f6), (h7, zi k7 400 f7)] H := hP
        have hD : va_D A [(h0, .inr (8, mX8 h1 (upd (upd (upd v0 2 r32_) 3 z44) 4 0))), (h1, .inr (6, mX6 h2 h3 h4 h5 h6 h7 h8 h9 v1)), (h4, zi k4 833 f4), (h3, zi k3 833 f3), (h2, zi k2 1250 f2), (h5, zi k5 400 f5), (h6, zi k6 400 f6), (h7, zi k7 400 f7)] := hD
        have hc : va_P (dC, dI) vwCl [(h0, .inr (8, mX8 h1 (upd (upd (upd v0 2 r32_) 3 z44) 4 0))), (h1, .inr (6, mX6 h2 h3 h4 h5 h6 h7 h8 h9 v1)), (h4, zi k4 833 f4), (h3, zi k3 833 f3), (h2, zi k2 1250 f2), (h5, zi k5 400 f5), (h6, zi k6 400 f6), (h7, zi k7 400 f7)] H ∧ va_D A [(h0, .inr (8, mX8 h1 (upd (upd (upd v0 2 r32_) 3 z44) 4 0))), (h1, .inr (6, mX6 h2 h3 h4 h5 h6 h7 h8 h9 v1)), (h4, zi k4 833 f4), (h3, zi k3 833 f3), (h2, zi k2 1250 f2), (h5, zi k5 400 f5), (h6, zi k6 400 f6), (h7, zi k7 400 f7)] ∧ va_S A s.heap H locs ∧ lv_has ls 2 [(0, .ref h0)] ∧ (zOs f2 f3 f4 f5 f6 f7 (v1 8).toInt (v1 9).toInt (v1 10).toInt (v1 11).toInt (v0 1).toInt (v0 2).toInt (v0 3).toInt (v0 4).toInt (v0 1).toInt r32_.toInt z44.toInt (0 : Int32).toInt) := ⟨hP, hD, hS, lv_sub hl [0] rfl, by first | exact zOs_b hX17_0 (by omega) hX32_0 e_z44 (by omega) | exact zOs_a hX17_0 (by omega)⟩
        exact hJ53 H locs ls (fun i => ([r32_, z44, 0] : List (Int32)).getD i 0) (fun _ => 0) (fun _ => (fun _ => 0)) (fun _ => (fun _ => 0)) hc
  · skip
    have b_ := zF_gt rfl zk_0 c_
    refine lv_iconst (v := 0) hx hb dX8_oneBit_7 (by decide) ?_
    refine W.widen (k := 0) (n := 0) (by decide) (by decide) ?_
    have hpost : (0 ≤ (0 : Int32).toInt ∧ (0 : Int32).toInt ≤ 1) ∧ ((-2147483648) ≤ (v0 1).toInt ∧ (v0 1).toInt ≤ 2147483646) ∧ (zOb f2 f3 f4 f5 f6 f7 (v1 8).toInt (v1 9).toInt (v1 10).toInt (v1 11).toInt (v0 1).toInt (v0 2).toInt (v0 3).toInt (v0 4).toInt (v0 1).toInt (v0 2).toInt (v0 3).toInt (v0 4).toInt (0 : Int32).toInt) := ⟨(by first | with_reducible assumption | exact ⟨by omega, by omega⟩), (by first | with_reducible assumption | exact ⟨by omega, by omega⟩), by first | exact zOb_c hI53_0 hX65_0 (by omega) e_z75 e_z85 | exact zOb_z (by omega)⟩
    have hP9 : va_P (dC, dI) vwCl [(h0, .inr (8, mX8 h1 (upd (upd (upd (upd v0 1 (v0 1)) 2 (v0 2)) 3 (v0 3)) 4 (v0 4)))), (h1, .inr (6, mX6 h2 h3 h4 h5 h6 h7 h8 h9 v1)), (h4, zi k4 833 f4), (h3, zi k3 833 f3), (h2, zi k2 1250 f2), (h5, zi k5 400 f5), (h6, zi k6 400 f6), (h7, zi k7 400 f7)] s.heap := hP
    have hD9 : va_D A [(h0, .inr (8, mX8 h1 (upd (upd (upd (upd v0 1 (v0 1)) 2 (v0 2)) 3 (v0 3)) 4 (v0 4)))), (h1, .inr (6, mX6 h2 h3 h4 h5 h6 h7 h8 h9 v1)), (h4, zi k4 833 f4), (h3, zi k3 833 f3), (h2, zi k2 1250 f2), (h5, zi k5 400 f5), (h6, zi k6 400 f6), (h7, zi k7 400 f7)] := hD
    exact W.iret (v := 0) hx hb hr (fun t ht hW => ⟨⟨0, (fun i => ([(v0 1), (v0 2), (v0 3), (v0 4)] : List (Int32)).getD i 0), rfl, hpost, (fun _ => 0), (fun _ => (fun _ => 0)), (fun _ => (fun _ => 0)), by rw [ht]; exact hP9, va_K.moved hW.alike hK, hD9⟩, hS.F ht⟩) hS.2.2 dX8_oneBit_8
set_option maxHeartbeats 8000000 in
set_option maxRecDepth 100000 in
theorem sX8_gamma_0 (l : Launch) (dC : Nat → ClassId) (dI : Nat → Nat → Nat) (adK adV : Nat → Nat) (h0 : Nat) (h1 : Nat) (h4 : Nat) (h3 : Nat) (h2 : Nat) (h5 : Nat) (h6 : Nat) (h7 : Nat) (h8 : Nat) (h9 : Nat) (k4 : ClassId) (k3 : ClassId) (k2 : ClassId) (k5 : ClassId) (k6 : ClassId) (k7 : ClassId) (sz : Nat) (v0 : Nat → Int32) (v1 : Nat → Int32) (f4 : Nat → Int32) (f3 : Nat → Int32) (f2 : Nat → Int32) (f5 : Nat → Int32) (f6 : Nat → Int32) (f7 : Nat → Int32) (hv1 : zR rg_Postings v1) (hf3 : zA 0 1250 f3) (hf6 : zA 0 832 f6) : Met l yX8_gamma (zw yX8_gamma cX8_gamma 4 (some .int)) { frames := 2, cells := 0, slots := 0, locals := 44 } (zPc dC dI adK adV [.ref h0] sz [(h0, .inr (8, mX8 h1 v0)), (h1, .inr (6, mX6 h2 h3 h4 h5 h6 h7 h8 h9 v1)), (h4, zi k4 833 f4), (h3, zi k3 833 f3), (h2, zi k2 1250 f2), (h5, zi k5 400 f5), (h6, zi k6 400 f6), (h7, zi k7 400 f7)] [(k4, .int), (k3, .int), (k2, .int), (k5, .int), (k6, .int), (k7, .int)]) (va_Qi (fun (r : Int32) (u : Nat → Int32) => (zGm f2 f3 f4 f5 f6 f7 (v1 8).toInt (v1 9).toInt (v1 10).toInt (v1 11).toInt (v0 1).toInt (v0 2).toInt (v0 3).toInt (v0 4).toInt (u 0).toInt (u 1).toInt (u 2).toInt (u 3).toInt r.toInt)) (fun (u : Nat → Int32) (t : State) => ∃ (ww : Nat → Int64) (aa : Nat → Nat → Int32) (bb : Nat → Nat → Int64), va_P (dC, dI) vwCl [(h0, .inr (8, mX8 h1 (upd (upd (upd (upd v0 1 (u 0)) 2 (u 1)) 3 (u 2)) 4 (u 3)))), (h1, .inr (6, mX6 h2 h3 h4 h5 h6 h7 h8 h9 v1)), (h4, zi k4 833 f4), (h3, zi k3 833 f3), (h2, zi k2 1250 f2), (h5, zi k5 400 f5), (h6, zi k6 400 f6), (h7, zi k7 400 f7)] t.heap ∧ va_K (dC, dI) vwCl [(k4, .int), (k3, .int), (k2, .int), (k5, .int), (k6, .int), (k7, .int)] t ∧ va_D (va_A [(h0, .inr (8, mX8 h1 v0)), (h1, .inr (6, mX6 h2 h3 h4 h5 h6 h7 h8 h9 v1)), (h4, zi k4 833 f4), (h3, zi k3 833 f3), (h2, zi k2 1250 f2), (h5, zi k5 400 f5), (h6, zi k6 400 f6), (h7, zi k7 400 f7)] sz) [(h0, .inr (8, mX8 h1 (upd (upd (upd (upd v0 1 (u 0)) 2 (u 1)) 3 (u 2)) 4 (u 3)))), (h1, .inr (6, mX6 h2 h3 h4 h5 h6 h7 h8 h9 v1)), (h4, zi k4 833 f4), (h3, zi k3 833 f3), (h2, zi k2 1250 f2), (h5, zi k5 400 f5), (h6, zi k6 400 f6), (h7, zi k7 400 f7)]) (va_A [(h0, .inr (8, mX8 h1 v0)), (h1, .inr (6, mX6 h2 h3 h4 h5 h6 h7 h8 h9 v1)), (h4, zi k4 833 f4), (h3, zi k3 833 f3), (h2, zi k2 1250 f2), (h5, zi k5 400 f5), (h6, zi k6 400 f6), (h7, zi k7 400 f7)] sz)) 0 0 (va_A [(h0, .inr (8, mX8 h1 v0)), (h1, .inr (6, mX6 h2 h3 h4 h5 h6 h7 h8 h9 v1)), (h4, zi k4 833 f4), (h3, zi k3 833 f3), (h2, zi k2 1250 f2), (h5, zi k5 400 f5), (h6, zi k6 400 f6), (h7, zi k7 400 f7)] sz) := by
  refine Met.ofW (cc := cX8_gamma) (maxL := 4) (ret := (some .int)) (by decide) rfl ?_
  intro p e s m args below meth c s₁ B hml hv
  obtain ⟨rfl, hsz, hP, hK, hD0, hE, hZ⟩ := hv
  have hx := B.exec
  have hb := B.bytes
  have hr := B.returns
  have hG : ∀ w ∈ zG, w.before _ s = true := fun w h => atoms_spec (ws := (zw yX8_gamma cX8_gamma 4 (some .int))) B.pre w (List.mem_cons_of_mem _ h)
  have hown : s.vm.findClass RX8 = some m.cls := findClass_of_methodNamed B.named
  have hlocks := B.notSynchronized

  subst hsz
  have hD := hD0.self (sz := s.heap.size)
  generalize hAe : va_A [(h0, .inr (8, mX8 h1 v0)), (h1, .inr (6, mX6 h2 h3 h4 h5 h6 h7 h8 h9 v1)), (h4, zi k4 833 f4), (h3, zi k3 833 f3), (h2, zi k2 1250 f2), (h5, zi k5 400 f5), (h6, zi k6 400 f6), (h7, zi k7 400 f7)] s.heap.size = A at hD hZ ⊢
  have hA : ∀ q : Nat, s.heap.size ≤ q → A q := fun q h => by rw [← hAe]; exact Or.inr h
  have hS : va_S A s.heap s.heap [] := va_S.rf
  have hl := lv_entry ([.ref h0]) (n := 4) (Nat.le_of_ble_eq_true rfl)
  rw [lg_entry_eq]
  generalize (lg_sl ([.ref h0]) ++ List.replicate (4 - (lg_sl ([.ref h0])).length) Slot.unset).toArray = ls at hl ⊢
  have hl : lv_has ls 4 [(0, .ref h0)] := hl
  have b_ := zk_0
  have b_ := zk_1
  have b_ : 0 ≤ (v1 8).toInt ∧ (v1 8).toInt ≤ 833 := hv1 8
  have b_ : 0 ≤ (v1 9).toInt ∧ (v1 9).toInt ≤ 1250 := hv1 9
  have b_ : -2147483648 ≤ (v1 10).toInt ∧ (v1 10).toInt ≤ 2147483647 := ⟨zlo _, zhi _⟩
  have b_ : -2147483648 ≤ (v1 11).toInt ∧ (v1 11).toInt ≤ 2147483647 := ⟨zlo _, zhi _⟩
  have b_ : -2147483648 ≤ (v0 1).toInt ∧ (v0 1).toInt ≤ 2147483647 := ⟨zlo _, zhi _⟩
  have b_ : -2147483648 ≤ (v0 2).toInt ∧ (v0 2).toInt ≤ 2147483647 := ⟨zlo _, zhi _⟩
  have b_ : -2147483648 ≤ (v0 3).toInt ∧ (v0 3).toInt ≤ 2147483647 := ⟨zlo _, zhi _⟩
  have b_ : -2147483648 ≤ (v0 4).toInt ∧ (v0 4).toInt ≤ 2147483647 := ⟨zlo _, zhi _⟩
  refine lv_iconst (v := 0) hx hb dX8_gamma_0 (by decide) ?_
  refine lv_istore_n (lv' := [(1, .int 0), (0, .ref h0)]) hx hb dX8_gamma_1 rfl hl (by decide) rfl (fun ls hl => ?_)
  refine zcutL (fun u2_ => (31 - (u2_ 0).toInt).toNat) (fun H locs ls u2_ w2_ a2_ b2_ => va_P (dC, dI) vwCl [(h0, .inr (8, mX8 h1 (upd (upd (upd (upd v0 1 (u2_ 1)) 2 (u2_ 2)) 3 (u2_ 3)) 4 (u2_ 4)))), (h1, .inr (6, mX6 h2 h3 h4 h5 h6 h7 h8 h9 v1)), (h4, zi k4 833 f4), (h3, zi k3 833 f3), (h2, zi k2 1250 f2), (h5, zi k5 400 f5), (h6, zi k6 400 f6), (h7, zi k7 400 f7)] H ∧ va_D A [(h0, .inr (8, mX8 h1 (upd (upd (upd (upd v0 1 (u2_ 1)) 2 (u2_ 2)) 3 (u2_ 3)) 4 (u2_ 4)))), (h1, .inr (6, mX6 h2 h3 h4 h5 h6 h7 h8 h9 v1)), (h4, zi k4 833 f4), (h3, zi k3 833 f3), (h2, zi k2 1250 f2), (h5, zi k5 400 f5), (h6, zi k6 400 f6), (h7, zi k7 400 f7)] ∧ va_S A s.heap H locs ∧ lv_has ls 4 [(0, .ref h0), (1, .int (u2_ 0))] ∧ (0 ≤ (u2_ 0).toInt ∧ (u2_ 0).toInt ≤ 31) ∧ (zGz f2 f3 f4 f5 f6 f7 (v1 8).toInt (v1 9).toInt (v1 10).toInt (v1 11).toInt (v0 1).toInt (v0 2).toInt (v0 3).toInt (v0 4).toInt (u2_ 1).toInt (u2_ 2).toInt (u2_ 3).toInt (u2_ 4).toInt (u2_ 0).toInt)) (fun ls u2_ w2_ => F0 m 2 ls []) 0 0 ?_ (fun hJ2 => ?_)
  · skip
    intro H locs ls u2_ w2_ a2_ b2_ hc hJ2
    obtain ⟨hP, hD, hS, hl, b_, hI2_0⟩ := hc
    refine lv_iload_n hx hb dX8_gamma_2 rfl (lv_at hl 1 rfl) ?_
    refine lv_bipush (v := 31) hx hb dX8_gamma_3 (by decide) ?_
    refine zcutW (fun H locs ls u28_ w28_ a28_ b28_ => va_P (dC, dI) vwCl [(h0, .inr (8, mX8 h1 (upd (upd (upd (upd v0 1 (u28_ 0)) 2 (u28_ 1)) 3 (u28_ 2)) 4 (u28_ 3)))), (h1, .inr (6, mX6 h2 h3 h4 h5 h6 h7 h8 h9 v1)), (h4, zi k4 833 f4), (h3, zi k3 833 f3), (h2, zi k2 1250 f2), (h5, zi k5 400 f5), (h6, zi k6 400 f6), (h7, zi k7 400 f7)] H ∧ va_D A [(h0, .inr (8, mX8 h1 (upd (upd (upd (upd v0 1 (u28_ 0)) 2 (u28_ 1)) 3 (u28_ 2)) 4 (u28_ 3)))), (h1, .inr (6, mX6 h2 h3 h4 h5 h6 h7 h8 h9 v1)), (h4, zi k4 833 f4), (h3, zi k3 833 f3), (h2, zi k2 1250 f2), (h5, zi k5 400 f5), (h6, zi k6 400 f6), (h7, zi k7 400 f7)] ∧ va_S A s.heap H locs ∧ lv_has ls 4 [(0, .ref h0), (1, .int (u2_ 0))] ∧ (0 ≤ (u2_ 0).toInt ∧ (u2_ 0).toInt ≤ 31) ∧ (zGy f2 f3 f4 f5 f6 f7 (v1 8).toInt (v1 9).toInt (v1 10).toInt (v1 11).toInt (v0 1).toInt (v0 2).toInt (v0 3).toInt (v0 4).toInt (u28_ 0).toInt (u28_ 1).toInt (u28_ 2).toInt (u28_ 3).toInt (u2_ 0).toInt 0 1)) (fun ls u28_ w28_ => F0 m 28 ls []) 0 0 ?_ (fun hJ28 => ?_)
    · skip
      intro H locs ls u28_ w28_ a28_ b28_ hc
      obtain ⟨hP, hD, hS, hl, b_, hI28_0⟩ := hc
      refine lv_iconst (v := 1) hx hb dX8_gamma_28 (by decide) ?_
      refine lv_istore_n (lv' := [(2, .int 1), (0, .ref h0), (1, .int (u2_ 0))]) hx hb dX8_gamma_29 rfl hl (by decide) rfl (fun ls hl => ?_)
      refine lv_iconst (v := 0) hx hb dX8_gamma_30 (by decide) ?_
      refine lv_istore_n (lv' := [(3, .int 0), (2, .int 1), (0, .ref h0), (1, .int (u2_ 0))]) hx hb dX8_gamma_31 rfl hl (by decide) rfl (fun ls hl => ?_)
      refine zcutL (fun u32_ => (31 - (u32_ 1).toInt).toNat) (fun H locs ls u32_ w32_ a32_ b32_ => va_P (dC, dI) vwCl [(h0, .inr (8, mX8 h1 (upd (upd (upd (upd v0 1 (u32_ 2)) 2 (u32_ 3)) 3 (u32_ 4)) 4 (u32_ 5)))), (h1, .inr (6, mX6 h2 h3 h4 h5 h6 h7 h8 h9 v1)), (h4, zi k4 833 f4), (h3, zi k3 833 f3), (h2, zi k2 1250 f2), (h5, zi k5 400 f5), (h6, zi k6 400 f6), (h7, zi k7 400 f7)] H ∧ va_D A [(h0, .inr (8, mX8 h1 (upd (upd (upd (upd v0 1 (u32_ 2)) 2 (u32_ 3)) 3 (u32_ 4)) 4 (u32_ 5)))), (h1, .inr (6, mX6 h2 h3 h4 h5 h6 h7 h8 h9 v1)), (h4, zi k4 833 f4), (h3, zi k3 833 f3), (h2, zi k2 1250 f2), (h5, zi k5 400 f5), (h6, zi k6 400 f6), (h7, zi k7 400 f7)] ∧ va_S A s.heap H locs ∧ lv_has ls 4 [(0, .ref h0), (1, .int (u2_ 0)), (2, .int (u32_ 0)), (3, .int (u32_ 1))] ∧ (0 ≤ (u32_ 1).toInt ∧ (u32_ 1).toInt ≤ 31) ∧ (zGy f2 f3 f4 f5 f6 f7 (v1 8).toInt (v1 9).toInt (v1 10).toInt (v1 11).toInt (v0 1).toInt (v0 2).toInt (v0 3).toInt (v0 4).toInt (u32_ 2).toInt (u32_ 3).toInt (u32_ 4).toInt (u32_ 5).toInt (u2_ 0).toInt (u32_ 1).toInt (u32_ 0).toInt)) (fun ls u32_ w32_ => F0 m 32 ls []) 0 0 ?_ (fun hJ32 => ?_)
      · skip
        intro H locs ls u32_ w32_ a32_ b32_ hc hJ32
        obtain ⟨hP, hD, hS, hl, b_, hI32_0⟩ := hc
        refine lv_iload_n hx hb dX8_gamma_32 rfl (lv_at hl 3 rfl) ?_
        refine lv_iload_n hx hb dX8_gamma_33 rfl (lv_at hl 1 rfl) ?_
        refine lv_icmp_ge (tgt := 52) hx hb dX8_gamma_34 (by decide) (fun c_ => ?_) (fun c_ => ?_)
        · skip
          have b_ := zT_ge rfl rfl c_
          refine lv_iload_n hx hb dX8_gamma_52 rfl (lv_at hl 2 rfl) ?_
          refine W.widen (k := 0) (n := 0) (by decide) (by decide) ?_
          have b_ : -2147483648 ≤ (u32_ 0).toInt ∧ (u32_ 0).toInt ≤ 2147483647 := ⟨zlo _, zhi _⟩
          have b_ : -2147483648 ≤ (u32_ 2).toInt ∧ (u32_ 2).toInt ≤ 2147483647 := ⟨zlo _, zhi _⟩
          have b_ : -2147483648 ≤ (u32_ 3).toInt ∧ (u32_ 3).toInt ≤ 2147483647 := ⟨zlo _, zhi _⟩
          have b_ : -2147483648 ≤ (u32_ 4).toInt ∧ (u32_ 4).toInt ≤ 2147483647 := ⟨zlo _, zhi _⟩
          have b_ : -2147483648 ≤ (u32_ 5).toInt ∧ (u32_ 5).toInt ≤ 2147483647 := ⟨zlo _, zhi _⟩
          have hpost : (zGm f2 f3 f4 f5 f6 f7 (v1 8).toInt (v1 9).toInt (v1 10).toInt (v1 11).toInt (v0 1).toInt (v0 2).toInt (v0 3).toInt (v0 4).toInt (u32_ 2).toInt (u32_ 3).toInt (u32_ 4).toInt (u32_ 5).toInt (u32_ 0).toInt) := by exact zGm_e (by assumption) (by omega) rfl
          have hP9 : va_P (dC, dI) vwCl [(h0, .inr (8, mX8 h1 (upd (upd (upd (upd v0 1 (u32_ 2)) 2 (u32_ 3)) 3 (u32_ 4)) 4 (u32_ 5)))), (h1, .inr (6, mX6 h2 h3 h4 h5 h6 h7 h8 h9 v1)), (h4, zi k4 833 f4), (h3, zi k3 833 f3), (h2, zi k2 1250 f2), (h5, zi k5 400 f5), (h6, zi k6 400 f6), (h7, zi k7 400 f7)] H := hP
          have hD9 : va_D A [(h0, .inr (8, mX8 h1 (upd (upd (upd (upd v0 1 (u32_ 2)) 2 (u32_ 3)) 3 (u32_ 4)) 4 (u32_ 5)))), (h1, .inr (6, mX6 h2 h3 h4 h5 h6 h7 h8 h9 v1)), (h4, zi k4 833 f4), (h3, zi k3 833 f3), (h2, zi k2 1250 f2), (h5, zi k5 400 f5), (h6, zi k6 400 f6), (h7, zi k7 400 f7)] := hD
          exact W.iret (v := (u32_ 0)) hx hb hr (fun t ht hW => ⟨⟨(u32_ 0), (fun i => ([(u32_ 2), (u32_ 3), (u32_ 4), (u32_ 5)] : List (Int32)).getD i 0), rfl, hpost, (fun _ => 0), (fun _ => (fun _ => 0)), (fun _ => (fun _ => 0)), by rw [ht]; exact hP9, va_K.moved hW.alike hK, hD9⟩, hS.F ht⟩) hS.2.2 dX8_gamma_53
        · skip
          have b_ := zF_ge rfl rfl c_
          refine lv_iload_n hx hb dX8_gamma_37 rfl (lv_at hl 2 rfl) ?_
          refine lv_iconst (v := 1) hx hb dX8_gamma_38 (by decide) ?_
          have b_ : -2147483648 ≤ (u32_ 0).toInt ∧ (u32_ 0).toInt ≤ 2147483647 := ⟨zlo _, zhi _⟩
          refine lv_ishl hx hb dX8_gamma_39 ?_
          refine lv_topi (fun z39 e_z39 => ?_)
          refine lv_aload_n hx hb dX8_gamma_40 rfl (lv_at hl 0 rfl) ?_
          have b_ : -2147483648 ≤ (u32_ 2).toInt ∧ (u32_ 2).toInt ≤ 2147483647 := ⟨zlo _, zhi _⟩
          have b_ : -2147483648 ≤ (u32_ 3).toInt ∧ (u32_ 3).toInt ≤ 2147483647 := ⟨zlo _, zhi _⟩
          have b_ : -2147483648 ≤ (u32_ 4).toInt ∧ (u32_ 4).toInt ≤ 2147483647 := ⟨zlo _, zhi _⟩
          have b_ : -2147483648 ≤ (u32_ 5).toInt ∧ (u32_ 5).toInt ≤ 2147483647 := ⟨zlo _, zhi _⟩
          have hPc := hP.sub (ws' := [(h0, .inr (8, mX8 h1 (upd (upd (upd (upd v0 1 (u32_ 2)) 2 (u32_ 3)) 3 (u32_ 4)) 4 (u32_ 5)))), (h1, .inr (6, mX6 h2 h3 h4 h5 h6 h7 h8 h9 v1)), (h4, zi k4 833 f4), (h3, zi k3 833 f3), (h2, zi k2 1250 f2), (h5, zi k5 400 f5), (h6, zi k6 400 f6), (h7, zi k7 400 f7)]) [0, 1, 2, 3, 4, 5, 6, 7] rfl
          have hDc := hD.sub (ws' := [(h0, .inr (8, mX8 h1 (upd (upd (upd (upd v0 1 (u32_ 2)) 2 (u32_ 3)) 3 (u32_ 4)) 4 (u32_ 5)))), (h1, .inr (6, mX6 h2 h3 h4 h5 h6 h7 h8 h9 v1)), (h4, zi k4 833 f4), (h3, zi k3 833 f3), (h2, zi k2 1250 f2), (h5, zi k5 400 f5), (h6, zi k6 400 f6), (h7, zi k7 400 f7)]) [0, 1, 2, 3, 4, 5, 6, 7] (by decide) rfl
          have hKc := hK.sub (tys' := [(k4, .int), (k3, .int), (k2, .int), (k5, .int), (k6, .int), (k7, .int)]) [0, 1, 2, 3, 4, 5] rfl
          have hFc := va_free (wc := [(h0, .inr (8, mX8 h1 (upd (upd (upd (upd v0 1 (u32_ 2)) 2 (u32_ 3)) 3 (u32_ 4)) 4 (u32_ 5)))), (h1, .inr (6, mX6 h2 h3 h4 h5 h6 h7 h8 h9 v1)), (h4, zi k4 833 f4), (h3, zi k3 833 f3), (h2, zi k2 1250 f2), (h5, zi k5 400 f5), (h6, zi k6 400 f6), (h7, zi k7 400 f7)]) hD hS hA [0, 1, 2, 3, 4, 5, 6, 7] rfl
          refine va_calli (va_runV (As := []) (rest := [.int z39]) ⟨hx, hb, hml, hown, hG⟩ (sX8_oneBit_0 l dC dI adK adV h0 h1 h4 h3 h2 h5 h6 h7 h8 h9 k4 k3 k2 k5 k6 k7 H.size (upd (upd (upd (upd v0 1 (u32_ 2)) 2 (u32_ 3)) 3 (u32_ 4)) 4 (u32_ 5)) v1 f4 f3 f2 f5 f6 f7 hv1 hf3 hf6) (cwV 0 hG (zgV zv918 zv920 zv10 zv134 zv921) rfl rfl rfl (by decide +kernel) ⟨Nat.le_of_ble_eq_true rfl, Nat.le_of_ble_eq_true rfl⟩) ⟨zPc_blind, va_recv hKc hPc (ci := 8) (q0 := 0) rfl rfl, zPc_pre hPc hKc hDc hE hS hFc hZ⟩ rfl rfl hl.1 rfl (lv_room (Nat.le_of_ble_eq_true rfl)) dX8_gamma_41 ⟨Nat.le_of_ble_eq_true rfl, Nat.le_of_ble_eq_true rfl⟩) hS (fun q _ h => hFc q h) hFc (fun r41_ u41_ t H1 locs ht hvm hw hB hz1 hk1 hS => ?_)
          replace hw : (0 ≤ r41_.toInt ∧ r41_.toInt ≤ 1) ∧ ((-2147483648) ≤ (u41_ 0).toInt ∧ (u41_ 0).toInt ≤ 2147483646) ∧ (zOb f2 f3 f4 f5 f6 f7 (v1 8).toInt (v1 9).toInt (v1 10).toInt (v1 11).toInt (u32_ 2).toInt (u32_ 3).toInt (u32_ 4).toInt (u32_ 5).toInt (u41_ 0).toInt (u41_ 1).toInt (u41_ 2).toInt (u41_ 3).toInt r41_.toInt) := hw
          obtain ⟨b_, b_, hX41_0⟩ := hw
          obtain ⟨w41_, a41_, b41_, hP1, hK1, hD1⟩ := hB
          rw [ht] at hP1
          obtain ⟨hP, hD⟩ := va_join (wr := []) (w1 := [(h0, .inr (8, mX8 h1 (upd (upd (upd (upd v0 1 (u41_ 0)) 2 (u41_ 1)) 3 (u41_ 2)) 4 (u41_ 3)))), (h1, .inr (6, mX6 h2 h3 h4 h5 h6 h7 h8 h9 v1)), (h4, zi k4 833 f4), (h3, zi k3 833 f3), (h2, zi k2 1250 f2), (h5, zi k5 400 f5), (h6, zi k6 400 f6), (h7, zi k7 400 f7)]) hP hD [0, 1, 2, 3, 4, 5, 6, 7] [] rfl rfl (by decide) (by decide) hk1 hFc hP1 hD1
          have hP : va_P (dC, dI) vwCl [(h0, .inr (8, mX8 h1 (upd (upd (upd (upd v0 1 (u41_ 0)) 2 (u41_ 1)) 3 (u41_ 2)) 4 (u41_ 3)))), (h1, .inr (6, mX6 h2 h3 h4 h5 h6 h7 h8 h9 v1)), (h4, zi k4 833 f4), (h3, zi k3 833 f3), (h2, zi k2 1250 f2), (h5, zi k5 400 f5), (h6, zi k6 400 f6), (h7, zi k7 400 f7)] H1 := hP.sub [0, 1, 2, 3, 4, 5, 6, 7] rfl
          have hD : va_D A [(h0, .inr (8, mX8 h1 (upd (upd (upd (upd v0 1 (u41_ 0)) 2 (u41_ 1)) 3 (u41_ 2)) 4 (u41_ 3)))), (h1, .inr (6, mX6 h2 h3 h4 h5 h6 h7 h8 h9 v1)), (h4, zi k4 833 f4), (h3, zi k3 833 f3), (h2, zi k2 1250 f2), (h5, zi k5 400 f5), (h6, zi k6 400 f6), (h7, zi k7 400 f7)] := hD.sub [0, 1, 2, 3, 4, 5, 6, 7] (by decide) rfl
          generalize H1 = H at hP hS ⊢
          clear hz1
          have b_ : -2147483648 ≤ z39.toInt ∧ z39.toInt ≤ 2147483647 := ⟨zlo _, zhi _⟩
          refine lv_ior hx hb dX8_gamma_44 ?_
          refine lv_topi (fun z44 e_z44 => ?_)
          refine lv_istore_n (lv' := [(2, .int z44), (0, .ref h0), (1, .int (u2_ 0)), (3, .int (u32_ 1))]) hx hb dX8_gamma_45 rfl hl (by decide) rfl (fun ls hl => ?_)
          obtain ⟨z46, e_z46⟩ : ∃ z : Int32, z = (u32_ 1) + Int32.ofInt 1 := ⟨_, rfl⟩
          have b_ := zadd (x := (u32_ 1)) (y := Int32.ofInt 1) rfl (show (Int32.ofInt 1).toInt = 1 from by decide) e_z46 (by omega) (by omega)
          refine lv_iinc (v := z46) (lv' := [(3, .int z46), (2, .int z44), (0, .ref h0), (1, .int (u2_ 0))]) hx hb dX8_gamma_46 hl (k := 3) rfl e_z46.symm (by decide) rfl (fun ls hl => ?_)
          refine lv_goto (tgt := 32) hx hb dX8_gamma_49 (by decide) ?_
          have b_ : -2147483648 ≤ z44.toInt ∧ z44.toInt ≤ 2147483647 := ⟨zlo _, zhi _⟩
          have hc : va_P (dC, dI) vwCl [(h0, .inr (8, mX8 h1 (upd (upd (upd (upd v0 1 (u41_ 0)) 2 (u41_ 1)) 3 (u41_ 2)) 4 (u41_ 3)))), (h1, .inr (6, mX6 h2 h3 h4 h5 h6 h7 h8 h9 v1)), (h4, zi k4 833 f4), (h3, zi k3 833 f3), (h2, zi k2 1250 f2), (h5, zi k5 400 f5), (h6, zi k6 400 f6), (h7, zi k7 400 f7)] H ∧ va_D A [(h0, .inr (8, mX8 h1 (upd (upd (upd (upd v0 1 (u41_ 0)) 2 (u41_ 1)) 3 (u41_ 2)) 4 (u41_ 3)))), (h1, .inr (6, mX6 h2 h3 h4 h5 h6 h7 h8 h9 v1)), (h4, zi k4 833 f4), (h3, zi k3 833 f3), (h2, zi k2 1250 f2), (h5, zi k5 400 f5), (h6, zi k6 400 f6), (h7, zi k7 400 f7)] ∧ va_S A s.heap H locs ∧ lv_has ls 4 [(0, .ref h0), (1, .int (u2_ 0)), (2, .int z44), (3, .int z46)] ∧ (0 ≤ z46.toInt ∧ z46.toInt ≤ 31) ∧ (zGy f2 f3 f4 f5 f6 f7 (v1 8).toInt (v1 9).toInt (v1 10).toInt (v1 11).toInt (v0 1).toInt (v0 2).toInt (v0 3).toInt (v0 4).toInt (u41_ 0).toInt (u41_ 1).toInt (u41_ 2).toInt (u41_ 3).toInt (u2_ 0).toInt z46.toInt z44.toInt) := ⟨hP, hD, hS, lv_sub hl [2, 3, 1, 0] rfl, (by first | with_reducible assumption | exact ⟨by omega, by omega⟩), by first | exact zGy_s (by assumption) hX41_0 (by omega) (by omega) e_z39 e_z44 | assumption | (rw [zk_0, zk_1]; assumption)⟩
          exact hJ32 H locs ls (fun i => ([z44, z46, (u41_ 0), (u41_ 1), (u41_ 2), (u41_ 3)] : List (Int32)).getD i 0) (fun _ => 0) (fun _ => (fun _ => 0)) (fun _ => (fun _ => 0)) hc (show (31 - z46.toInt).toNat < (31 - (u32_ 1).toInt).toNat from by omega)
      · skip
        have hc : va_P (dC, dI) vwCl [(h0, .inr (8, mX8 h1 (upd (upd (upd (upd v0 1 (u28_ 0)) 2 (u28_ 1)) 3 (u28_ 2)) 4 (u28_ 3)))), (h1, .inr (6, mX6 h2 h3 h4 h5 h6 h7 h8 h9 v1)), (h4, zi k4 833 f4), (h3, zi k3 833 f3), (h2, zi k2 1250 f2), (h5, zi k5 400 f5), (h6, zi k6 400 f6), (h7, zi k7 400 f7)] H ∧ va_D A [(h0, .inr (8, mX8 h1 (upd (upd (upd (upd v0 1 (u28_ 0)) 2 (u28_ 1)) 3 (u28_ 2)) 4 (u28_ 3)))), (h1, .inr (6, mX6 h2 h3 h4 h5 h6 h7 h8 h9 v1)), (h4, zi k4 833 f4), (h3, zi k3 833 f3), (h2, zi k2 1250 f2), (h5, zi k5 400 f5), (h6, zi k6 400 f6), (h7, zi k7 400 f7)] ∧ va_S A s.heap H locs ∧ lv_has ls 4 [(0, .ref h0), (1, .int (u2_ 0)), (2, .int 1), (3, .int 0)] ∧ (0 ≤ (0 : Int32).toInt ∧ (0 : Int32).toInt ≤ 31) ∧ (zGy f2 f3 f4 f5 f6 f7 (v1 8).toInt (v1 9).toInt (v1 10).toInt (v1 11).toInt (v0 1).toInt (v0 2).toInt (v0 3).toInt (v0 4).toInt (u28_ 0).toInt (u28_ 1).toInt (u28_ 2).toInt (u28_ 3).toInt (u2_ 0).toInt (0 : Int32).toInt (1 : Int32).toInt) := ⟨hP, hD, hS, lv_sub hl [2, 3, 1, 0] rfl, (by first | with_reducible assumption | exact ⟨by omega, by omega⟩), by first | exact zGy_s (by assumption) hX41_0 (by omega) (by omega) e_z39 e_z44 | assumption | (rw [zk_0, zk_1]; assumption)⟩
        exact hJ32 H locs ls (fun i => ([1, 0, (u28_ 0), (u28_ 1), (u28_ 2), (u28_ 3)] : List (Int32)).getD i 0) (fun _ => 0) (fun _ => (fun _ => 0)) (fun _ => (fun _ => 0)) hc
    · skip
      refine lv_icmp_ge (tgt := 28) hx hb dX8_gamma_5 (by decide) (fun c_ => ?_) (fun c_ => ?_)
      · skip
        have b_ := zT_ge rfl zk_31 c_
        have hc : va_P (dC, dI) vwCl [(h0, .inr (8, mX8 h1 (upd (upd (upd (upd v0 1 (u2_ 1)) 2 (u2_ 2)) 3 (u2_ 3)) 4 (u2_ 4)))), (h1, .inr (6, mX6 h2 h3 h4 h5 h6 h7 h8 h9 v1)), (h4, zi k4 833 f4), (h3, zi k3 833 f3), (h2, zi k2 1250 f2), (h5, zi k5 400 f5), (h6, zi k6 400 f6), (h7, zi k7 400 f7)] H ∧ va_D A [(h0, .inr (8, mX8 h1 (upd (upd (upd (upd v0 1 (u2_ 1)) 2 (u2_ 2)) 3 (u2_ 3)) 4 (u2_ 4)))), (h1, .inr (6, mX6 h2 h3 h4 h5 h6 h7 h8 h9 v1)), (h4, zi k4 833 f4), (h3, zi k3 833 f3), (h2, zi k2 1250 f2), (h5, zi k5 400 f5), (h6, zi k6 400 f6), (h7, zi k7 400 f7)] ∧ va_S A s.heap H locs ∧ lv_has ls 4 [(0, .ref h0), (1, .int (u2_ 0))] ∧ (0 ≤ (u2_ 0).toInt ∧ (u2_ 0).toInt ≤ 31) ∧ (zGy f2 f3 f4 f5 f6 f7 (v1 8).toInt (v1 9).toInt (v1 10).toInt (v1 11).toInt (v0 1).toInt (v0 2).toInt (v0 3).toInt (v0 4).toInt (u2_ 1).toInt (u2_ 2).toInt (u2_ 3).toInt (u2_ 4).toInt (u2_ 0).toInt 0 1) := ⟨hP, hD, hS, lv_sub hl [0, 1] rfl, (by first | with_reducible assumption | exact ⟨by omega, by omega⟩), by first | exact zGy_0 (by assumption) hX16_0 (by omega) rfl rfl | exact zGy_x (by assumption) (by omega)⟩
        exact hJ28 H locs ls (fun i => ([(u2_ 1), (u2_ 2), (u2_ 3), (u2_ 4)] : List (Int32)).getD i 0) (fun _ => 0) (fun _ => (fun _ => 0)) (fun _ => (fun _ => 0)) hc
      · skip
        have b_ := zF_ge rfl zk_31 c_
        refine lv_aload_n hx hb dX8_gamma_8 rfl (lv_at hl 0 rfl) ?_
        refine va_get (D := (dC, dI)) (ci := 8) (v := .int (u2_ 1)) (C := RX8) (T := TX8) (N := 9) hx hb hG zuX8 hown hK hP 0 rfl rfl 1 (by decide) (hG _ zv292) (fun _ h9 => h9) rfl dX8_gamma_9 ?_
        have b_ : -2147483648 ≤ (u2_ 1).toInt ∧ (u2_ 1).toInt ≤ 2147483647 := ⟨zlo _, zhi _⟩
        refine lv_if_le (tgt := 28) hx hb dX8_gamma_12 (by decide) (fun c_ => ?_) (fun c_ => ?_)
        · skip
          have b_ := zT_le rfl zk_0 c_
          have hc : va_P (dC, dI) vwCl [(h0, .inr (8, mX8 h1 (upd (upd (upd (upd v0 1 (u2_ 1)) 2 (u2_ 2)) 3 (u2_ 3)) 4 (u2_ 4)))), (h1, .inr (6, mX6 h2 h3 h4 h5 h6 h7 h8 h9 v1)), (h4, zi k4 833 f4), (h3, zi k3 833 f3), (h2, zi k2 1250 f2), (h5, zi k5 400 f5), (h6, zi k6 400 f6), (h7, zi k7 400 f7)] H ∧ va_D A [(h0, .inr (8, mX8 h1 (upd (upd (upd (upd v0 1 (u2_ 1)) 2 (u2_ 2)) 3 (u2_ 3)) 4 (u2_ 4)))), (h1, .inr (6, mX6 h2 h3 h4 h5 h6 h7 h8 h9 v1)), (h4, zi k4 833 f4), (h3, zi k3 833 f3), (h2, zi k2 1250 f2), (h5, zi k5 400 f5), (h6, zi k6 400 f6), (h7, zi k7 400 f7)] ∧ va_S A s.heap H locs ∧ lv_has ls 4 [(0, .ref h0), (1, .int (u2_ 0))] ∧ (0 ≤ (u2_ 0).toInt ∧ (u2_ 0).toInt ≤ 31) ∧ (zGy f2 f3 f4 f5 f6 f7 (v1 8).toInt (v1 9).toInt (v1 10).toInt (v1 11).toInt (v0 1).toInt (v0 2).toInt (v0 3).toInt (v0 4).toInt (u2_ 1).toInt (u2_ 2).toInt (u2_ 3).toInt (u2_ 4).toInt (u2_ 0).toInt 0 1) := ⟨hP, hD, hS, lv_sub hl [0, 1] rfl, (by first | with_reducible assumption | exact ⟨by omega, by omega⟩), by first | exact zGy_0 (by assumption) hX16_0 (by omega) rfl rfl | exact zGy_x (by assumption) (by omega)⟩
          exact hJ28 H locs ls (fun i => ([(u2_ 1), (u2_ 2), (u2_ 3), (u2_ 4)] : List (Int32)).getD i 0) (fun _ => 0) (fun _ => (fun _ => 0)) (fun _ => (fun _ => 0)) hc
        · skip
          have b_ := zF_le rfl zk_0 c_
          refine lv_aload_n hx hb dX8_gamma_15 rfl (lv_at hl 0 rfl) ?_
          have b_ : -2147483648 ≤ (u2_ 2).toInt ∧ (u2_ 2).toInt ≤ 2147483647 := ⟨zlo _, zhi _⟩
          have b_ : -2147483648 ≤ (u2_ 3).toInt ∧ (u2_ 3).toInt ≤ 2147483647 := ⟨zlo _, zhi _⟩
          have b_ : -2147483648 ≤ (u2_ 4).toInt ∧ (u2_ 4).toInt ≤ 2147483647 := ⟨zlo _, zhi _⟩
          have hPc := hP.sub (ws' := [(h0, .inr (8, mX8 h1 (upd (upd (upd (upd v0 1 (u2_ 1)) 2 (u2_ 2)) 3 (u2_ 3)) 4 (u2_ 4)))), (h1, .inr (6, mX6 h2 h3 h4 h5 h6 h7 h8 h9 v1)), (h4, zi k4 833 f4), (h3, zi k3 833 f3), (h2, zi k2 1250 f2), (h5, zi k5 400 f5), (h6, zi k6 400 f6), (h7, zi k7 400 f7)]) [0, 1, 2, 3, 4, 5, 6, 7] rfl
          have hDc := hD.sub (ws' := [(h0, .inr (8, mX8 h1 (upd (upd (upd (upd v0 1 (u2_ 1)) 2 (u2_ 2)) 3 (u2_ 3)) 4 (u2_ 4)))), (h1, .inr (6, mX6 h2 h3 h4 h5 h6 h7 h8 h9 v1)), (h4, zi k4 833 f4), (h3, zi k3 833 f3), (h2, zi k2 1250 f2), (h5, zi k5 400 f5), (h6, zi k6 400 f6), (h7, zi k7 400 f7)]) [0, 1, 2, 3, 4, 5, 6, 7] (by decide) rfl
          have hKc := hK.sub (tys' := [(k4, .int), (k3, .int), (k2, .int), (k5, .int), (k6, .int), (k7, .int)]) [0, 1, 2, 3, 4, 5] rfl
          have hFc := va_free (wc := [(h0, .inr (8, mX8 h1 (upd (upd (upd (upd v0 1 (u2_ 1)) 2 (u2_ 2)) 3 (u2_ 3)) 4 (u2_ 4)))), (h1, .inr (6, mX6 h2 h3 h4 h5 h6 h7 h8 h9 v1)), (h4, zi k4 833 f4), (h3, zi k3 833 f3), (h2, zi k2 1250 f2), (h5, zi k5 400 f5), (h6, zi k6 400 f6), (h7, zi k7 400 f7)]) hD hS hA [0, 1, 2, 3, 4, 5, 6, 7] rfl
          refine va_calli (va_runV (As := []) (rest := []) ⟨hx, hb, hml, hown, hG⟩ (sX8_oneBit_0 l dC dI adK adV h0 h1 h4 h3 h2 h5 h6 h7 h8 h9 k4 k3 k2 k5 k6 k7 H.size (upd (upd (upd (upd v0 1 (u2_ 1)) 2 (u2_ 2)) 3 (u2_ 3)) 4 (u2_ 4)) v1 f4 f3 f2 f5 f6 f7 hv1 hf3 hf6) (cwV 0 hG (zgV zv918 zv920 zv10 zv134 zv921) rfl rfl rfl (by decide +kernel) ⟨Nat.le_of_ble_eq_true rfl, Nat.le_of_ble_eq_true rfl⟩) ⟨zPc_blind, va_recv hKc hPc (ci := 8) (q0 := 0) rfl rfl, zPc_pre hPc hKc hDc hE hS hFc hZ⟩ rfl rfl hl.1 rfl (lv_room (Nat.le_of_ble_eq_true rfl)) dX8_gamma_16 ⟨Nat.le_of_ble_eq_true rfl, Nat.le_of_ble_eq_true rfl⟩) hS (fun q _ h => hFc q h) hFc (fun r16_ u16_ t H1 locs ht hvm hw hB hz1 hk1 hS => ?_)
          replace hw : (0 ≤ r16_.toInt ∧ r16_.toInt ≤ 1) ∧ ((-2147483648) ≤ (u16_ 0).toInt ∧ (u16_ 0).toInt ≤ 2147483646) ∧ (zOb f2 f3 f4 f5 f6 f7 (v1 8).toInt (v1 9).toInt (v1 10).toInt (v1 11).toInt (u2_ 1).toInt (u2_ 2).toInt (u2_ 3).toInt (u2_ 4).toInt (u16_ 0).toInt (u16_ 1).toInt (u16_ 2).toInt (u16_ 3).toInt r16_.toInt) := hw
          obtain ⟨b_, b_, hX16_0⟩ := hw
          obtain ⟨w16_, a16_, b16_, hP1, hK1, hD1⟩ := hB
          rw [ht] at hP1
          obtain ⟨hP, hD⟩ := va_join (wr := []) (w1 := [(h0, .inr (8, mX8 h1 (upd (upd (upd (upd v0 1 (u16_ 0)) 2 (u16_ 1)) 3 (u16_ 2)) 4 (u16_ 3)))), (h1, .inr (6, mX6 h2 h3 h4 h5 h6 h7 h8 h9 v1)), (h4, zi k4 833 f4), (h3, zi k3 833 f3), (h2, zi k2 1250 f2), (h5, zi k5 400 f5), (h6, zi k6 400 f6), (h7, zi k7 400 f7)]) hP hD [0, 1, 2, 3, 4, 5, 6, 7] [] rfl rfl (by decide) (by decide) hk1 hFc hP1 hD1
          have hP : va_P (dC, dI) vwCl [(h0, .inr (8, mX8 h1 (upd (upd (upd (upd v0 1 (u16_ 0)) 2 (u16_ 1)) 3 (u16_ 2)) 4 (u16_ 3)))), (h1, .inr (6, mX6 h2 h3 h4 h5 h6 h7 h8 h9 v1)), (h4, zi k4 833 f4), (h3, zi k3 833 f3), (h2, zi k2 1250 f2), (h5, zi k5 400 f5), (h6, zi k6 400 f6), (h7, zi k7 400 f7)] H1 := hP.sub [0, 1, 2, 3, 4, 5, 6, 7] rfl
          have hD : va_D A [(h0, .inr (8, mX8 h1 (upd (upd (upd (upd v0 1 (u16_ 0)) 2 (u16_ 1)) 3 (u16_ 2)) 4 (u16_ 3)))), (h1, .inr (6, mX6 h2 h3 h4 h5 h6 h7 h8 h9 v1)), (h4, zi k4 833 f4), (h3, zi k3 833 f3), (h2, zi k2 1250 f2), (h5, zi k5 400 f5), (h6, zi k6 400 f6), (h7, zi k7 400 f7)] := hD.sub [0, 1, 2, 3, 4, 5, 6, 7] (by decide) rfl
          generalize H1 = H at hP hS ⊢
          clear hz1
          refine lv_if_ne (tgt := 28) hx hb dX8_gamma_19 (by decide) (fun c_ => ?_) (fun c_ => ?_)
          · skip
            have b_ := zT_ne rfl zk_0 c_
            have hc : va_P (dC, dI) vwCl [(h0, .inr (8, mX8 h1 (upd (upd (upd (upd v0 1 (u16_ 0)) 2 (u16_ 1)) 3 (u16_ 2)) 4 (u16_ 3)))), (h1, .inr (6, mX6 h2 h3 h4 h5 h6 h7 h8 h9 v1)), (h4, zi k4 833 f4), (h3, zi k3 833 f3), (h2, zi k2 1250 f2), (h5, zi k5 400 f5), (h6, zi k6 400 f6), (h7, zi k7 400 f7)] H ∧ va_D A [(h0, .inr (8, mX8 h1 (upd (upd (upd (upd v0 1 (u16_ 0)) 2 (u16_ 1)) 3 (u16_ 2)) 4 (u16_ 3)))), (h1, .inr (6, mX6 h2 h3 h4 h5 h6 h7 h8 h9 v1)), (h4, zi k4 833 f4), (h3, zi k3 833 f3), (h2, zi k2 1250 f2), (h5, zi k5 400 f5), (h6, zi k6 400 f6), (h7, zi k7 400 f7)] ∧ va_S A s.heap H locs ∧ lv_has ls 4 [(0, .ref h0), (1, .int (u2_ 0))] ∧ (0 ≤ (u2_ 0).toInt ∧ (u2_ 0).toInt ≤ 31) ∧ (zGy f2 f3 f4 f5 f6 f7 (v1 8).toInt (v1 9).toInt (v1 10).toInt (v1 11).toInt (v0 1).toInt (v0 2).toInt (v0 3).toInt (v0 4).toInt (u16_ 0).toInt (u16_ 1).toInt (u16_ 2).toInt (u16_ 3).toInt (u2_ 0).toInt 0 1) := ⟨hP, hD, hS, lv_sub hl [0, 1] rfl, (by first | with_reducible assumption | exact ⟨by omega, by omega⟩), by first | exact zGy_0 (by assumption) hX16_0 (by omega) rfl rfl | exact zGy_x (by assumption) (by omega)⟩
            exact hJ28 H locs ls (fun i => ([(u16_ 0), (u16_ 1), (u16_ 2), (u16_ 3)] : List (Int32)).getD i 0) (fun _ => 0) (fun _ => (fun _ => 0)) (fun _ => (fun _ => 0)) hc
          · skip
            have b_ := zF_ne rfl zk_0 c_
            obtain ⟨z22, e_z22⟩ : ∃ z : Int32, z = (u2_ 0) + Int32.ofInt 1 := ⟨_, rfl⟩
            have b_ := zadd (x := (u2_ 0)) (y := Int32.ofInt 1) rfl (show (Int32.ofInt 1).toInt = 1 from by decide) e_z22 (by omega) (by omega)
            refine lv_iinc (v := z22) (lv' := [(1, .int z22), (0, .ref h0)]) hx hb dX8_gamma_22 hl (k := 1) rfl e_z22.symm (by decide) rfl (fun ls hl => ?_)
            refine lv_goto (tgt := 2) hx hb dX8_gamma_25 (by decide) ?_
            have hc : va_P (dC, dI) vwCl [(h0, .inr (8, mX8 h1 (upd (upd (upd (upd v0 1 (u16_ 0)) 2 (u16_ 1)) 3 (u16_ 2)) 4 (u16_ 3)))), (h1, .inr (6, mX6 h2 h3 h4 h5 h6 h7 h8 h9 v1)), (h4, zi k4 833 f4), (h3, zi k3 833 f3), (h2, zi k2 1250 f2), (h5, zi k5 400 f5), (h6, zi k6 400 f6), (h7, zi k7 400 f7)] H ∧ va_D A [(h0, .inr (8, mX8 h1 (upd (upd (upd (upd v0 1 (u16_ 0)) 2 (u16_ 1)) 3 (u16_ 2)) 4 (u16_ 3)))), (h1, .inr (6, mX6 h2 h3 h4 h5 h6 h7 h8 h9 v1)), (h4, zi k4 833 f4), (h3, zi k3 833 f3), (h2, zi k2 1250 f2), (h5, zi k5 400 f5), (h6, zi k6 400 f6), (h7, zi k7 400 f7)] ∧ va_S A s.heap H locs ∧ lv_has ls 4 [(0, .ref h0), (1, .int z22)] ∧ (0 ≤ z22.toInt ∧ z22.toInt ≤ 31) ∧ (zGz f2 f3 f4 f5 f6 f7 (v1 8).toInt (v1 9).toInt (v1 10).toInt (v1 11).toInt (v0 1).toInt (v0 2).toInt (v0 3).toInt (v0 4).toInt (u16_ 0).toInt (u16_ 1).toInt (u16_ 2).toInt (u16_ 3).toInt z22.toInt) := ⟨hP, hD, hS, lv_sub hl [1, 0] rfl, (by first | with_reducible assumption | exact ⟨by omega, by omega⟩), by first | exact zGz_s (by assumption) hX16_0 (by omega) (by omega) | exact zGz_0 (by omega)⟩
            exact hJ2 H locs ls (fun i => ([z22, (u16_ 0), (u16_ 1), (u16_ 2), (u16_ 3)] : List (Int32)).getD i 0) (fun _ => 0) (fun _ => (fun _ => 0)) (fun _ => (fun _ => 0)) hc (show (31 - z22.toInt).toNat < (31 - (u2_ 0).toInt).toNat from by omega)
  · skip
    have hc : va_P (dC, dI) vwCl [(h0, .inr (8, mX8 h1 (upd (upd (upd (upd v0 1 (v0 1)) 2 (v0 2)) 3 (v0 3)) 4 (v0 4)))), (h1, .inr (6, mX6 h2 h3 h4 h5 h6 h7 h8 h9 v1)), (h4, zi k4 833 f4), (h3, zi k3 833 f3), (h2, zi k2 1250 f2), (h5, zi k5 400 f5), (h6, zi k6 400 f6), (h7, zi k7 400 f7)] s.heap ∧ va_D A [(h0, .inr (8, mX8 h1 (upd (upd (upd (upd v0 1 (v0 1)) 2 (v0 2)) 3 (v0 3)) 4 (v0 4)))), (h1, .inr (6, mX6 h2 h3 h4 h5 h6 h7 h8 h9 v1)), (h4, zi k4 833 f4), (h3, zi k3 833 f3), (h2, zi k2 1250 f2), (h5, zi k5 400 f5), (h6, zi k6 400 f6), (h7, zi k7 400 f7)] ∧ va_S A s.heap s.heap [] ∧ lv_has ls 4 [(0, .ref h0), (1, .int 0)] ∧ (0 ≤ (0 : Int32).toInt ∧ (0 : Int32).toInt ≤ 31) ∧ (zGz f2 f3 f4 f5 f6 f7 (v1 8).toInt (v1 9).toInt (v1 10).toInt (v1 11).toInt (v0 1).toInt (v0 2).toInt (v0 3).toInt (v0 4).toInt (v0 1).toInt (v0 2).toInt (v0 3).toInt (v0 4).toInt (0 : Int32).toInt) := ⟨hP, hD, hS, lv_sub hl [1, 0] rfl, (by first | with_reducible assumption | exact ⟨by omega, by omega⟩), by first | exact zGz_s (by assumption) hX16_0 (by omega) (by omega) | exact zGz_0 (by omega)⟩
    exact hJ2 s.heap [] ls (fun i => ([0, (v0 1), (v0 2), (v0 3), (v0 4)] : List (Int32)).getD i 0) (fun _ => 0) (fun _ => (fun _ => 0)) (fun _ => (fun _ => 0)) hc
