set_option maxHeartbeats 8000000 in
set_option maxRecDepth 100000 in
theorem sX0_markOf_0 (l : Launch) (dC : Nat → ClassId) (dI : Nat → Nat → Nat) (adK adV : Nat → Nat) (h0 : Nat) (h3 : Nat) (h1 : Nat) (h2 : Nat) (h4 : Nat) (k3 : ClassId) (sz : Nat) (v0 : Nat → Int32) (f3 : Nat → Int32) (x1 : Int32) (hv0 : zR rg_Documents v0) : Met l yX0_markOf (zw yX0_markOf cX0_markOf 2 (some .int)) { frames := 1, cells := 0, slots := 0, locals := 21 } (zPc dC dI adK adV [.ref h0, .int x1] sz [(h0, .inr (0, mX0 h1 h2 h3 h4 v0)), (h3, zi k3 120 f3)] [(k3, .int)]) (va_Qi (fun (r : Int32) (u : Nat → Int32) => (r.toInt = zMk f3 (v0 4).toInt x1.toInt)) (fun (u : Nat → Int32) (t : State) => ∃ (ww : Nat → Int64) (aa : Nat → Nat → Int32) (bb : Nat → Nat → Int64), va_P (dC, dI) vwCl [(h0, .inr (0, mX0 h1 h2 h3 h4 v0)), (h3, zi k3 120 f3)] t.heap ∧ va_K (dC, dI) vwCl [(k3, .int)] t ∧ va_D (va_A [(h0, .inr (0, mX0 h1 h2 h3 h4 v0)), (h3, zi k3 120 f3)] sz) [(h0, .inr (0, mX0 h1 h2 h3 h4 v0)), (h3, zi k3 120 f3)]) (va_A [(h0, .inr (0, mX0 h1 h2 h3 h4 v0)), (h3, zi k3 120 f3)] sz)) 0 0 (va_A [(h0, .inr (0, mX0 h1 h2 h3 h4 v0)), (h3, zi k3 120 f3)] sz) := by
  refine Met.ofW (cc := cX0_markOf) (maxL := 2) (ret := (some .int)) (by decide) rfl ?_
  intro p e s m args below meth c s₁ B hml hv
  obtain ⟨rfl, hsz, hP, hK, hD0, hE, hZ⟩ := hv
  have hx := B.exec
  have hb := B.bytes
  have hr := B.returns
  have hG : ∀ w ∈ zG, w.before _ s = true := fun w h => atoms_spec (ws := (zw yX0_markOf cX0_markOf 2 (some .int))) B.pre w (List.mem_cons_of_mem _ h)
  have hown : s.vm.findClass RX0 = some m.cls := findClass_of_methodNamed B.named
  have hlocks := B.notSynchronized

  subst hsz
  have hD := hD0.self (sz := s.heap.size)
  generalize hAe : va_A [(h0, .inr (0, mX0 h1 h2 h3 h4 v0)), (h3, zi k3 120 f3)] s.heap.size = A at hD hZ ⊢
  have hA : ∀ q : Nat, s.heap.size ≤ q → A q := fun q h => by rw [← hAe]; exact Or.inr h
  have hS : va_S A s.heap s.heap [] := va_S.rf
  have hl := lv_entry ([.ref h0, .int x1]) (n := 2) (Nat.le_of_ble_eq_true rfl)
  rw [lg_entry_eq]
  generalize (lg_sl ([.ref h0, .int x1]) ++ List.replicate (2 - (lg_sl ([.ref h0, .int x1])).length) Slot.unset).toArray = ls at hl ⊢
  have hl : lv_has ls 2 [(0, .ref h0), (1, .int x1)] := hl
  have b_ := zk_0
  have b_ : 0 ≤ (v0 4).toInt ∧ (v0 4).toInt ≤ 120 := hv0 4
  refine lv_aload_n hx hb dX0_markOf_0 rfl (lv_at hl 0 rfl) ?_
  refine lv_iload_n hx hb dX0_markOf_1 rfl (lv_at hl 1 rfl) ?_
  have hPc := hP.sub (ws' := [(h0, .inr (0, mX0 h1 h2 h3 h4 v0))]) [0] rfl
  have hDc := hD.sub (ws' := [(h0, .inr (0, mX0 h1 h2 h3 h4 v0))]) [0] (by decide) rfl
  have hKc := hK.sub (tys' := []) [] rfl
  have hFc := va_free (wc := [(h0, .inr (0, mX0 h1 h2 h3 h4 v0))]) hD hS hA [0] rfl
  refine va_calli (va_runV (As := [.int x1]) (rest := []) ⟨hx, hb, hml, hown, hG⟩ (sX0_came_0 l dC dI adK adV h0 h1 h2 h3 h4 s.heap.size v0 x1 hv0) (cwV 1 hG (zgV zv875 zv876 zv877 zv132 zv878) rfl rfl rfl (by decide +kernel) ⟨Nat.le_of_ble_eq_true rfl, Nat.le_of_ble_eq_true rfl⟩) ⟨zPc_blind, va_recv hKc hPc (ci := 0) (q0 := 0) rfl rfl, zPc_pre hPc hKc hDc hE hS hFc hZ⟩ rfl rfl hl.1 rfl (lv_room (Nat.le_of_ble_eq_true rfl)) dX0_markOf_2 ⟨Nat.le_of_ble_eq_true rfl, Nat.le_of_ble_eq_true rfl⟩) hS (fun q _ h => hFc q h) hFc (fun r2_ u2_ t H1 locs ht hvm hw hB hz1 hk1 hS => ?_)
  replace hw : (0 ≤ r2_.toInt ∧ r2_.toInt ≤ 1) ∧ (r2_.toInt = 1 → (0 ≤ x1.toInt ∧ x1.toInt ≤ 119)) ∧ (r2_.toInt = 1 → x1.toInt < (v0 4).toInt) ∧ (r2_.toInt = 0 → x1.toInt < 0 ∨ (v0 4).toInt ≤ x1.toInt) := hw
  obtain ⟨b_, hX2_0, hX2_1, hX2_2⟩ := hw
  obtain ⟨w2_, a2_, b2_, hP1, hK1, hD1⟩ := hB
  rw [ht] at hP1
  obtain ⟨hP, hD⟩ := va_join (wr := [(h3, zi k3 120 f3)]) (w1 := [(h0, .inr (0, mX0 h1 h2 h3 h4 v0))]) hP hD [0] [1] rfl rfl (by decide) (by decide) hk1 hFc hP1 hD1
  have hP : va_P (dC, dI) vwCl [(h0, .inr (0, mX0 h1 h2 h3 h4 v0)), (h3, zi k3 120 f3)] H1 := hP.sub [1, 0] rfl
  have hD : va_D A [(h0, .inr (0, mX0 h1 h2 h3 h4 v0)), (h3, zi k3 120 f3)] := hD.sub [1, 0] (by decide) rfl
  generalize H1 = H at hP hS ⊢
  clear hz1
  refine lv_if_eq (tgt := 17) hx hb dX0_markOf_5 (by decide) (fun c_ => ?_) (fun c_ => ?_)
  · skip
    have b_ := zT_eq rfl zk_0 c_
    refine lv_iconst (v := 0) hx hb dX0_markOf_17 (by decide) ?_
    refine W.widen (k := 0) (n := 0) (by decide) (by decide) ?_
    have hpost : ((0 : Int32).toInt = zMk f3 (v0 4).toInt x1.toInt) := by first | exact zMk_y (by omega) (by omega) e_z13 | exact zMk_n (by omega) (by decide)
    have hP9 : va_P (dC, dI) vwCl [(h0, .inr (0, mX0 h1 h2 h3 h4 v0)), (h3, zi k3 120 f3)] H := hP
    have hD9 : va_D A [(h0, .inr (0, mX0 h1 h2 h3 h4 v0)), (h3, zi k3 120 f3)] := hD
    exact W.iret (v := 0) hx hb hr (fun t ht hW => ⟨⟨0, (fun _ => 0), rfl, hpost, (fun _ => 0), (fun _ => (fun _ => 0)), (fun _ => (fun _ => 0)), by rw [ht]; exact hP9, va_K.moved hW.alike hK, hD9⟩, hS.F ht⟩) hS.2.2 dX0_markOf_18
  · skip
    have b_ := zF_eq rfl zk_0 c_
    refine lv_aload_n hx hb dX0_markOf_8 rfl (lv_at hl 0 rfl) ?_
    refine va_get (D := (dC, dI)) (ci := 0) (v := .ref h3) (C := RX0) (T := TX0) (N := 6) hx hb hG zuX0 hown hK hP 0 rfl rfl 2 (by decide) (hG _ zv224) (fun _ h9 => h9) rfl dX0_markOf_9 ?_
    refine lv_iload_n hx hb dX0_markOf_12 rfl (lv_at hl 1 rfl) ?_
    refine va_iald hx hb hK hP 1 0 rfl rfl (zin_lit ⟨by omega, by omega⟩) dX0_markOf_13 ?_
    refine lv_topi (fun z13 e_z13 => ?_)
    refine lv_goto (tgt := 18) hx hb dX0_markOf_14 (by decide) ?_
    refine W.widen (k := 0) (n := 0) (by decide) (by decide) ?_
    have b_ : -2147483648 ≤ z13.toInt ∧ z13.toInt ≤ 2147483647 := ⟨zlo _, zhi _⟩
    have hpost : (z13.toInt = zMk f3 (v0 4).toInt x1.toInt) := by first | exact zMk_y (by omega) (by omega) e_z13 | exact zMk_n (by omega) (by decide)
    have hP9 : va_P (dC, dI) vwCl [(h0, .inr (0, mX0 h1 h2 h3 h4 v0)), (h3, zi k3 120 f3)] H := hP
    have hD9 : va_D A [(h0, .inr (0, mX0 h1 h2 h3 h4 v0)), (h3, zi k3 120 f3)] := hD
    exact W.iret (v := z13) hx hb hr (fun t ht hW => ⟨⟨z13, (fun _ => 0), rfl, hpost, (fun _ => 0), (fun _ => (fun _ => 0)), (fun _ => (fun _ => 0)), by rw [ht]; exact hP9, va_K.moved hW.alike hK, hD9⟩, hS.F ht⟩) hS.2.2 dX0_markOf_18
set_option maxHeartbeats 8000000 in
set_option maxRecDepth 100000 in
theorem sX1_matchLeaves_0 (l : Launch) (dC : Nat → ClassId) (dI : Nat → Nat → Nat) (adK adV : Nat → Nat) (h0 : Nat) (h13 : Nat) (h14 : Nat) (h36 : Nat) (h48 : Nat) (h41 : Nat) (h21 : Nat) (h17 : Nat) (h15 : Nat) (h16 : Nat) (h35 : Nat) (h34 : Nat) (h19 : Nat) (h39 : Nat) (h31 : Nat) (h1 : Nat) (h4 : Nat) (h6 : Nat) (h37 : Nat) (h40 : Nat) (h42 : Nat) (h43 : Nat) (h44 : Nat) (h45 : Nat) (h46 : Nat) (h47 : Nat) (h18 : Nat) (h20 : Nat) (h22 : Nat) (h32 : Nat) (h33 : Nat) (h2 : Nat) (h3 : Nat) (h5 : Nat) (k14 : ClassId) (k36 : ClassId) (n48 : Nat) (k41 : ClassId) (k17 : ClassId) (k15 : ClassId) (k16 : ClassId) (k35 : ClassId) (k34 : ClassId) (k19 : ClassId) (k39 : ClassId) (k31 : ClassId) (k4 : ClassId) (pl0 : va_W) (sz : Nat) (v0 : Nat → Int32) (v13 : Nat → Int32) (f14 : Nat → Int32) (f36 : Nat → Option Nat) (f48 : Nat → Int32) (f41 : Nat → Int32) (v21 : Nat → Int32) (f17 : Nat → Int32) (f15 : Nat → Int32) (f16 : Nat → Int32) (f35 : Nat → Int32) (f34 : Nat → Int32) (f19 : Nat → Int32) (f39 : Nat → Int32) (f31 : Nat → Option Nat) (v1 : Nat → Int32) (f4 : Nat → Int32) (x1 : Int32) (hv0 : zR rg_Finder v0) (hv13 : zR rg_Query v13) (hf48 : zA 0 4914 f48) (hn48 : n48 ≤ 4800) (hv21 : zR rg_Page v21) (hf35 : zA 0 831 f35) (hv1 : zR rg_Documents v1) (hx1 : 0 ≤ x1.toInt ∧ x1.toInt ≤ 119) (hp0_ : zRd h22 f31 pl0) (hp1_ : zPs k41 f36 pl0) : Met l yX1_matchLeaves (zw yX1_matchLeaves cX1_matchLeaves 4 none) { frames := 5, cells := 0, slots := 0, locals := 120 } (zPc dC dI adK adV [.ref h0, .int x1] sz ([(h0, .inr (1, mX1 h1 h6 h13 h21 h36 h37 h39 h40 h41 h42 h43 h44 h45 h46 h47 h48 v0)), (h13, .inr (7, mX7 h14 h15 h16 h17 h18 h19 h20 v13)), (h14, zi k14 40 f14), (h36, .inl (k36, 40, .inr (.inr (.inr (.inr f36))))), (h48, zi k41 n48 f48), (h41, zi k41 40 f41), (h21, .inr (3, mX3 h6 h22 h13 h31 h32 h33 h34 h35 v21)), (h17, zi k17 40 f17), (h15, zi k15 40 f15), (h16, zi k16 40 f16), (h35, zi k35 300 f35), (h34, zi k34 832 f34), (h19, zi k19 160 f19), (h39, zi k39 40 f39), (h31, .inl (k31, 400, .inr (.inr (.inr (.inr f31))))), (h1, .inr (0, mX0 h2 h3 h4 h5 v1)), (h4, zi k4 120 f4)] ++ pl0) [(k14, .int), (k36, .object RX5), (k41, .int), (k41, .int), (k17, .int), (k15, .int), (k16, .int), (k35, .int), (k34, .int), (k19, .int), (k39, .boolean), (k31, .object RX8), (k4, .int)]) (va_Qv (fun (u : Nat → Int32) => True) (fun (u : Nat → Int32) (t : State) => ∃ (ww : Nat → Int64) (aa : Nat → Nat → Int32) (bb : Nat → Nat → Int64) (qq : Nat → Nat → Option Nat) (pl1 : va_W), zA 0 4914 (aa 0) ∧ (zRd h22 f31 pl1) ∧ (zPs k41 f36 pl1) ∧ (zOt pl0 pl1) ∧ (zMlv h22 k41 f36 pl0 pl1 f34 f35 f14 f15 f16 f19 f17 (v13 8).toInt (v21 9).toInt ((n48 : Nat) : Int) (v13 7).toInt (zMk f4 (v1 4).toInt x1.toInt) (aa 2) (v13 7).toInt) ∧ (zMwv f34 f35 f14 f15 f16 f19 f17 (v13 8).toInt (v21 9).toInt f36 ((n48 : Nat) : Int) (v13 7).toInt x1.toInt f48 (aa 0) f41 (aa 1) (v13 7).toInt) ∧ va_P (dC, dI) vwCl ([(h0, .inr (1, mX1 h1 h6 h13 h21 h36 h37 h39 h40 h41 h42 h43 h44 h45 h46 h47 h48 v0)), (h13, .inr (7, mX7 h14 h15 h16 h17 h18 h19 h20 v13)), (h14, zi k14 40 f14), (h36, .inl (k36, 40, .inr (.inr (.inr (.inr f36))))), (h48, zi k41 n48 (aa 0)), (h41, zi k41 40 (aa 1)), (h21, .inr (3, mX3 h6 h22 h13 h31 h32 h33 h34 h35 v21)), (h17, zi k17 40 f17), (h15, zi k15 40 f15), (h16, zi k16 40 f16), (h35, zi k35 300 f35), (h34, zi k34 832 f34), (h19, zi k19 160 f19), (h39, zi k39 40 (aa 2)), (h31, .inl (k31, 400, .inr (.inr (.inr (.inr f31))))), (h1, .inr (0, mX0 h2 h3 h4 h5 v1)), (h4, zi k4 120 f4)] ++ pl1) t.heap ∧ va_K (dC, dI) vwCl [(k14, .int), (k36, .object RX5), (k41, .int), (k41, .int), (k17, .int), (k15, .int), (k16, .int), (k35, .int), (k34, .int), (k19, .int), (k39, .boolean), (k31, .object RX8), (k4, .int)] t ∧ va_D (va_A ([(h0, .inr (1, mX1 h1 h6 h13 h21 h36 h37 h39 h40 h41 h42 h43 h44 h45 h46 h47 h48 v0)), (h13, .inr (7, mX7 h14 h15 h16 h17 h18 h19 h20 v13)), (h14, zi k14 40 f14), (h36, .inl (k36, 40, .inr (.inr (.inr (.inr f36))))), (h48, zi k41 n48 f48), (h41, zi k41 40 f41), (h21, .inr (3, mX3 h6 h22 h13 h31 h32 h33 h34 h35 v21)), (h17, zi k17 40 f17), (h15, zi k15 40 f15), (h16, zi k16 40 f16), (h35, zi k35 300 f35), (h34, zi k34 832 f34), (h19, zi k19 160 f19), (h39, zi k39 40 f39), (h31, .inl (k31, 400, .inr (.inr (.inr (.inr f31))))), (h1, .inr (0, mX0 h2 h3 h4 h5 v1)), (h4, zi k4 120 f4)] ++ pl0) sz) ([(h0, .inr (1, mX1 h1 h6 h13 h21 h36 h37 h39 h40 h41 h42 h43 h44 h45 h46 h47 h48 v0)), (h13, .inr (7, mX7 h14 h15 h16 h17 h18 h19 h20 v13)), (h14, zi k14 40 f14), (h36, .inl (k36, 40, .inr (.inr (.inr (.inr f36))))), (h48, zi k41 n48 (aa 0)), (h41, zi k41 40 (aa 1)), (h21, .inr (3, mX3 h6 h22 h13 h31 h32 h33 h34 h35 v21)), (h17, zi k17 40 f17), (h15, zi k15 40 f15), (h16, zi k16 40 f16), (h35, zi k35 300 f35), (h34, zi k34 832 f34), (h19, zi k19 160 f19), (h39, zi k39 40 (aa 2)), (h31, .inl (k31, 400, .inr (.inr (.inr (.inr f31))))), (h1, .inr (0, mX0 h2 h3 h4 h5 v1)), (h4, zi k4 120 f4)] ++ pl1)) (va_A ([(h0, .inr (1, mX1 h1 h6 h13 h21 h36 h37 h39 h40 h41 h42 h43 h44 h45 h46 h47 h48 v0)), (h13, .inr (7, mX7 h14 h15 h16 h17 h18 h19 h20 v13)), (h14, zi k14 40 f14), (h36, .inl (k36, 40, .inr (.inr (.inr (.inr f36))))), (h48, zi k41 n48 f48), (h41, zi k41 40 f41), (h21, .inr (3, mX3 h6 h22 h13 h31 h32 h33 h34 h35 v21)), (h17, zi k17 40 f17), (h15, zi k15 40 f15), (h16, zi k16 40 f16), (h35, zi k35 300 f35), (h34, zi k34 832 f34), (h19, zi k19 160 f19), (h39, zi k39 40 f39), (h31, .inl (k31, 400, .inr (.inr (.inr (.inr f31))))), (h1, .inr (0, mX0 h2 h3 h4 h5 v1)), (h4, zi k4 120 f4)] ++ pl0) sz)) 0 0 (va_A ([(h0, .inr (1, mX1 h1 h6 h13 h21 h36 h37 h39 h40 h41 h42 h43 h44 h45 h46 h47 h48 v0)), (h13, .inr (7, mX7 h14 h15 h16 h17 h18 h19 h20 v13)), (h14, zi k14 40 f14), (h36, .inl (k36, 40, .inr (.inr (.inr (.inr f36))))), (h48, zi k41 n48 f48), (h41, zi k41 40 f41), (h21, .inr (3, mX3 h6 h22 h13 h31 h32 h33 h34 h35 v21)), (h17, zi k17 40 f17), (h15, zi k15 40 f15), (h16, zi k16 40 f16), (h35, zi k35 300 f35), (h34, zi k34 832 f34), (h19, zi k19 160 f19), (h39, zi k39 40 f39), (h31, .inl (k31, 400, .inr (.inr (.inr (.inr f31))))), (h1, .inr (0, mX0 h2 h3 h4 h5 v1)), (h4, zi k4 120 f4)] ++ pl0) sz) := by
  refine Met.ofW (cc := cX1_matchLeaves) (maxL := 4) (ret := none) (by decide) rfl ?_
  intro p e s m args below meth c s₁ B hml hv
  obtain ⟨rfl, hsz, hP, hK, hD0, hE, hZ⟩ := hv
  have hx := B.exec
  have hb := B.bytes
  have hr := B.returns
  have hG : ∀ w ∈ zG, w.before _ s = true := fun w h => atoms_spec (ws := (zw yX1_matchLeaves cX1_matchLeaves 4 none)) B.pre w (List.mem_cons_of_mem _ h)
  have hown : s.vm.findClass RX1 = some m.cls := findClass_of_methodNamed B.named
  have hlocks := B.notSynchronized

  subst hsz
  have hD := hD0.self (sz := s.heap.size)
  generalize hAe : va_A ([(h0, .inr (1, mX1 h1 h6 h13 h21 h36 h37 h39 h40 h41 h42 h43 h44 h45 h46 h47 h48 v0)), (h13, .inr (7, mX7 h14 h15 h16 h17 h18 h19 h20 v13)), (h14, zi k14 40 f14), (h36, .inl (k36, 40, .inr (.inr (.inr (.inr f36))))), (h48, zi k41 n48 f48), (h41, zi k41 40 f41), (h21, .inr (3, mX3 h6 h22 h13 h31 h32 h33 h34 h35 v21)), (h17, zi k17 40 f17), (h15, zi k15 40 f15), (h16, zi k16 40 f16), (h35, zi k35 300 f35), (h34, zi k34 832 f34), (h19, zi k19 160 f19), (h39, zi k39 40 f39), (h31, .inl (k31, 400, .inr (.inr (.inr (.inr f31))))), (h1, .inr (0, mX0 h2 h3 h4 h5 v1)), (h4, zi k4 120 f4)] ++ pl0) s.heap.size = A at hD hZ ⊢
  have hA : ∀ q : Nat, s.heap.size ≤ q → A q := fun q h => by rw [← hAe]; exact Or.inr h
  have hS : va_S A s.heap s.heap [] := va_S.rf
  have hl := lv_entry ([.ref h0, .int x1]) (n := 4) (Nat.le_of_ble_eq_true rfl)
  rw [lg_entry_eq]
  generalize (lg_sl ([.ref h0, .int x1]) ++ List.replicate (4 - (lg_sl ([.ref h0, .int x1])).length) Slot.unset).toArray = ls at hl ⊢
  have hl : lv_has ls 4 [(0, .ref h0), (1, .int x1)] := hl
  have b_ := zk_0
  have b_ : 0 ≤ (v13 7).toInt ∧ (v13 7).toInt ≤ 40 := hv13 7
  refine lv_iconst (v := 0) hx hb dX1_matchLeaves_0 (by decide) ?_
  refine lv_istore_n (lv' := [(2, .int 0), (0, .ref h0), (1, .int x1)]) hx hb dX1_matchLeaves_1 rfl hl (by decide) rfl (fun ls hl => ?_)
  refine zcutL (fun u2_ => (40 - (u2_ 0).toInt).toNat) (fun H locs ls u2_ w2_ a2_ b2_ => ∃ (q2_ : Nat → Nat → Option Nat) (pl2 : va_W), va_P (dC, dI) vwCl ([(h0, .inr (1, mX1 h1 h6 h13 h21 h36 h37 h39 h40 h41 h42 h43 h44 h45 h46 h47 h48 v0)), (h13, .inr (7, mX7 h14 h15 h16 h17 h18 h19 h20 v13)), (h14, zi k14 40 f14), (h36, .inl (k36, 40, .inr (.inr (.inr (.inr f36))))), (h48, zi k41 n48 (a2_ 0)), (h41, zi k41 40 (a2_ 2)), (h21, .inr (3, mX3 h6 h22 h13 h31 h32 h33 h34 h35 v21)), (h17, zi k17 40 f17), (h15, zi k15 40 f15), (h16, zi k16 40 f16), (h35, zi k35 300 f35), (h34, zi k34 832 f34), (h19, zi k19 160 f19), (h39, zi k39 40 (a2_ 1)), (h31, .inl (k31, 400, .inr (.inr (.inr (.inr f31))))), (h1, .inr (0, mX0 h2 h3 h4 h5 v1)), (h4, zi k4 120 f4)] ++ pl2) H ∧ va_D A ([(h0, .inr (1, mX1 h1 h6 h13 h21 h36 h37 h39 h40 h41 h42 h43 h44 h45 h46 h47 h48 v0)), (h13, .inr (7, mX7 h14 h15 h16 h17 h18 h19 h20 v13)), (h14, zi k14 40 f14), (h36, .inl (k36, 40, .inr (.inr (.inr (.inr f36))))), (h48, zi k41 n48 (a2_ 0)), (h41, zi k41 40 (a2_ 2)), (h21, .inr (3, mX3 h6 h22 h13 h31 h32 h33 h34 h35 v21)), (h17, zi k17 40 f17), (h15, zi k15 40 f15), (h16, zi k16 40 f16), (h35, zi k35 300 f35), (h34, zi k34 832 f34), (h19, zi k19 160 f19), (h39, zi k39 40 (a2_ 1)), (h31, .inl (k31, 400, .inr (.inr (.inr (.inr f31))))), (h1, .inr (0, mX0 h2 h3 h4 h5 v1)), (h4, zi k4 120 f4)] ++ pl2) ∧ va_S A s.heap H locs ∧ lv_has ls 4 [(0, .ref h0), (1, .int x1), (2, .int (u2_ 0))] ∧ zA 0 4914 (a2_ 0) ∧ (0 ≤ (u2_ 0).toInt ∧ (u2_ 0).toInt ≤ 40) ∧ (zMlv h22 k41 f36 pl0 pl2 f34 f35 f14 f15 f16 f19 f17 (v13 8).toInt (v21 9).toInt ((n48 : Nat) : Int) (v13 7).toInt (zMk f4 (v1 4).toInt x1.toInt) (a2_ 1) (u2_ 0).toInt) ∧ ((u2_ 0).toInt ≤ (v13 7).toInt) ∧ (zMwv f34 f35 f14 f15 f16 f19 f17 (v13 8).toInt (v21 9).toInt f36 ((n48 : Nat) : Int) (v13 7).toInt x1.toInt f48 (a2_ 0) f41 (a2_ 2) (u2_ 0).toInt) ∧ (zRd h22 f31 pl2) ∧ (zPs k41 f36 pl2) ∧ (zOt pl0 pl2)) (fun ls u2_ w2_ => F0 m 2 ls []) 0 0 ?_ (fun hJ2 => ?_)
  · skip
    intro H locs ls u2_ w2_ a2_ b2_ hc hJ2
    obtain ⟨q2_, pl2, hP, hD, hS, hl, ha2_0, b_, hI2_0, b_, hI2_2, hI2_3, hI2_4, hI2_5⟩ := hc
    refine lv_iload_n hx hb dX1_matchLeaves_2 rfl (lv_at hl 2 rfl) ?_
    refine lv_aload_n hx hb dX1_matchLeaves_3 rfl (lv_at hl 0 rfl) ?_
    refine va_get (D := (dC, dI)) (ci := 1) (v := .ref h13) (C := RX1) (T := TX1) (N := 17) hx hb hG zuX1 hown hK hP 0 rfl rfl 2 (by decide) (hG _ zv506) (fun _ h9 => h9) rfl dX1_matchLeaves_4 ?_
    have hPc := hP.sub (ws' := [(h13, .inr (7, mX7 h14 h15 h16 h17 h18 h19 h20 v13))]) [1] rfl
    have hDc := hD.sub (ws' := [(h13, .inr (7, mX7 h14 h15 h16 h17 h18 h19 h20 v13))]) [1] (by decide) rfl
    have hKc := hK.sub (tys' := []) [] rfl
    have hFc := va_free (wc := [(h13, .inr (7, mX7 h14 h15 h16 h17 h18 h19 h20 v13))]) hD hS hA [1] rfl
    refine va_calli (va_runV (As := []) (rest := [.int (u2_ 0)]) ⟨hx, hb, hml, hown, hG⟩ (sX7_leaves_0 l dC dI adK adV h13 h14 h15 h16 h17 h18 h19 h20 H.size v13 hv13) (cwV 0 hG (zgV zv1211 zv1093 zv1094 zv136 zv1095) rfl rfl rfl (by decide +kernel) ⟨Nat.le_of_ble_eq_true rfl, Nat.le_of_ble_eq_true rfl⟩) ⟨zPc_blind, va_recv hKc hPc (ci := 7) (q0 := 0) rfl rfl, zPc_pre hPc hKc hDc hE hS hFc hZ⟩ rfl rfl hl.1 rfl (lv_room (Nat.le_of_ble_eq_true rfl)) dX1_matchLeaves_7 ⟨Nat.le_of_ble_eq_true rfl, Nat.le_of_ble_eq_true rfl⟩) hS (fun q _ h => hFc q h) hFc (fun r7_ u7_ t H1 locs ht hvm hw hB hz1 hk1 hS => ?_)
    replace hw : (0 ≤ r7_.toInt ∧ r7_.toInt ≤ 40) ∧ (r7_.toInt = (v13 7).toInt) := hw
    obtain ⟨b_, hX7_0⟩ := hw
    obtain ⟨w7_, a7_, b7_, hP1, hK1, hD1⟩ := hB
    rw [ht] at hP1
    obtain ⟨hP, hD⟩ := va_joinQ (wr := [(h0, .inr (1, mX1 h1 h6 h13 h21 h36 h37 h39 h40 h41 h42 h43 h44 h45 h46 h47 h48 v0)), (h14, zi k14 40 f14), (h36, .inl (k36, 40, .inr (.inr (.inr (.inr f36))))), (h48, zi k41 n48 (a2_ 0)), (h41, zi k41 40 (a2_ 2)), (h21, .inr (3, mX3 h6 h22 h13 h31 h32 h33 h34 h35 v21)), (h17, zi k17 40 f17), (h15, zi k15 40 f15), (h16, zi k16 40 f16), (h35, zi k35 300 f35), (h34, zi k34 832 f34), (h19, zi k19 160 f19), (h39, zi k39 40 (a2_ 1)), (h31, .inl (k31, 400, .inr (.inr (.inr (.inr f31))))), (h1, .inr (0, mX0 h2 h3 h4 h5 v1)), (h4, zi k4 120 f4)]) (w1 := [(h13, .inr (7, mX7 h14 h15 h16 h17 h18 h19 h20 v13))]) hP hD [1] [0, 2, 3, 4, 5, 6, 7, 8, 9, 10, 11, 12, 13, 14, 15, 16] rfl rfl (by decide) (by decide) hk1 hFc hP1 hD1
    have hP : va_P (dC, dI) vwCl ([(h0, .inr (1, mX1 h1 h6 h13 h21 h36 h37 h39 h40 h41 h42 h43 h44 h45 h46 h47 h48 v0)), (h13, .inr (7, mX7 h14 h15 h16 h17 h18 h19 h20 v13)), (h14, zi k14 40 f14), (h36, .inl (k36, 40, .inr (.inr (.inr (.inr f36))))), (h48, zi k41 n48 (a2_ 0)), (h41, zi k41 40 (a2_ 2)), (h21, .inr (3, mX3 h6 h22 h13 h31 h32 h33 h34 h35 v21)), (h17, zi k17 40 f17), (h15, zi k15 40 f15), (h16, zi k16 40 f16), (h35, zi k35 300 f35), (h34, zi k34 832 f34), (h19, zi k19 160 f19), (h39, zi k39 40 (a2_ 1)), (h31, .inl (k31, 400, .inr (.inr (.inr (.inr f31))))), (h1, .inr (0, mX0 h2 h3 h4 h5 v1)), (h4, zi k4 120 f4)] ++ pl2) H1 := hP.part [0, 16, 1, 2, 3, 4, 5, 6, 7, 8, 9, 10, 11, 12, 13, 14, 15] rfl
    have hD : va_D A ([(h0, .inr (1, mX1 h1 h6 h13 h21 h36 h37 h39 h40 h41 h42 h43 h44 h45 h46 h47 h48 v0)), (h13, .inr (7, mX7 h14 h15 h16 h17 h18 h19 h20 v13)), (h14, zi k14 40 f14), (h36, .inl (k36, 40, .inr (.inr (.inr (.inr f36))))), (h48, zi k41 n48 (a2_ 0)), (h41, zi k41 40 (a2_ 2)), (h21, .inr (3, mX3 h6 h22 h13 h31 h32 h33 h34 h35 v21)), (h17, zi k17 40 f17), (h15, zi k15 40 f15), (h16, zi k16 40 f16), (h35, zi k35 300 f35), (h34, zi k34 832 f34), (h19, zi k19 160 f19), (h39, zi k39 40 (a2_ 1)), (h31, .inl (k31, 400, .inr (.inr (.inr (.inr f31))))), (h1, .inr (0, mX0 h2 h3 h4 h5 v1)), (h4, zi k4 120 f4)] ++ pl2) := hD.part [0, 16, 1, 2, 3, 4, 5, 6, 7, 8, 9, 10, 11, 12, 13, 14, 15] (by decide) rfl
    generalize H1 = H at hP hS ⊢
    clear hz1
    refine lv_icmp_ge (tgt := 84) hx hb dX1_matchLeaves_10 (by decide) (fun c_ => ?_) (fun c_ => ?_)
    · skip
      have b_ := zT_ge rfl rfl c_
      refine W.widen (k := 0) (n := 0) (by decide) (by decide) ?_
      have hpost : True := trivial
      have hP9 : va_P (dC, dI) vwCl ([(h0, .inr (1, mX1 h1 h6 h13 h21 h36 h37 h39 h40 h41 h42 h43 h44 h45 h46 h47 h48 v0)), (h13, .inr (7, mX7 h14 h15 h16 h17 h18 h19 h20 v13)), (h14, zi k14 40 f14), (h36, .inl (k36, 40, .inr (.inr (.inr (.inr f36))))), (h48, zi k41 n48 (a2_ 0)), (h41, zi k41 40 (a2_ 2)), (h21, .inr (3, mX3 h6 h22 h13 h31 h32 h33 h34 h35 v21)), (h17, zi k17 40 f17), (h15, zi k15 40 f15), (h16, zi k16 40 f16), (h35, zi k35 300 f35), (h34, zi k34 832 f34), (h19, zi k19 160 f19), (h39, zi k39 40 (a2_ 1)), (h31, .inl (k31, 400, .inr (.inr (.inr (.inr f31))))), (h1, .inr (0, mX0 h2 h3 h4 h5 v1)), (h4, zi k4 120 f4)] ++ pl2) H := hP
      have hD9 : va_D A ([(h0, .inr (1, mX1 h1 h6 h13 h21 h36 h37 h39 h40 h41 h42 h43 h44 h45 h46 h47 h48 v0)), (h13, .inr (7, mX7 h14 h15 h16 h17 h18 h19 h20 v13)), (h14, zi k14 40 f14), (h36, .inl (k36, 40, .inr (.inr (.inr (.inr f36))))), (h48, zi k41 n48 (a2_ 0)), (h41, zi k41 40 (a2_ 2)), (h21, .inr (3, mX3 h6 h22 h13 h31 h32 h33 h34 h35 v21)), (h17, zi k17 40 f17), (h15, zi k15 40 f15), (h16, zi k16 40 f16), (h35, zi k35 300 f35), (h34, zi k34 832 f34), (h19, zi k19 160 f19), (h39, zi k39 40 (a2_ 1)), (h31, .inl (k31, 400, .inr (.inr (.inr (.inr f31))))), (h1, .inr (0, mX0 h2 h3 h4 h5 v1)), (h4, zi k4 120 f4)] ++ pl2) := hD
      have hB0 : zRd h22 f31 pl2 := by assumption
      have hB1 : zPs k41 f36 pl2 := by assumption
      have hB2 : zOt pl0 pl2 := by first | assumption | exact zOt_rf
      have hB3 : zMlv h22 k41 f36 pl0 pl2 f34 f35 f14 f15 f16 f19 f17 (v13 8).toInt (v21 9).toInt ((n48 : Nat) : Int) (v13 7).toInt (zMk f4 (v1 4).toInt x1.toInt) (a2_ 1) (v13 7).toInt := by exact zMlv_e hI2_0 (by omega)
      have hB4 : zMwv f34 f35 f14 f15 f16 f19 f17 (v13 8).toInt (v21 9).toInt f36 ((n48 : Nat) : Int) (v13 7).toInt x1.toInt f48 (a2_ 0) f41 (a2_ 2) (v13 7).toInt := by exact zMwv_e hI2_2 (by omega) (by omega)
      exact W.vret hx hb hr (fun t ht hW => ⟨⟨(fun _ => 0), rfl, hpost, (fun _ => 0), (fun i => ([(a2_ 0), (a2_ 2), (a2_ 1)] : List (Nat → Int32)).getD i (fun _ => 0)), (fun _ => (fun _ => 0)), (fun _ => (fun _ => none)), pl2, ha2_0, hB0, hB1, hB2, hB3, hB4, by rw [ht]; exact hP9, va_K.moved hW.alike hK, hD9⟩, hS.F ht⟩) hS.2.2 dX1_matchLeaves_84
    · skip
      have b_ := zF_ge rfl rfl c_
      refine lv_aload_n hx hb dX1_matchLeaves_13 rfl (lv_at hl 0 rfl) ?_
      refine va_get (D := (dC, dI)) (ci := 1) (v := .ref h13) (C := RX1) (T := TX1) (N := 17) hx hb hG zuX1 hown hK hP 0 rfl rfl 2 (by decide) (hG _ zv506) (fun _ h9 => h9) rfl dX1_matchLeaves_14 ?_
      refine lv_iload_n hx hb dX1_matchLeaves_17 rfl (lv_at hl 2 rfl) ?_
      have hPc := hP.sub (ws' := [(h13, .inr (7, mX7 h14 h15 h16 h17 h18 h19 h20 v13)), (h14, zi k14 40 f14)]) [1, 2] rfl
      have hDc := hD.sub (ws' := [(h13, .inr (7, mX7 h14 h15 h16 h17 h18 h19 h20 v13)), (h14, zi k14 40 f14)]) [1, 2] (by decide) rfl
      have hKc := hK.sub (tys' := [(k14, .int)]) [0] rfl
      have hFc := va_free (wc := [(h13, .inr (7, mX7 h14 h15 h16 h17 h18 h19 h20 v13)), (h14, zi k14 40 f14)]) hD hS hA [1, 2] rfl
      refine va_calli (va_runV (As := [.int (u2_ 0)]) (rest := []) ⟨hx, hb, hml, hown, hG⟩ (sX7_kindOf_0 l dC dI adK adV h13 h14 h15 h16 h17 h18 h19 h20 k14 H.size v13 f14 (u2_ 0) hv13) (cwV 1 hG (zgV zv1236 zv1185 zv1186 zv136 zv1187) rfl rfl rfl (by decide +kernel) ⟨Nat.le_of_ble_eq_true rfl, Nat.le_of_ble_eq_true rfl⟩) ⟨zPc_blind, va_recv hKc hPc (ci := 7) (q0 := 0) rfl rfl, zPc_pre hPc hKc hDc hE hS hFc hZ⟩ rfl rfl hl.1 rfl (lv_room (Nat.le_of_ble_eq_true rfl)) dX1_matchLeaves_18 ⟨Nat.le_of_ble_eq_true rfl, Nat.le_of_ble_eq_true rfl⟩) hS (fun q _ h => hFc q h) hFc (fun r18_ u18_ t H1 locs ht hvm hw hB hz1 hk1 hS => ?_)
      replace hw : (0 ≤ (u2_ 0).toInt ∧ (u2_ 0).toInt ≤ 39 → r18_.toInt = (f14 (((u2_ 0) : Int32)).toNatClampNeg).toInt) := hw
      have hX18_0 := hw
      obtain ⟨w18_, a18_, b18_, hP1, hK1, hD1⟩ := hB
      rw [ht] at hP1
      obtain ⟨hP, hD⟩ := va_joinQ (wr := [(h0, .inr (1, mX1 h1 h6 h13 h21 h36 h37 h39 h40 h41 h42 h43 h44 h45 h46 h47 h48 v0)), (h36, .inl (k36, 40, .inr (.inr (.inr (.inr f36))))), (h48, zi k41 n48 (a2_ 0)), (h41, zi k41 40 (a2_ 2)), (h21, .inr (3, mX3 h6 h22 h13 h31 h32 h33 h34 h35 v21)), (h17, zi k17 40 f17), (h15, zi k15 40 f15), (h16, zi k16 40 f16), (h35, zi k35 300 f35), (h34, zi k34 832 f34), (h19, zi k19 160 f19), (h39, zi k39 40 (a2_ 1)), (h31, .inl (k31, 400, .inr (.inr (.inr (.inr f31))))), (h1, .inr (0, mX0 h2 h3 h4 h5 v1)), (h4, zi k4 120 f4)]) (w1 := [(h13, .inr (7, mX7 h14 h15 h16 h17 h18 h19 h20 v13)), (h14, zi k14 40 f14)]) hP hD [1, 2] [0, 3, 4, 5, 6, 7, 8, 9, 10, 11, 12, 13, 14, 15, 16] rfl rfl (by decide) (by decide) hk1 hFc hP1 hD1
      have hP : va_P (dC, dI) vwCl ([(h0, .inr (1, mX1 h1 h6 h13 h21 h36 h37 h39 h40 h41 h42 h43 h44 h45 h46 h47 h48 v0)), (h13, .inr (7, mX7 h14 h15 h16 h17 h18 h19 h20 v13)), (h14, zi k14 40 f14), (h36, .inl (k36, 40, .inr (.inr (.inr (.inr f36))))), (h48, zi k41 n48 (a2_ 0)), (h41, zi k41 40 (a2_ 2)), (h21, .inr (3, mX3 h6 h22 h13 h31 h32 h33 h34 h35 v21)), (h17, zi k17 40 f17), (h15, zi k15 40 f15), (h16, zi k16 40 f16), (h35, zi k35 300 f35), (h34, zi k34 832 f34), (h19, zi k19 160 f19), (h39, zi k39 40 (a2_ 1)), (h31, .inl (k31, 400, .inr (.inr (.inr (.inr f31))))), (h1, .inr (0, mX0 h2 h3 h4 h5 v1)), (h4, zi k4 120 f4)] ++ pl2) H1 := hP.part [0, 15, 16, 1, 2, 3, 4, 5, 6, 7, 8, 9, 10, 11, 12, 13, 14] rfl
      have hD : va_D A ([(h0, .inr (1, mX1 h1 h6 h13 h21 h36 h37 h39 h40 h41 h42 h43 h44 h45 h46 h47 h48 v0)), (h13, .inr (7, mX7 h14 h15 h16 h17 h18 h19 h20 v13)), (h14, zi k14 40 f14), (h36, .inl (k36, 40, .inr (.inr (.inr (.inr f36))))), (h48, zi k41 n48 (a2_ 0)), (h41, zi k41 40 (a2_ 2)), (h21, .inr (3, mX3 h6 h22 h13 h31 h32 h33 h34 h35 v21)), (h17, zi k17 40 f17), (h15, zi k15 40 f15), (h16, zi k16 40 f16), (h35, zi k35 300 f35), (h34, zi k34 832 f34), (h19, zi k19 160 f19), (h39, zi k39 40 (a2_ 1)), (h31, .inl (k31, 400, .inr (.inr (.inr (.inr f31))))), (h1, .inr (0, mX0 h2 h3 h4 h5 v1)), (h4, zi k4 120 f4)] ++ pl2) := hD.part [0, 15, 16, 1, 2, 3, 4, 5, 6, 7, 8, 9, 10, 11, 12, 13, 14] (by decide) rfl
      generalize H1 = H at hP hS ⊢
      clear hz1
      have hkd9 := hX18_0 ⟨by omega, by omega⟩
      refine lv_iconst (v := 4) hx hb dX1_matchLeaves_21 (by decide) ?_
      have b_ : -2147483648 ≤ r18_.toInt ∧ r18_.toInt ≤ 2147483647 := ⟨zlo _, zhi _⟩
      refine lv_icmp_ne (tgt := 72) hx hb dX1_matchLeaves_22 (by decide) (fun c_ => ?_) (fun c_ => ?_)
      · skip
        have b_ := zT_ne rfl zk_4 c_
        refine lv_aload_n hx hb dX1_matchLeaves_72 rfl (lv_at hl 0 rfl) ?_
        refine lv_iload_n hx hb dX1_matchLeaves_73 rfl (lv_at hl 2 rfl) ?_
        refine lv_iload_n hx hb dX1_matchLeaves_74 rfl (lv_at hl 1 rfl) ?_
        have hPc := hP.part (cx := [(h0, .inr (1, mX1 h1 h6 h13 h21 h36 h37 h39 h40 h41 h42 h43 h44 h45 h46 h47 h48 v0)), (h36, .inl (k36, 40, .inr (.inr (.inr (.inr f36))))), (h48, zi k41 n48 (a2_ 0)), (h41, zi k41 40 (a2_ 2)), (h21, .inr (3, mX3 h6 h22 h13 h31 h32 h33 h34 h35 v21)), (h13, .inr (7, mX7 h14 h15 h16 h17 h18 h19 h20 v13)), (h17, zi k17 40 f17), (h14, zi k14 40 f14), (h15, zi k15 40 f15), (h16, zi k16 40 f16), (h35, zi k35 300 f35), (h34, zi k34 832 f34), (h19, zi k19 160 f19), (h39, zi k39 40 (a2_ 1)), (h31, .inl (k31, 400, .inr (.inr (.inr (.inr f31)))))]) [0, 3, 4, 5, 6, 1, 7, 2, 8, 9, 10, 11, 12, 13, 14] rfl
        have hDc := hD.part (cx := [(h0, .inr (1, mX1 h1 h6 h13 h21 h36 h37 h39 h40 h41 h42 h43 h44 h45 h46 h47 h48 v0)), (h36, .inl (k36, 40, .inr (.inr (.inr (.inr f36))))), (h48, zi k41 n48 (a2_ 0)), (h41, zi k41 40 (a2_ 2)), (h21, .inr (3, mX3 h6 h22 h13 h31 h32 h33 h34 h35 v21)), (h13, .inr (7, mX7 h14 h15 h16 h17 h18 h19 h20 v13)), (h17, zi k17 40 f17), (h14, zi k14 40 f14), (h15, zi k15 40 f15), (h16, zi k16 40 f16), (h35, zi k35 300 f35), (h34, zi k34 832 f34), (h19, zi k19 160 f19), (h39, zi k39 40 (a2_ 1)), (h31, .inl (k31, 400, .inr (.inr (.inr (.inr f31)))))]) [0, 3, 4, 5, 6, 1, 7, 2, 8, 9, 10, 11, 12, 13, 14] (by decide) rfl
        have hKc := hK.sub (tys' := [(k36, .object RX5), (k41, .int), (k41, .int), (k17, .int), (k14, .int), (k15, .int), (k16, .int), (k35, .int), (k34, .int), (k19, .int), (k39, .boolean), (k31, .object RX8)]) [1, 2, 3, 4, 0, 5, 6, 7, 8, 9, 10, 11] rfl
        have hFc := va_freeP (cx := [(h0, .inr (1, mX1 h1 h6 h13 h21 h36 h37 h39 h40 h41 h42 h43 h44 h45 h46 h47 h48 v0)), (h36, .inl (k36, 40, .inr (.inr (.inr (.inr f36))))), (h48, zi k41 n48 (a2_ 0)), (h41, zi k41 40 (a2_ 2)), (h21, .inr (3, mX3 h6 h22 h13 h31 h32 h33 h34 h35 v21)), (h13, .inr (7, mX7 h14 h15 h16 h17 h18 h19 h20 v13)), (h17, zi k17 40 f17), (h14, zi k14 40 f14), (h15, zi k15 40 f15), (h16, zi k16 40 f16), (h35, zi k35 300 f35), (h34, zi k34 832 f34), (h19, zi k19 160 f19), (h39, zi k39 40 (a2_ 1)), (h31, .inl (k31, 400, .inr (.inr (.inr (.inr f31)))))]) hD hS hA [0, 3, 4, 5, 6, 1, 7, 2, 8, 9, 10, 11, 12, 13, 14] rfl
        refine va_callv (va_runV (As := [.int (u2_ 0), .int x1]) (rest := []) ⟨hx, hb, hml, hown, hG⟩ (sX1_matchPlaces_0 l dC dI adK adV h0 h36 h48 h41 h21 h13 h17 h14 h15 h16 h35 h34 h19 h39 h31 h1 h6 h37 h40 h42 h43 h44 h45 h46 h47 h22 h32 h33 h18 h20 k36 n48 k41 k17 k14 k15 k16 k35 k34 k19 k39 k31 pl2 H.size v0 f36 (a2_ 0) (a2_ 2) v21 v13 f17 f14 f15 f16 f35 f34 f19 (a2_ 1) f31 (u2_ 0) x1 hv0 ha2_0 hn48 hv21 hv13 hf35 (show (0 : Int) ≤ ((u2_ 0) : Int32).toInt ∧ ((u2_ 0) : Int32).toInt ≤ (39 : Int) from (by first | with_reducible assumption | exact ⟨by omega, by omega⟩)) (show (0 : Int) ≤ (x1 : Int32).toInt ∧ (x1 : Int32).toInt ≤ (119 : Int) from (by first | with_reducible assumption | exact ⟨by omega, by omega⟩)) (show zRd h22 f31 pl2 from by first | with_reducible assumption | assumption) (show zPs k41 f36 pl2 from by first | with_reducible assumption | assumption)) (cwV 2 hG (zgV zv1243 zv1245 zv36 zv138 zv1246) rfl rfl rfl (by decide +kernel) ⟨Nat.le_of_ble_eq_true rfl, Nat.le_of_ble_eq_true rfl⟩) ⟨zPc_blind, va_recv hKc hPc (ci := 1) (q0 := 0) rfl rfl, zPc_pre hPc hKc hDc hE hS hFc hZ⟩ rfl rfl hl.1 rfl (lv_room (Nat.le_of_ble_eq_true rfl)) dX1_matchLeaves_75 ⟨Nat.le_of_ble_eq_true rfl, Nat.le_of_ble_eq_true rfl⟩) hS (fun q _ h => hFc q h) hFc (fun u75_ t H1 locs ht hvm hw hB hz1 hk1 hS => ?_)
        obtain ⟨w75_, a75_, b75_, q75_, pl75_, ha75_0, hB75_0, hB75_1, hB75_2, hB75_3, hP1, hK1, hD1⟩ := hB
        have hB75_0 : zRd h22 f31 pl75_ := hB75_0
        have hB75_1 : zPs k41 f36 pl75_ := hB75_1
        have hB75_2 : zOt pl2 pl75_ := hB75_2
        have hB75_3 : zMp h22 k41 f36 pl2 pl75_ f34 f35 f14 f15 f16 f19 f17 (v13 8).toInt (v21 9).toInt (((u2_ 0) : Int32)).toNatClampNeg (120 * (u2_ 0).toInt + x1.toInt) ((n48 : Nat) : Int) (a2_ 1) (a75_ 2) (a2_ 0) (a75_ 0) (a2_ 2) (a75_ 1) := hB75_3
        rw [ht] at hP1
        obtain ⟨hP, hD⟩ := va_joinP (wr := [(h1, .inr (0, mX0 h2 h3 h4 h5 v1)), (h4, zi k4 120 f4)]) (rx := [(h0, .inr (1, mX1 h1 h6 h13 h21 h36 h37 h39 h40 h41 h42 h43 h44 h45 h46 h47 h48 v0)), (h36, .inl (k36, 40, .inr (.inr (.inr (.inr f36))))), (h48, zi k41 n48 (a75_ 0)), (h41, zi k41 40 (a75_ 1)), (h21, .inr (3, mX3 h6 h22 h13 h31 h32 h33 h34 h35 v21)), (h13, .inr (7, mX7 h14 h15 h16 h17 h18 h19 h20 v13)), (h17, zi k17 40 f17), (h14, zi k14 40 f14), (h15, zi k15 40 f15), (h16, zi k16 40 f16), (h35, zi k35 300 f35), (h34, zi k34 832 f34), (h19, zi k19 160 f19), (h39, zi k39 40 (a75_ 2)), (h31, .inl (k31, 400, .inr (.inr (.inr (.inr f31)))))]) hP hD [0, 3, 4, 5, 6, 1, 7, 2, 8, 9, 10, 11, 12, 13, 14] [15, 16] rfl rfl (by decide) (by decide) hk1 hFc hP1 hD1
        have hP : va_P (dC, dI) vwCl ([(h0, .inr (1, mX1 h1 h6 h13 h21 h36 h37 h39 h40 h41 h42 h43 h44 h45 h46 h47 h48 v0)), (h13, .inr (7, mX7 h14 h15 h16 h17 h18 h19 h20 v13)), (h14, zi k14 40 f14), (h36, .inl (k36, 40, .inr (.inr (.inr (.inr f36))))), (h48, zi k41 n48 (a75_ 0)), (h41, zi k41 40 (a75_ 1)), (h21, .inr (3, mX3 h6 h22 h13 h31 h32 h33 h34 h35 v21)), (h17, zi k17 40 f17), (h15, zi k15 40 f15), (h16, zi k16 40 f16), (h35, zi k35 300 f35), (h34, zi k34 832 f34), (h19, zi k19 160 f19), (h39, zi k39 40 (a75_ 2)), (h31, .inl (k31, 400, .inr (.inr (.inr (.inr f31))))), (h1, .inr (0, mX0 h2 h3 h4 h5 v1)), (h4, zi k4 120 f4)] ++ pl75_) H1 := hP.part [2, 7, 9, 3, 4, 5, 6, 8, 10, 11, 12, 13, 14, 15, 16, 0, 1] rfl
        have hD : va_D A ([(h0, .inr (1, mX1 h1 h6 h13 h21 h36 h37 h39 h40 h41 h42 h43 h44 h45 h46 h47 h48 v0)), (h13, .inr (7, mX7 h14 h15 h16 h17 h18 h19 h20 v13)), (h14, zi k14 40 f14), (h36, .inl (k36, 40, .inr (.inr (.inr (.inr f36))))), (h48, zi k41 n48 (a75_ 0)), (h41, zi k41 40 (a75_ 1)), (h21, .inr (3, mX3 h6 h22 h13 h31 h32 h33 h34 h35 v21)), (h17, zi k17 40 f17), (h15, zi k15 40 f15), (h16, zi k16 40 f16), (h35, zi k35 300 f35), (h34, zi k34 832 f34), (h19, zi k19 160 f19), (h39, zi k39 40 (a75_ 2)), (h31, .inl (k31, 400, .inr (.inr (.inr (.inr f31))))), (h1, .inr (0, mX0 h2 h3 h4 h5 v1)), (h4, zi k4 120 f4)] ++ pl75_) := hD.part [2, 7, 9, 3, 4, 5, 6, 8, 10, 11, 12, 13, 14, 15, 16, 0, 1] (by decide) rfl
        generalize H1 = H at hP hS ⊢
        clear hz1
        have hot_ : zOt pl0 pl75_ := zOt_tr (show zOt pl0 pl2 from by first | assumption | exact zOt_rf) hB75_2
        obtain ⟨z78, e_z78⟩ : ∃ z : Int32, z = (u2_ 0) + Int32.ofInt 1 := ⟨_, rfl⟩
        have b_ := zadd (x := (u2_ 0)) (y := Int32.ofInt 1) rfl (show (Int32.ofInt 1).toInt = 1 from by decide) e_z78 (by omega) (by omega)
        refine lv_iinc (v := z78) (lv' := [(2, .int z78), (0, .ref h0), (1, .int x1)]) hx hb dX1_matchLeaves_78 hl (k := 2) rfl e_z78.symm (by decide) rfl (fun ls hl => ?_)
        have hml9 : zMlv h22 k41 f36 pl0 pl75_ f34 f35 f14 f15 f16 f19 f17 (v13 8).toInt (v21 9).toInt ((n48 : Nat) : Int) (v13 7).toInt (zMk f4 (v1 4).toInt x1.toInt) (a75_ 2) z78.toInt := zMlv_p hI2_0 (by omega) (by omega) (by omega) hkd9 (by omega) hB75_3 (fun q_ => by omega) (by omega)
        have hmw9 : zMwv f34 f35 f14 f15 f16 f19 f17 (v13 8).toInt (v21 9).toInt f36 ((n48 : Nat) : Int) (v13 7).toInt x1.toInt f48 (a75_ 0) f41 (a75_ 1) z78.toInt := zMwv_p hI2_2 (by omega) (by omega) hkd9 (by omega) hB75_3 (by omega) (by omega)
        refine lv_goto (tgt := 2) hx hb dX1_matchLeaves_81 (by decide) ?_
        have hc : va_P (dC, dI) vwCl ([(h0, .inr (1, mX1 h1 h6 h13 h21 h36 h37 h39 h40 h41 h42 h43 h44 h45 h46 h47 h48 v0)), (h13, .inr (7, mX7 h14 h15 h16 h17 h18 h19 h20 v13)), (h14, zi k14 40 f14), (h36, .inl (k36, 40, .inr (.inr (.inr (.inr f36))))), (h48, zi k41 n48 (a75_ 0)), (h41, zi k41 40 (a75_ 1)), (h21, .inr (3, mX3 h6 h22 h13 h31 h32 h33 h34 h35 v21)), (h17, zi k17 40 f17), (h15, zi k15 40 f15), (h16, zi k16 40 f16), (h35, zi k35 300 f35), (h34, zi k34 832 f34), (h19, zi k19 160 f19), (h39, zi k39 40 (a75_ 2)), (h31, .inl (k31, 400, .inr (.inr (.inr (.inr f31))))), (h1, .inr (0, mX0 h2 h3 h4 h5 v1)), (h4, zi k4 120 f4)] ++ pl75_) H ∧ va_D A ([(h0, .inr (1, mX1 h1 h6 h13 h21 h36 h37 h39 h40 h41 h42 h43 h44 h45 h46 h47 h48 v0)), (h13, .inr (7, mX7 h14 h15 h16 h17 h18 h19 h20 v13)), (h14, zi k14 40 f14), (h36, .inl (k36, 40, .inr (.inr (.inr (.inr f36))))), (h48, zi k41 n48 (a75_ 0)), (h41, zi k41 40 (a75_ 1)), (h21, .inr (3, mX3 h6 h22 h13 h31 h32 h33 h34 h35 v21)), (h17, zi k17 40 f17), (h15, zi k15 40 f15), (h16, zi k16 40 f16), (h35, zi k35 300 f35), (h34, zi k34 832 f34), (h19, zi k19 160 f19), (h39, zi k39 40 (a75_ 2)), (h31, .inl (k31, 400, .inr (.inr (.inr (.inr f31))))), (h1, .inr (0, mX0 h2 h3 h4 h5 v1)), (h4, zi k4 120 f4)] ++ pl75_) ∧ va_S A s.heap H locs ∧ lv_has ls 4 [(0, .ref h0), (1, .int x1), (2, .int z78)] ∧ zA 0 4914 (a75_ 0) ∧ (0 ≤ z78.toInt ∧ z78.toInt ≤ 40) ∧ (zMlv h22 k41 f36 pl0 pl75_ f34 f35 f14 f15 f16 f19 f17 (v13 8).toInt (v21 9).toInt ((n48 : Nat) : Int) (v13 7).toInt (zMk f4 (v1 4).toInt x1.toInt) (a75_ 2) z78.toInt) ∧ (z78.toInt ≤ (v13 7).toInt) ∧ (zMwv f34 f35 f14 f15 f16 f19 f17 (v13 8).toInt (v21 9).toInt f36 ((n48 : Nat) : Int) (v13 7).toInt x1.toInt f48 (a75_ 0) f41 (a75_ 1) z78.toInt) ∧ (zRd h22 f31 pl75_) ∧ (zPs k41 f36 pl75_) ∧ (zOt pl0 pl75_) := ⟨hP, hD, hS, lv_sub hl [1, 2, 0] rfl, ha75_0, (by first | with_reducible assumption | exact ⟨by omega, by omega⟩), by first | exact hml9 | exact zMlv_0 (by decide), by omega, by first | exact hmw9 | exact zMwv_0 (by decide), by assumption, by assumption, by first | assumption | exact zOt_rf⟩
        exact hJ2 H locs ls (fun i => ([z78] : List (Int32)).getD i 0) (fun _ => 0) (fun i => ([(a75_ 0), (a75_ 2), (a75_ 1)] : List (Nat → Int32)).getD i (fun _ => 0)) (fun _ => (fun _ => 0)) ⟨(fun _ => (fun _ => none)), pl75_, hc⟩ (show (40 - z78.toInt).toNat < (40 - (u2_ 0).toInt).toNat from by omega)
      · skip
        have b_ := zF_ne rfl zk_4 c_
        refine lv_aload_n hx hb dX1_matchLeaves_25 rfl (lv_at hl 0 rfl) ?_
        refine va_get (D := (dC, dI)) (ci := 1) (v := .ref h1) (C := RX1) (T := TX1) (N := 17) hx hb hG zuX1 hown hK hP 0 rfl rfl 0 (by decide) (hG _ zv504) (fun _ h9 => h9) rfl dX1_matchLeaves_26 ?_
        refine lv_iload_n hx hb dX1_matchLeaves_29 rfl (lv_at hl 1 rfl) ?_
        have hPc := hP.sub (ws' := [(h1, .inr (0, mX0 h2 h3 h4 h5 v1)), (h4, zi k4 120 f4)]) [15, 16] rfl
        have hDc := hD.sub (ws' := [(h1, .inr (0, mX0 h2 h3 h4 h5 v1)), (h4, zi k4 120 f4)]) [15, 16] (by decide) rfl
        have hKc := hK.sub (tys' := [(k4, .int)]) [12] rfl
        have hFc := va_free (wc := [(h1, .inr (0, mX0 h2 h3 h4 h5 v1)), (h4, zi k4 120 f4)]) hD hS hA [15, 16] rfl
        refine va_calli (va_runV (As := [.int x1]) (rest := []) ⟨hx, hb, hml, hown, hG⟩ (sX0_markOf_0 l dC dI adK adV h1 h4 h2 h3 h5 k4 H.size v1 f4 x1 hv1) (cwV 1 hG (zgV zv1237 zv1238 zv1239 zv132 zv1240) rfl rfl rfl (by decide +kernel) ⟨Nat.le_of_ble_eq_true rfl, Nat.le_of_ble_eq_true rfl⟩) ⟨zPc_blind, va_recv hKc hPc (ci := 0) (q0 := 0) rfl rfl, zPc_pre hPc hKc hDc hE hS hFc hZ⟩ rfl rfl hl.1 rfl (lv_room (Nat.le_of_ble_eq_true rfl)) dX1_matchLeaves_30 ⟨Nat.le_of_ble_eq_true rfl, Nat.le_of_ble_eq_true rfl⟩) hS (fun q _ h => hFc q h) hFc (fun r30_ u30_ t H1 locs ht hvm hw hB hz1 hk1 hS => ?_)
        replace hw : (r30_.toInt = zMk f4 (v1 4).toInt x1.toInt) := hw
        have hX30_0 := hw
        obtain ⟨w30_, a30_, b30_, hP1, hK1, hD1⟩ := hB
        rw [ht] at hP1
        obtain ⟨hP, hD⟩ := va_joinQ (wr := [(h0, .inr (1, mX1 h1 h6 h13 h21 h36 h37 h39 h40 h41 h42 h43 h44 h45 h46 h47 h48 v0)), (h13, .inr (7, mX7 h14 h15 h16 h17 h18 h19 h20 v13)), (h14, zi k14 40 f14), (h36, .inl (k36, 40, .inr (.inr (.inr (.inr f36))))), (h48, zi k41 n48 (a2_ 0)), (h41, zi k41 40 (a2_ 2)), (h21, .inr (3, mX3 h6 h22 h13 h31 h32 h33 h34 h35 v21)), (h17, zi k17 40 f17), (h15, zi k15 40 f15), (h16, zi k16 40 f16), (h35, zi k35 300 f35), (h34, zi k34 832 f34), (h19, zi k19 160 f19), (h39, zi k39 40 (a2_ 1)), (h31, .inl (k31, 400, .inr (.inr (.inr (.inr f31)))))]) (w1 := [(h1, .inr (0, mX0 h2 h3 h4 h5 v1)), (h4, zi k4 120 f4)]) hP hD [15, 16] [0, 1, 2, 3, 4, 5, 6, 7, 8, 9, 10, 11, 12, 13, 14] rfl rfl (by decide) (by decide) hk1 hFc hP1 hD1
        have hP : va_P (dC, dI) vwCl ([(h0, .inr (1, mX1 h1 h6 h13 h21 h36 h37 h39 h40 h41 h42 h43 h44 h45 h46 h47 h48 v0)), (h13, .inr (7, mX7 h14 h15 h16 h17 h18 h19 h20 v13)), (h14, zi k14 40 f14), (h36, .inl (k36, 40, .inr (.inr (.inr (.inr f36))))), (h48, zi k41 n48 (a2_ 0)), (h41, zi k41 40 (a2_ 2)), (h21, .inr (3, mX3 h6 h22 h13 h31 h32 h33 h34 h35 v21)), (h17, zi k17 40 f17), (h15, zi k15 40 f15), (h16, zi k16 40 f16), (h35, zi k35 300 f35), (h34, zi k34 832 f34), (h19, zi k19 160 f19), (h39, zi k39 40 (a2_ 1)), (h31, .inl (k31, 400, .inr (.inr (.inr (.inr f31))))), (h1, .inr (0, mX0 h2 h3 h4 h5 v1)), (h4, zi k4 120 f4)] ++ pl2) H1 := hP.part [0, 1, 2, 3, 4, 5, 6, 7, 8, 9, 10, 11, 12, 13, 14, 15, 16] rfl
        have hD : va_D A ([(h0, .inr (1, mX1 h1 h6 h13 h21 h36 h37 h39 h40 h41 h42 h43 h44 h45 h46 h47 h48 v0)), (h13, .inr (7, mX7 h14 h15 h16 h17 h18 h19 h20 v13)), (h14, zi k14 40 f14), (h36, .inl (k36, 40, .inr (.inr (.inr (.inr f36))))), (h48, zi k41 n48 (a2_ 0)), (h41, zi k41 40 (a2_ 2)), (h21, .inr (3, mX3 h6 h22 h13 h31 h32 h33 h34 h35 v21)), (h17, zi k17 40 f17), (h15, zi k15 40 f15), (h16, zi k16 40 f16), (h35, zi k35 300 f35), (h34, zi k34 832 f34), (h19, zi k19 160 f19), (h39, zi k39 40 (a2_ 1)), (h31, .inl (k31, 400, .inr (.inr (.inr (.inr f31))))), (h1, .inr (0, mX0 h2 h3 h4 h5 v1)), (h4, zi k4 120 f4)] ++ pl2) := hD.part [0, 1, 2, 3, 4, 5, 6, 7, 8, 9, 10, 11, 12, 13, 14, 15, 16] (by decide) rfl
        generalize H1 = H at hP hS ⊢
        clear hz1
        refine lv_istore_n (lv' := [(3, .int r30_), (0, .ref h0), (1, .int x1), (2, .int (u2_ 0))]) hx hb dX1_matchLeaves_33 rfl hl (by decide) rfl (fun ls hl => ?_)
        refine lv_aload_n hx hb dX1_matchLeaves_34 rfl (lv_at hl 1 rfl) ?_
        refine va_get (D := (dC, dI)) (ci := 1) (v := .ref h39) (C := RX1) (T := TX1) (N := 17) hx hb hG zuX1 hown hK hP 0 rfl rfl 6 (by decide) (hG _ zv510) (fun _ h9 => h9) rfl dX1_matchLeaves_35 ?_
        refine lv_iload_n hx hb dX1_matchLeaves_38 rfl (lv_at hl 3 rfl) ?_
        refine lv_iload_n hx hb dX1_matchLeaves_39 rfl (lv_at hl 0 rfl) ?_
        refine lv_aload_n hx hb dX1_matchLeaves_40 rfl (lv_at hl 1 rfl) ?_
        refine va_get (D := (dC, dI)) (ci := 1) (v := .ref h13) (C := RX1) (T := TX1) (N := 17) hx hb hG zuX1 hown hK hP 0 rfl rfl 2 (by decide) (hG _ zv506) (fun _ h9 => h9) rfl dX1_matchLeaves_41 ?_
        refine lv_iload_n hx hb dX1_matchLeaves_44 rfl (lv_at hl 3 rfl) ?_
        have hPc := hP.sub (ws' := [(h13, .inr (7, mX7 h14 h15 h16 h17 h18 h19 h20 v13)), (h15, zi k15 40 f15)]) [1, 8] rfl
        have hDc := hD.sub (ws' := [(h13, .inr (7, mX7 h14 h15 h16 h17 h18 h19 h20 v13)), (h15, zi k15 40 f15)]) [1, 8] (by decide) rfl
        have hKc := hK.sub (tys' := [(k15, .int)]) [5] rfl
        have hFc := va_free (wc := [(h13, .inr (7, mX7 h14 h15 h16 h17 h18 h19 h20 v13)), (h15, zi k15 40 f15)]) hD hS hA [1, 8] rfl
        refine va_calli (va_runV (As := [.int (u2_ 0)]) (rest := [.int r30_, .int (u2_ 0), .ref h39]) ⟨hx, hb, hml, hown, hG⟩ (sX7_lowOf_0 l dC dI adK adV h13 h15 h14 h16 h17 h18 h19 h20 k15 H.size v13 f15 (u2_ 0) hv13) (cwV 1 hG (zgV zv1241 zv1192 zv1193 zv136 zv1194) rfl rfl rfl (by decide +kernel) ⟨Nat.le_of_ble_eq_true rfl, Nat.le_of_ble_eq_true rfl⟩) ⟨zPc_blind, va_recv hKc hPc (ci := 7) (q0 := 0) rfl rfl, zPc_pre hPc hKc hDc hE hS hFc hZ⟩ rfl rfl hl.1 rfl (lv_room (Nat.le_of_ble_eq_true rfl)) dX1_matchLeaves_45 ⟨Nat.le_of_ble_eq_true rfl, Nat.le_of_ble_eq_true rfl⟩) hS (fun q _ h => hFc q h) hFc (fun r45_ u45_ t H1 locs ht hvm hw hB hz1 hk1 hS => ?_)
        replace hw : (0 ≤ (u2_ 0).toInt ∧ (u2_ 0).toInt ≤ 39 → r45_.toInt = (f15 (((u2_ 0) : Int32)).toNatClampNeg).toInt) := hw
        have hX45_0 := hw
        obtain ⟨w45_, a45_, b45_, hP1, hK1, hD1⟩ := hB
        rw [ht] at hP1
        obtain ⟨hP, hD⟩ := va_joinQ (wr := [(h0, .inr (1, mX1 h1 h6 h13 h21 h36 h37 h39 h40 h41 h42 h43 h44 h45 h46 h47 h48 v0)), (h14, zi k14 40 f14), (h36, .inl (k36, 40, .inr (.inr (.inr (.inr f36))))), (h48, zi k41 n48 (a2_ 0)), (h41, zi k41 40 (a2_ 2)), (h21, .inr (3, mX3 h6 h22 h13 h31 h32 h33 h34 h35 v21)), (h17, zi k17 40 f17), (h16, zi k16 40 f16), (h35, zi k35 300 f35), (h34, zi k34 832 f34), (h19, zi k19 160 f19), (h39, zi k39 40 (a2_ 1)), (h31, .inl (k31, 400, .inr (.inr (.inr (.inr f31))))), (h1, .inr (0, mX0 h2 h3 h4 h5 v1)), (h4, zi k4 120 f4)]) (w1 := [(h13, .inr (7, mX7 h14 h15 h16 h17 h18 h19 h20 v13)), (h15, zi k15 40 f15)]) hP hD [1, 8] [0, 2, 3, 4, 5, 6, 7, 9, 10, 11, 12, 13, 14, 15, 16] rfl rfl (by decide) (by decide) hk1 hFc hP1 hD1
        have hP : va_P (dC, dI) vwCl ([(h0, .inr (1, mX1 h1 h6 h13 h21 h36 h37 h39 h40 h41 h42 h43 h44 h45 h46 h47 h48 v0)), (h13, .inr (7, mX7 h14 h15 h16 h17 h18 h19 h20 v13)), (h14, zi k14 40 f14), (h36, .inl (k36, 40, .inr (.inr (.inr (.inr f36))))), (h48, zi k41 n48 (a2_ 0)), (h41, zi k41 40 (a2_ 2)), (h21, .inr (3, mX3 h6 h22 h13 h31 h32 h33 h34 h35 v21)), (h17, zi k17 40 f17), (h15, zi k15 40 f15), (h16, zi k16 40 f16), (h35, zi k35 300 f35), (h34, zi k34 832 f34), (h19, zi k19 160 f19), (h39, zi k39 40 (a2_ 1)), (h31, .inl (k31, 400, .inr (.inr (.inr (.inr f31))))), (h1, .inr (0, mX0 h2 h3 h4 h5 v1)), (h4, zi k4 120 f4)] ++ pl2) H1 := hP.part [0, 15, 1, 2, 3, 4, 5, 6, 16, 7, 8, 9, 10, 11, 12, 13, 14] rfl
        have hD : va_D A ([(h0, .inr (1, mX1 h1 h6 h13 h21 h36 h37 h39 h40 h41 h42 h43 h44 h45 h46 h47 h48 v0)), (h13, .inr (7, mX7 h14 h15 h16 h17 h18 h19 h20 v13)), (h14, zi k14 40 f14), (h36, .inl (k36, 40, .inr (.inr (.inr (.inr f36))))), (h48, zi k41 n48 (a2_ 0)), (h41, zi k41 40 (a2_ 2)), (h21, .inr (3, mX3 h6 h22 h13 h31 h32 h33 h34 h35 v21)), (h17, zi k17 40 f17), (h15, zi k15 40 f15), (h16, zi k16 40 f16), (h35, zi k35 300 f35), (h34, zi k34 832 f34), (h19, zi k19 160 f19), (h39, zi k39 40 (a2_ 1)), (h31, .inl (k31, 400, .inr (.inr (.inr (.inr f31))))), (h1, .inr (0, mX0 h2 h3 h4 h5 v1)), (h4, zi k4 120 f4)] ++ pl2) := hD.part [0, 15, 1, 2, 3, 4, 5, 6, 16, 7, 8, 9, 10, 11, 12, 13, 14] (by decide) rfl
        generalize H1 = H at hP hS ⊢
        clear hz1
        have hlo9 := hX45_0 ⟨by omega, by omega⟩
        have b_ : -2147483648 ≤ r30_.toInt ∧ r30_.toInt ≤ 2147483647 := ⟨zlo _, zhi _⟩
        have b_ : -2147483648 ≤ r45_.toInt ∧ r45_.toInt ≤ 2147483647 := ⟨zlo _, zhi _⟩
        refine lv_icmp_lt (tgt := 67) hx hb dX1_matchLeaves_48 (by decide) (fun c_ => ?_) (fun c_ => ?_)
        · skip
          have b_ := zT_lt rfl rfl c_
          refine lv_iconst (v := 0) hx hb dX1_matchLeaves_67 (by decide) ?_
          refine va_zast hx hb hK hP hD hS 13 10 rfl rfl (zin_lit ⟨by omega, by omega⟩) dX1_matchLeaves_68 (fun H locs hP hD hS => ?_)
          obtain ⟨f_68, e_f_68⟩ : ∃ z : Nat → Int32, z = upd (a2_ 1) ((u2_ 0) : Int32).toNatClampNeg (vp_nar .boolean 0) := ⟨_, rfl⟩
          have hP : va_P (dC, dI) vwCl ([(h0, .inr (1, mX1 h1 h6 h13 h21 h36 h37 h39 h40 h41 h42 h43 h44 h45 h46 h47 h48 v0)), (h13, .inr (7, mX7 h14 h15 h16 h17 h18 h19 h20 v13)), (h14, zi k14 40 f14), (h36, .inl (k36, 40, .inr (.inr (.inr (.inr f36))))), (h48, zi k41 n48 (a2_ 0)), (h41, zi k41 40 (a2_ 2)), (h21, .inr (3, mX3 h6 h22 h13 h31 h32 h33 h34 h35 v21)), (h17, zi k17 40 f17), (h15, zi k15 40 f15), (h16, zi k16 40 f16), (h35, zi k35 300 f35), (h34, zi k34 832 f34), (h19, zi k19 160 f19), (h39, zi k39 40 f_68), (h31, .inl (k31, 400, .inr (.inr (.inr (.inr f31))))), (h1, .inr (0, mX0 h2 h3 h4 h5 v1)), (h4, zi k4 120 f4)] ++ pl2) H := by rw [e_f_68]; exact hP
          have hD : va_D A ([(h0, .inr (1, mX1 h1 h6 h13 h21 h36 h37 h39 h40 h41 h42 h43 h44 h45 h46 h47 h48 v0)), (h13, .inr (7, mX7 h14 h15 h16 h17 h18 h19 h20 v13)), (h14, zi k14 40 f14), (h36, .inl (k36, 40, .inr (.inr (.inr (.inr f36))))), (h48, zi k41 n48 (a2_ 0)), (h41, zi k41 40 (a2_ 2)), (h21, .inr (3, mX3 h6 h22 h13 h31 h32 h33 h34 h35 v21)), (h17, zi k17 40 f17), (h15, zi k15 40 f15), (h16, zi k16 40 f16), (h35, zi k35 300 f35), (h34, zi k34 832 f34), (h19, zi k19 160 f19), (h39, zi k39 40 f_68), (h31, .inl (k31, 400, .inr (.inr (.inr (.inr f31))))), (h1, .inr (0, mX0 h2 h3 h4 h5 v1)), (h4, zi k4 120 f4)] ++ pl2) := by rw [e_f_68]; exact hD
          refine lv_goto (tgt := 78) hx hb dX1_matchLeaves_69 (by decide) ?_
          obtain ⟨z78, e_z78⟩ : ∃ z : Int32, z = (u2_ 0) + Int32.ofInt 1 := ⟨_, rfl⟩
          have b_ := zadd (x := (u2_ 0)) (y := Int32.ofInt 1) rfl (show (Int32.ofInt 1).toInt = 1 from by decide) e_z78 (by omega) (by omega)
          refine lv_iinc (v := z78) (lv' := [(2, .int z78), (3, .int r30_), (0, .ref h0), (1, .int x1)]) hx hb dX1_matchLeaves_78 hl (k := 3) rfl e_z78.symm (by decide) rfl (fun ls hl => ?_)
          have hml9 : zMlv h22 k41 f36 pl0 pl2 f34 f35 f14 f15 f16 f19 f17 (v13 8).toInt (v21 9).toInt ((n48 : Nat) : Int) (v13 7).toInt (zMk f4 (v1 4).toInt x1.toInt) f_68 z78.toInt := zMlv_m hI2_0 (by omega) hkd9 (by omega) hlo9 (Or.inr ⟨by decide, by omega⟩) e_f_68 (by omega)
          have hmw9 : zMwv f34 f35 f14 f15 f16 f19 f17 (v13 8).toInt (v21 9).toInt f36 ((n48 : Nat) : Int) (v13 7).toInt x1.toInt f48 (a2_ 0) f41 (a2_ 2) z78.toInt := zMwv_m hI2_2 (by omega) hkd9 (by omega) (by omega)
          refine lv_goto (tgt := 2) hx hb dX1_matchLeaves_81 (by decide) ?_
          have hc : va_P (dC, dI) vwCl ([(h0, .inr (1, mX1 h1 h6 h13 h21 h36 h37 h39 h40 h41 h42 h43 h44 h45 h46 h47 h48 v0)), (h13, .inr (7, mX7 h14 h15 h16 h17 h18 h19 h20 v13)), (h14, zi k14 40 f14), (h36, .inl (k36, 40, .inr (.inr (.inr (.inr f36))))), (h48, zi k41 n48 (a2_ 0)), (h41, zi k41 40 (a2_ 2)), (h21, .inr (3, mX3 h6 h22 h13 h31 h32 h33 h34 h35 v21)), (h17, zi k17 40 f17), (h15, zi k15 40 f15), (h16, zi k16 40 f16), (h35, zi k35 300 f35), (h34, zi k34 832 f34), (h19, zi k19 160 f19), (h39, zi k39 40 f_68), (h31, .inl (k31, 400, .inr (.inr (.inr (.inr f31))))), (h1, .inr (0, mX0 h2 h3 h4 h5 v1)), (h4, zi k4 120 f4)] ++ pl2) H ∧ va_D A ([(h0, .inr (1, mX1 h1 h6 h13 h21 h36 h37 h39 h40 h41 h42 h43 h44 h45 h46 h47 h48 v0)), (h13, .inr (7, mX7 h14 h15 h16 h17 h18 h19 h20 v13)), (h14, zi k14 40 f14), (h36, .inl (k36, 40, .inr (.inr (.inr (.inr f36))))), (h48, zi k41 n48 (a2_ 0)), (h41, zi k41 40 (a2_ 2)), (h21, .inr (3, mX3 h6 h22 h13 h31 h32 h33 h34 h35 v21)), (h17, zi k17 40 f17), (h15, zi k15 40 f15), (h16, zi k16 40 f16), (h35, zi k35 300 f35), (h34, zi k34 832 f34), (h19, zi k19 160 f19), (h39, zi k39 40 f_68), (h31, .inl (k31, 400, .inr (.inr (.inr (.inr f31))))), (h1, .inr (0, mX0 h2 h3 h4 h5 v1)), (h4, zi k4 120 f4)] ++ pl2) ∧ va_S A s.heap H locs ∧ lv_has ls 4 [(0, .ref h0), (1, .int x1), (2, .int z78)] ∧ zA 0 4914 (a2_ 0) ∧ (0 ≤ z78.toInt ∧ z78.toInt ≤ 40) ∧ (zMlv h22 k41 f36 pl0 pl2 f34 f35 f14 f15 f16 f19 f17 (v13 8).toInt (v21 9).toInt ((n48 : Nat) : Int) (v13 7).toInt (zMk f4 (v1 4).toInt x1.toInt) f_68 z78.toInt) ∧ (z78.toInt ≤ (v13 7).toInt) ∧ (zMwv f34 f35 f14 f15 f16 f19 f17 (v13 8).toInt (v21 9).toInt f36 ((n48 : Nat) : Int) (v13 7).toInt x1.toInt f48 (a2_ 0) f41 (a2_ 2) z78.toInt) ∧ (zRd h22 f31 pl2) ∧ (zPs k41 f36 pl2) ∧ (zOt pl0 pl2) := ⟨hP, hD, hS, lv_sub hl [2, 3, 0] rfl, ha2_0, (by first | with_reducible assumption | exact ⟨by omega, by omega⟩), by first | exact hml9 | exact zMlv_0 (by decide), by omega, by first | exact hmw9 | exact zMwv_0 (by decide), by assumption, by assumption, by first | assumption | exact zOt_rf⟩
          exact hJ2 H locs ls (fun i => ([z78] : List (Int32)).getD i 0) (fun _ => 0) (fun i => ([(a2_ 0), f_68, (a2_ 2)] : List (Nat → Int32)).getD i (fun _ => 0)) (fun _ => (fun _ => 0)) ⟨(fun _ => (fun _ => none)), pl2, hc⟩ (show (40 - z78.toInt).toNat < (40 - (u2_ 0).toInt).toNat from by omega)
        · skip
          have b_ := zF_lt rfl rfl c_
          refine lv_iload_n hx hb dX1_matchLeaves_51 rfl (lv_at hl 0 rfl) ?_
          refine lv_aload_n hx hb dX1_matchLeaves_52 rfl (lv_at hl 1 rfl) ?_
          refine va_get (D := (dC, dI)) (ci := 1) (v := .ref h13) (C := RX1) (T := TX1) (N := 17) hx hb hG zuX1 hown hK hP 0 rfl rfl 2 (by decide) (hG _ zv506) (fun _ h9 => h9) rfl dX1_matchLeaves_53 ?_
          refine lv_iload_n hx hb dX1_matchLeaves_56 rfl (lv_at hl 3 rfl) ?_
          have hPc := hP.sub (ws' := [(h13, .inr (7, mX7 h14 h15 h16 h17 h18 h19 h20 v13)), (h16, zi k16 40 f16)]) [1, 9] rfl
          have hDc := hD.sub (ws' := [(h13, .inr (7, mX7 h14 h15 h16 h17 h18 h19 h20 v13)), (h16, zi k16 40 f16)]) [1, 9] (by decide) rfl
          have hKc := hK.sub (tys' := [(k16, .int)]) [6] rfl
          have hFc := va_free (wc := [(h13, .inr (7, mX7 h14 h15 h16 h17 h18 h19 h20 v13)), (h16, zi k16 40 f16)]) hD hS hA [1, 9] rfl
          refine va_calli (va_runV (As := [.int (u2_ 0)]) (rest := [.int r30_, .int (u2_ 0), .ref h39]) ⟨hx, hb, hml, hown, hG⟩ (sX7_highOf_0 l dC dI adK adV h13 h16 h14 h15 h17 h18 h19 h20 k16 H.size v13 f16 (u2_ 0) hv13) (cwV 1 hG (zgV zv1242 zv1196 zv1197 zv136 zv1198) rfl rfl rfl (by decide +kernel) ⟨Nat.le_of_ble_eq_true rfl, Nat.le_of_ble_eq_true rfl⟩) ⟨zPc_blind, va_recv hKc hPc (ci := 7) (q0 := 0) rfl rfl, zPc_pre hPc hKc hDc hE hS hFc hZ⟩ rfl rfl hl.1 rfl (lv_room (Nat.le_of_ble_eq_true rfl)) dX1_matchLeaves_57 ⟨Nat.le_of_ble_eq_true rfl, Nat.le_of_ble_eq_true rfl⟩) hS (fun q _ h => hFc q h) hFc (fun r57_ u57_ t H1 locs ht hvm hw hB hz1 hk1 hS => ?_)
          replace hw : (0 ≤ (u2_ 0).toInt ∧ (u2_ 0).toInt ≤ 39 → r57_.toInt = (f16 (((u2_ 0) : Int32)).toNatClampNeg).toInt) := hw
          have hX57_0 := hw
          obtain ⟨w57_, a57_, b57_, hP1, hK1, hD1⟩ := hB
          rw [ht] at hP1
          obtain ⟨hP, hD⟩ := va_joinQ (wr := [(h0, .inr (1, mX1 h1 h6 h13 h21 h36 h37 h39 h40 h41 h42 h43 h44 h45 h46 h47 h48 v0)), (h14, zi k14 40 f14), (h36, .inl (k36, 40, .inr (.inr (.inr (.inr f36))))), (h48, zi k41 n48 (a2_ 0)), (h41, zi k41 40 (a2_ 2)), (h21, .inr (3, mX3 h6 h22 h13 h31 h32 h33 h34 h35 v21)), (h17, zi k17 40 f17), (h15, zi k15 40 f15), (h35, zi k35 300 f35), (h34, zi k34 832 f34), (h19, zi k19 160 f19), (h39, zi k39 40 (a2_ 1)), (h31, .inl (k31, 400, .inr (.inr (.inr (.inr f31))))), (h1, .inr (0, mX0 h2 h3 h4 h5 v1)), (h4, zi k4 120 f4)]) (w1 := [(h13, .inr (7, mX7 h14 h15 h16 h17 h18 h19 h20 v13)), (h16, zi k16 40 f16)]) hP hD [1, 9] [0, 2, 3, 4, 5, 6, 7, 8, 10, 11, 12, 13, 14, 15, 16] rfl rfl (by decide) (by decide) hk1 hFc hP1 hD1
          have hP : va_P (dC, dI) vwCl ([(h0, .inr (1, mX1 h1 h6 h13 h21 h36 h37 h39 h40 h41 h42 h43 h44 h45 h46 h47 h48 v0)), (h13, .inr (7, mX7 h14 h15 h16 h17 h18 h19 h20 v13)), (h14, zi k14 40 f14), (h36, .inl (k36, 40, .inr (.inr (.inr (.inr f36))))), (h48, zi k41 n48 (a2_ 0)), (h41, zi k41 40 (a2_ 2)), (h21, .inr (3, mX3 h6 h22 h13 h31 h32 h33 h34 h35 v21)), (h17, zi k17 40 f17), (h15, zi k15 40 f15), (h16, zi k16 40 f16), (h35, zi k35 300 f35), (h34, zi k34 832 f34), (h19, zi k19 160 f19), (h39, zi k39 40 (a2_ 1)), (h31, .inl (k31, 400, .inr (.inr (.inr (.inr f31))))), (h1, .inr (0, mX0 h2 h3 h4 h5 v1)), (h4, zi k4 120 f4)] ++ pl2) H1 := hP.part [0, 15, 1, 2, 3, 4, 5, 6, 7, 16, 8, 9, 10, 11, 12, 13, 14] rfl
          have hD : va_D A ([(h0, .inr (1, mX1 h1 h6 h13 h21 h36 h37 h39 h40 h41 h42 h43 h44 h45 h46 h47 h48 v0)), (h13, .inr (7, mX7 h14 h15 h16 h17 h18 h19 h20 v13)), (h14, zi k14 40 f14), (h36, .inl (k36, 40, .inr (.inr (.inr (.inr f36))))), (h48, zi k41 n48 (a2_ 0)), (h41, zi k41 40 (a2_ 2)), (h21, .inr (3, mX3 h6 h22 h13 h31 h32 h33 h34 h35 v21)), (h17, zi k17 40 f17), (h15, zi k15 40 f15), (h16, zi k16 40 f16), (h35, zi k35 300 f35), (h34, zi k34 832 f34), (h19, zi k19 160 f19), (h39, zi k39 40 (a2_ 1)), (h31, .inl (k31, 400, .inr (.inr (.inr (.inr f31))))), (h1, .inr (0, mX0 h2 h3 h4 h5 v1)), (h4, zi k4 120 f4)] ++ pl2) := hD.part [0, 15, 1, 2, 3, 4, 5, 6, 7, 16, 8, 9, 10, 11, 12, 13, 14] (by decide) rfl
          generalize H1 = H at hP hS ⊢
          clear hz1
          have hhi9 := hX57_0 ⟨by omega, by omega⟩
          have b_ : -2147483648 ≤ r57_.toInt ∧ r57_.toInt ≤ 2147483647 := ⟨zlo _, zhi _⟩
          refine lv_icmp_gt (tgt := 67) hx hb dX1_matchLeaves_60 (by decide) (fun c_ => ?_) (fun c_ => ?_)
          · skip
            have b_ := zT_gt rfl rfl c_
            refine lv_iconst (v := 0) hx hb dX1_matchLeaves_67 (by decide) ?_
            refine va_zast hx hb hK hP hD hS 13 10 rfl rfl (zin_lit ⟨by omega, by omega⟩) dX1_matchLeaves_68 (fun H locs hP hD hS => ?_)
            obtain ⟨f_68, e_f_68⟩ : ∃ z : Nat → Int32, z = upd (a2_ 1) ((u2_ 0) : Int32).toNatClampNeg (vp_nar .boolean 0) := ⟨_, rfl⟩
            have hP : va_P (dC, dI) vwCl ([(h0, .inr (1, mX1 h1 h6 h13 h21 h36 h37 h39 h40 h41 h42 h43 h44 h45 h46 h47 h48 v0)), (h13, .inr (7, mX7 h14 h15 h16 h17 h18 h19 h20 v13)), (h14, zi k14 40 f14), (h36, .inl (k36, 40, .inr (.inr (.inr (.inr f36))))), (h48, zi k41 n48 (a2_ 0)), (h41, zi k41 40 (a2_ 2)), (h21, .inr (3, mX3 h6 h22 h13 h31 h32 h33 h34 h35 v21)), (h17, zi k17 40 f17), (h15, zi k15 40 f15), (h16, zi k16 40 f16), (h35, zi k35 300 f35), (h34, zi k34 832 f34), (h19, zi k19 160 f19), (h39, zi k39 40 f_68), (h31, .inl (k31, 400, .inr (.inr (.inr (.inr f31))))), (h1, .inr (0, mX0 h2 h3 h4 h5 v1)), (h4, zi k4 120 f4)] ++ pl2) H := by rw [e_f_68]; exact hP
            have hD : va_D A ([(h0, .inr (1, mX1 h1 h6 h13 h21 h36 h37 h39 h40 h41 h42 h43 h44 h45 h46 h47 h48 v0)), (h13, .inr (7, mX7 h14 h15 h16 h17 h18 h19 h20 v13)), (h14, zi k14 40 f14), (h36, .inl (k36, 40, .inr (.inr (.inr (.inr f36))))), (h48, zi k41 n48 (a2_ 0)), (h41, zi k41 40 (a2_ 2)), (h21, .inr (3, mX3 h6 h22 h13 h31 h32 h33 h34 h35 v21)), (h17, zi k17 40 f17), (h15, zi k15 40 f15), (h16, zi k16 40 f16), (h35, zi k35 300 f35), (h34, zi k34 832 f34), (h19, zi k19 160 f19), (h39, zi k39 40 f_68), (h31, .inl (k31, 400, .inr (.inr (.inr (.inr f31))))), (h1, .inr (0, mX0 h2 h3 h4 h5 v1)), (h4, zi k4 120 f4)] ++ pl2) := by rw [e_f_68]; exact hD
            refine lv_goto (tgt := 78) hx hb dX1_matchLeaves_69 (by decide) ?_
            obtain ⟨z78, e_z78⟩ : ∃ z : Int32, z = (u2_ 0) + Int32.ofInt 1 := ⟨_, rfl⟩
            have b_ := zadd (x := (u2_ 0)) (y := Int32.ofInt 1) rfl (show (Int32.ofInt 1).toInt = 1 from by decide) e_z78 (by omega) (by omega)
            refine lv_iinc (v := z78) (lv' := [(2, .int z78), (3, .int r30_), (0, .ref h0), (1, .int x1)]) hx hb dX1_matchLeaves_78 hl (k := 3) rfl e_z78.symm (by decide) rfl (fun ls hl => ?_)
            have hml9 : zMlv h22 k41 f36 pl0 pl2 f34 f35 f14 f15 f16 f19 f17 (v13 8).toInt (v21 9).toInt ((n48 : Nat) : Int) (v13 7).toInt (zMk f4 (v1 4).toInt x1.toInt) f_68 z78.toInt := zMlv_m hI2_0 (by omega) hkd9 (by omega) hlo9 (Or.inr ⟨by decide, by omega⟩) e_f_68 (by omega)
            have hmw9 : zMwv f34 f35 f14 f15 f16 f19 f17 (v13 8).toInt (v21 9).toInt f36 ((n48 : Nat) : Int) (v13 7).toInt x1.toInt f48 (a2_ 0) f41 (a2_ 2) z78.toInt := zMwv_m hI2_2 (by omega) hkd9 (by omega) (by omega)
            refine lv_goto (tgt := 2) hx hb dX1_matchLeaves_81 (by decide) ?_
            have hc : va_P (dC, dI) vwCl ([(h0, .inr (1, mX1 h1 h6 h13 h21 h36 h37 h39 h40 h41 h42 h43 h44 h45 h46 h47 h48 v0)), (h13, .inr (7, mX7 h14 h15 h16 h17 h18 h19 h20 v13)), (h14, zi k14 40 f14), (h36, .inl (k36, 40, .inr (.inr (.inr (.inr f36))))), (h48, zi k41 n48 (a2_ 0)), (h41, zi k41 40 (a2_ 2)), (h21, .inr (3, mX3 h6 h22 h13 h31 h32 h33 h34 h35 v21)), (h17, zi k17 40 f17), (h15, zi k15 40 f15), (h16, zi k16 40 f16), (h35, zi k35 300 f35), (h34, zi k34 832 f34), (h19, zi k19 160 f19), (h39, zi k39 40 f_68), (h31, .inl (k31, 400, .inr (.inr (.inr (.inr f31))))), (h1, .inr (0, mX0 h2 h3 h4 h5 v1)), (h4, zi k4 120 f4)] ++ pl2) H ∧ va_D A ([(h0, .inr (1, mX1 h1 h6 h13 h21 h36 h37 h39 h40 h41 h42 h43 h44 h45 h46 h47 h48 v0)), (h13, .inr (7, mX7 h14 h15 h16 h17 h18 h19 h20 v13)), (h14, zi k14 40 f14), (h36, .inl (k36, 40, .inr (.inr (.inr (.inr f36))))), (h48, zi k41 n48 (a2_ 0)), (h41, zi k41 40 (a2_ 2)), (h21, .inr (3, mX3 h6 h22 h13 h31 h32 h33 h34 h35 v21)), (h17, zi k17 40 f17), (h15, zi k15 40 f15), (h16, zi k16 40 f16), (h35, zi k35 300 f35), (h34, zi k34 832 f34), (h19, zi k19 160 f19), (h39, zi k39 40 f_68), (h31, .inl (k31, 400, .inr (.inr (.inr (.inr f31))))), (h1, .inr (0, mX0 h2 h3 h4 h5 v1)), (h4, zi k4 120 f4)] ++ pl2) ∧ va_S A s.heap H locs ∧ lv_has ls 4 [(0, .ref h0), (1, .int x1), (2, .int z78)] ∧ zA 0 4914 (a2_ 0) ∧ (0 ≤ z78.toInt ∧ z78.toInt ≤ 40) ∧ (zMlv h22 k41 f36 pl0 pl2 f34 f35 f14 f15 f16 f19 f17 (v13 8).toInt (v21 9).toInt ((n48 : Nat) : Int) (v13 7).toInt (zMk f4 (v1 4).toInt x1.toInt) f_68 z78.toInt) ∧ (z78.toInt ≤ (v13 7).toInt) ∧ (zMwv f34 f35 f14 f15 f16 f19 f17 (v13 8).toInt (v21 9).toInt f36 ((n48 : Nat) : Int) (v13 7).toInt x1.toInt f48 (a2_ 0) f41 (a2_ 2) z78.toInt) ∧ (zRd h22 f31 pl2) ∧ (zPs k41 f36 pl2) ∧ (zOt pl0 pl2) := ⟨hP, hD, hS, lv_sub hl [2, 3, 0] rfl, ha2_0, (by first | with_reducible assumption | exact ⟨by omega, by omega⟩), by first | exact hml9 | exact zMlv_0 (by decide), by omega, by first | exact hmw9 | exact zMwv_0 (by decide), by assumption, by assumption, by first | assumption | exact zOt_rf⟩
            exact hJ2 H locs ls (fun i => ([z78] : List (Int32)).getD i 0) (fun _ => 0) (fun i => ([(a2_ 0), f_68, (a2_ 2)] : List (Nat → Int32)).getD i (fun _ => 0)) (fun _ => (fun _ => 0)) ⟨(fun _ => (fun _ => none)), pl2, hc⟩ (show (40 - z78.toInt).toNat < (40 - (u2_ 0).toInt).toNat from by omega)
          · skip
            have b_ := zF_gt rfl rfl c_
            refine lv_iconst (v := 1) hx hb dX1_matchLeaves_63 (by decide) ?_
            refine lv_goto (tgt := 68) hx hb dX1_matchLeaves_64 (by decide) ?_
            refine va_zast hx hb hK hP hD hS 13 10 rfl rfl (zin_lit ⟨by omega, by omega⟩) dX1_matchLeaves_68 (fun H locs hP hD hS => ?_)
            obtain ⟨f_68, e_f_68⟩ : ∃ z : Nat → Int32, z = upd (a2_ 1) ((u2_ 0) : Int32).toNatClampNeg (vp_nar .boolean 1) := ⟨_, rfl⟩
            have hP : va_P (dC, dI) vwCl ([(h0, .inr (1, mX1 h1 h6 h13 h21 h36 h37 h39 h40 h41 h42 h43 h44 h45 h46 h47 h48 v0)), (h13, .inr (7, mX7 h14 h15 h16 h17 h18 h19 h20 v13)), (h14, zi k14 40 f14), (h36, .inl (k36, 40, .inr (.inr (.inr (.inr f36))))), (h48, zi k41 n48 (a2_ 0)), (h41, zi k41 40 (a2_ 2)), (h21, .inr (3, mX3 h6 h22 h13 h31 h32 h33 h34 h35 v21)), (h17, zi k17 40 f17), (h15, zi k15 40 f15), (h16, zi k16 40 f16), (h35, zi k35 300 f35), (h34, zi k34 832 f34), (h19, zi k19 160 f19), (h39, zi k39 40 f_68), (h31, .inl (k31, 400, .inr (.inr (.inr (.inr f31))))), (h1, .inr (0, mX0 h2 h3 h4 h5 v1)), (h4, zi k4 120 f4)] ++ pl2) H := by rw [e_f_68]; exact hP
            have hD : va_D A ([(h0, .inr (1, mX1 h1 h6 h13 h21 h36 h37 h39 h40 h41 h42 h43 h44 h45 h46 h47 h48 v0)), (h13, .inr (7, mX7 h14 h15 h16 h17 h18 h19 h20 v13)), (h14, zi k14 40 f14), (h36, .inl (k36, 40, .inr (.inr (.inr (.inr f36))))), (h48, zi k41 n48 (a2_ 0)), (h41, zi k41 40 (a2_ 2)), (h21, .inr (3, mX3 h6 h22 h13 h31 h32 h33 h34 h35 v21)), (h17, zi k17 40 f17), (h15, zi k15 40 f15), (h16, zi k16 40 f16), (h35, zi k35 300 f35), (h34, zi k34 832 f34), (h19, zi k19 160 f19), (h39, zi k39 40 f_68), (h31, .inl (k31, 400, .inr (.inr (.inr (.inr f31))))), (h1, .inr (0, mX0 h2 h3 h4 h5 v1)), (h4, zi k4 120 f4)] ++ pl2) := by rw [e_f_68]; exact hD
            refine lv_goto (tgt := 78) hx hb dX1_matchLeaves_69 (by decide) ?_
            obtain ⟨z78, e_z78⟩ : ∃ z : Int32, z = (u2_ 0) + Int32.ofInt 1 := ⟨_, rfl⟩
            have b_ := zadd (x := (u2_ 0)) (y := Int32.ofInt 1) rfl (show (Int32.ofInt 1).toInt = 1 from by decide) e_z78 (by omega) (by omega)
            refine lv_iinc (v := z78) (lv' := [(2, .int z78), (3, .int r30_), (0, .ref h0), (1, .int x1)]) hx hb dX1_matchLeaves_78 hl (k := 3) rfl e_z78.symm (by decide) rfl (fun ls hl => ?_)
            have hml9 : zMlv h22 k41 f36 pl0 pl2 f34 f35 f14 f15 f16 f19 f17 (v13 8).toInt (v21 9).toInt ((n48 : Nat) : Int) (v13 7).toInt (zMk f4 (v1 4).toInt x1.toInt) f_68 z78.toInt := zMlv_m hI2_0 (by omega) hkd9 (by omega) hlo9 (Or.inl ⟨by decide, by omega, by omega⟩) e_f_68 (by omega)
            have hmw9 : zMwv f34 f35 f14 f15 f16 f19 f17 (v13 8).toInt (v21 9).toInt f36 ((n48 : Nat) : Int) (v13 7).toInt x1.toInt f48 (a2_ 0) f41 (a2_ 2) z78.toInt := zMwv_m hI2_2 (by omega) hkd9 (by omega) (by omega)
            refine lv_goto (tgt := 2) hx hb dX1_matchLeaves_81 (by decide) ?_
            have hc : va_P (dC, dI) vwCl ([(h0, .inr (1, mX1 h1 h6 h13 h21 h36 h37 h39 h40 h41 h42 h43 h44 h45 h46 h47 h48 v0)), (h13, .inr (7, mX7 h14 h15 h16 h17 h18 h19 h20 v13)), (h14, zi k14 40 f14), (h36, .inl (k36, 40, .inr (.inr (.inr (.inr f36))))), (h48, zi k41 n48 (a2_ 0)), (h41, zi k41 40 (a2_ 2)), (h21, .inr (3, mX3 h6 h22 h13 h31 h32 h33 h34 h35 v21)), (h17, zi k17 40 f17), (h15, zi k15 40 f15), (h16, zi k16 40 f16), (h35, zi k35 300 f35), (h34, zi k34 832 f34), (h19, zi k19 160 f19), (h39, zi k39 40 f_68), (h31, .inl (k31, 400, .inr (.inr (.inr (.inr f31))))), (h1, .inr (0, mX0 h2 h3 h4 h5 v1)), (h4, zi k4 120 f4)] ++ pl2) H ∧ va_D A ([(h0, .inr (1, mX1 h1 h6 h13 h21 h36 h37 h39 h40 h41 h42 h43 h44 h45 h46 h47 h48 v0)), (h13, .inr (7, mX7 h14 h15 h16 h17 h18 h19 h20 v13)), (h14, zi k14 40 f14), (h36, .inl (k36, 40, .inr (.inr (.inr (.inr f36))))), (h48, zi k41 n48 (a2_ 0)), (h41, zi k41 40 (a2_ 2)), (h21, .inr (3, mX3 h6 h22 h13 h31 h32 h33 h34 h35 v21)), (h17, zi k17 40 f17), (h15, zi k15 40 f15), (h16, zi k16 40 f16), (h35, zi k35 300 f35), (h34, zi k34 832 f34), (h19, zi k19 160 f19), (h39, zi k39 40 f_68), (h31, .inl (k31, 400, .inr (.inr (.inr (.inr f31))))), (h1, .inr (0, mX0 h2 h3 h4 h5 v1)), (h4, zi k4 120 f4)] ++ pl2) ∧ va_S A s.heap H locs ∧ lv_has ls 4 [(0, .ref h0), (1, .int x1), (2, .int z78)] ∧ zA 0 4914 (a2_ 0) ∧ (0 ≤ z78.toInt ∧ z78.toInt ≤ 40) ∧ (zMlv h22 k41 f36 pl0 pl2 f34 f35 f14 f15 f16 f19 f17 (v13 8).toInt (v21 9).toInt ((n48 : Nat) : Int) (v13 7).toInt (zMk f4 (v1 4).toInt x1.toInt) f_68 z78.toInt) ∧ (z78.toInt ≤ (v13 7).toInt) ∧ (zMwv f34 f35 f14 f15 f16 f19 f17 (v13 8).toInt (v21 9).toInt f36 ((n48 : Nat) : Int) (v13 7).toInt x1.toInt f48 (a2_ 0) f41 (a2_ 2) z78.toInt) ∧ (zRd h22 f31 pl2) ∧ (zPs k41 f36 pl2) ∧ (zOt pl0 pl2) := ⟨hP, hD, hS, lv_sub hl [2, 3, 0] rfl, ha2_0, (by first | with_reducible assumption | exact ⟨by omega, by omega⟩), by first | exact hml9 | exact zMlv_0 (by decide), by omega, by first | exact hmw9 | exact zMwv_0 (by decide), by assumption, by assumption, by first | assumption | exact zOt_rf⟩
            exact hJ2 H locs ls (fun i => ([z78] : List (Int32)).getD i 0) (fun _ => 0) (fun i => ([(a2_ 0), f_68, (a2_ 2)] : List (Nat → Int32)).getD i (fun _ => 0)) (fun _ => (fun _ => 0)) ⟨(fun _ => (fun _ => none)), pl2, hc⟩ (show (40 - z78.toInt).toNat < (40 - (u2_ 0).toInt).toNat from by omega)
  · skip
    have hc : va_P (dC, dI) vwCl ([(h0, .inr (1, mX1 h1 h6 h13 h21 h36 h37 h39 h40 h41 h42 h43 h44 h45 h46 h47 h48 v0)), (h13, .inr (7, mX7 h14 h15 h16 h17 h18 h19 h20 v13)), (h14, zi k14 40 f14), (h36, .inl (k36, 40, .inr (.inr (.inr (.inr f36))))), (h48, zi k41 n48 f48), (h41, zi k41 40 f41), (h21, .inr (3, mX3 h6 h22 h13 h31 h32 h33 h34 h35 v21)), (h17, zi k17 40 f17), (h15, zi k15 40 f15), (h16, zi k16 40 f16), (h35, zi k35 300 f35), (h34, zi k34 832 f34), (h19, zi k19 160 f19), (h39, zi k39 40 f39), (h31, .inl (k31, 400, .inr (.inr (.inr (.inr f31))))), (h1, .inr (0, mX0 h2 h3 h4 h5 v1)), (h4, zi k4 120 f4)] ++ pl0) s.heap ∧ va_D A ([(h0, .inr (1, mX1 h1 h6 h13 h21 h36 h37 h39 h40 h41 h42 h43 h44 h45 h46 h47 h48 v0)), (h13, .inr (7, mX7 h14 h15 h16 h17 h18 h19 h20 v13)), (h14, zi k14 40 f14), (h36, .inl (k36, 40, .inr (.inr (.inr (.inr f36))))), (h48, zi k41 n48 f48), (h41, zi k41 40 f41), (h21, .inr (3, mX3 h6 h22 h13 h31 h32 h33 h34 h35 v21)), (h17, zi k17 40 f17), (h15, zi k15 40 f15), (h16, zi k16 40 f16), (h35, zi k35 300 f35), (h34, zi k34 832 f34), (h19, zi k19 160 f19), (h39, zi k39 40 f39), (h31, .inl (k31, 400, .inr (.inr (.inr (.inr f31))))), (h1, .inr (0, mX0 h2 h3 h4 h5 v1)), (h4, zi k4 120 f4)] ++ pl0) ∧ va_S A s.heap s.heap [] ∧ lv_has ls 4 [(0, .ref h0), (1, .int x1), (2, .int 0)] ∧ zA 0 4914 f48 ∧ (0 ≤ (0 : Int32).toInt ∧ (0 : Int32).toInt ≤ 40) ∧ (zMlv h22 k41 f36 pl0 pl0 f34 f35 f14 f15 f16 f19 f17 (v13 8).toInt (v21 9).toInt ((n48 : Nat) : Int) (v13 7).toInt (zMk f4 (v1 4).toInt x1.toInt) f39 (0 : Int32).toInt) ∧ ((0 : Int32).toInt ≤ (v13 7).toInt) ∧ (zMwv f34 f35 f14 f15 f16 f19 f17 (v13 8).toInt (v21 9).toInt f36 ((n48 : Nat) : Int) (v13 7).toInt x1.toInt f48 f48 f41 f41 (0 : Int32).toInt) ∧ (zRd h22 f31 pl0) ∧ (zPs k41 f36 pl0) ∧ (zOt pl0 pl0) := ⟨hP, hD, hS, lv_sub hl [1, 2, 0] rfl, hf48, (by first | with_reducible assumption | exact ⟨by omega, by omega⟩), by first | exact hml9 | exact zMlv_0 (by decide), by omega, by first | exact hmw9 | exact zMwv_0 (by decide), by assumption, by assumption, by first | assumption | exact zOt_rf⟩
    exact hJ2 s.heap [] ls (fun i => ([0] : List (Int32)).getD i 0) (fun _ => 0) (fun i => ([f48, f39, f41] : List (Nat → Int32)).getD i (fun _ => 0)) (fun _ => (fun _ => 0)) ⟨(fun _ => (fun _ => none)), pl0, hc⟩
set_option maxHeartbeats 8000000 in
set_option maxRecDepth 100000 in
theorem sX7_stepAt_0 (l : Launch) (dC : Nat → ClassId) (dI : Nat → Nat → Nat) (adK adV : Nat → Nat) (h0 : Nat) (h7 : Nat) (h1 : Nat) (h2 : Nat) (h3 : Nat) (h4 : Nat) (h5 : Nat) (h6 : Nat) (k7 : ClassId) (sz : Nat) (v0 : Nat → Int32) (f7 : Nat → Int32) (x1 : Int32) (hv0 : zR rg_Query v0) (hf7 : zA 0 12000 f7) : Met l yX7_stepAt (zw yX7_stepAt cX7_stepAt 2 (some .int)) { frames := 0, cells := 0, slots := 0, locals := 0 } (zPc dC dI adK adV [.ref h0, .int x1] sz [(h0, .inr (7, mX7 h1 h2 h3 h4 h5 h6 h7 v0)), (h7, zi k7 270 f7)] [(k7, .int)]) (va_Qi (fun (r : Int32) (u : Nat → Int32) => ((-1) ≤ r.toInt ∧ r.toInt ≤ 12000) ∧ (0 ≤ x1.toInt ∧ x1.toInt < (v0 9).toInt → 0 ≤ r.toInt) ∧ (0 ≤ x1.toInt ∧ x1.toInt < (v0 9).toInt → r.toInt = (f7 ((x1 : Int32)).toNatClampNeg).toInt)) (fun (u : Nat → Int32) (t : State) => ∃ (ww : Nat → Int64) (aa : Nat → Nat → Int32) (bb : Nat → Nat → Int64), va_P (dC, dI) vwCl [(h0, .inr (7, mX7 h1 h2 h3 h4 h5 h6 h7 v0)), (h7, zi k7 270 f7)] t.heap ∧ va_K (dC, dI) vwCl [(k7, .int)] t ∧ va_D (va_A [(h0, .inr (7, mX7 h1 h2 h3 h4 h5 h6 h7 v0)), (h7, zi k7 270 f7)] sz) [(h0, .inr (7, mX7 h1 h2 h3 h4 h5 h6 h7 v0)), (h7, zi k7 270 f7)]) (va_A [(h0, .inr (7, mX7 h1 h2 h3 h4 h5 h6 h7 v0)), (h7, zi k7 270 f7)] sz)) 0 0 (va_A [(h0, .inr (7, mX7 h1 h2 h3 h4 h5 h6 h7 v0)), (h7, zi k7 270 f7)] sz) := by
  refine Met.ofW (cc := cX7_stepAt) (maxL := 2) (ret := (some .int)) (by decide) rfl ?_
  intro p e s m args below meth c s₁ B hml hv
  obtain ⟨rfl, hsz, hP, hK, hD0, hE, hZ⟩ := hv
  have hx := B.exec
  have hb := B.bytes
  have hr := B.returns
  have hG : ∀ w ∈ zG, w.before _ s = true := fun w h => atoms_spec (ws := (zw yX7_stepAt cX7_stepAt 2 (some .int))) B.pre w (List.mem_cons_of_mem _ h)
  have hown : s.vm.findClass RX7 = some m.cls := findClass_of_methodNamed B.named
  have hlocks := B.notSynchronized

  subst hsz
  have hD := hD0.self (sz := s.heap.size)
  generalize hAe : va_A [(h0, .inr (7, mX7 h1 h2 h3 h4 h5 h6 h7 v0)), (h7, zi k7 270 f7)] s.heap.size = A at hD hZ ⊢
  have hA : ∀ q : Nat, s.heap.size ≤ q → A q := fun q h => by rw [← hAe]; exact Or.inr h
  have hS : va_S A s.heap s.heap [] := va_S.rf
  have hl := lv_entry ([.ref h0, .int x1]) (n := 2) (Nat.le_of_ble_eq_true rfl)
  rw [lg_entry_eq]
  generalize (lg_sl ([.ref h0, .int x1]) ++ List.replicate (2 - (lg_sl ([.ref h0, .int x1])).length) Slot.unset).toArray = ls at hl ⊢
  have hl : lv_has ls 2 [(0, .ref h0), (1, .int x1)] := hl
  have b_ := zk_m1
  have b_ : 0 ≤ (v0 9).toInt ∧ (v0 9).toInt ≤ 270 := hv0 9
  refine lv_iload_n hx hb dX7_stepAt_0 rfl (lv_at hl 1 rfl) ?_
  have b_ : -2147483648 ≤ x1.toInt ∧ x1.toInt ≤ 2147483647 := ⟨zlo _, zhi _⟩
  refine lv_if_lt (tgt := 21) hx hb dX7_stepAt_1 (by decide) (fun c_ => ?_) (fun c_ => ?_)
  · skip
    have b_ := zT_lt rfl zk_0 c_
    refine lv_iconst (v := (-1)) hx hb dX7_stepAt_21 (by decide) ?_
    refine W.widen (k := 0) (n := 0) (by decide) (by decide) ?_
    have hpost : ((-1) ≤ ((-1) : Int32).toInt ∧ ((-1) : Int32).toInt ≤ 12000) ∧ (0 ≤ x1.toInt ∧ x1.toInt < (v0 9).toInt → 0 ≤ ((-1) : Int32).toInt) ∧ (0 ≤ x1.toInt ∧ x1.toInt < (v0 9).toInt → ((-1) : Int32).toInt = (f7 ((x1 : Int32)).toNatClampNeg).toInt) := ⟨(by first | with_reducible assumption | exact ⟨by omega, by omega⟩), by omega, by first | exact fun _ => congrArg Int32.toInt e_z17 | omega⟩
    have hP9 : va_P (dC, dI) vwCl [(h0, .inr (7, mX7 h1 h2 h3 h4 h5 h6 h7 v0)), (h7, zi k7 270 f7)] s.heap := hP
    have hD9 : va_D A [(h0, .inr (7, mX7 h1 h2 h3 h4 h5 h6 h7 v0)), (h7, zi k7 270 f7)] := hD
    exact W.iret (v := (-1)) hx hb hr (fun t ht hW => ⟨⟨(-1), (fun _ => 0), rfl, hpost, (fun _ => 0), (fun _ => (fun _ => 0)), (fun _ => (fun _ => 0)), by rw [ht]; exact hP9, va_K.moved hW.alike hK, hD9⟩, hS.F ht⟩) hS.2.2 dX7_stepAt_22
  · skip
    have b_ := zF_lt rfl zk_0 c_
    refine lv_iload_n hx hb dX7_stepAt_4 rfl (lv_at hl 1 rfl) ?_
    refine lv_aload_n hx hb dX7_stepAt_5 rfl (lv_at hl 0 rfl) ?_
    refine va_get (D := (dC, dI)) (ci := 7) (v := .int (v0 9)) (C := RX7) (T := TX7) (N := 12) hx hb hG zuX7 hown hK hP 0 rfl rfl 9 (by decide) (hG _ zv374) (fun _ h9 => h9) rfl dX7_stepAt_6 ?_
    refine lv_icmp_ge (tgt := 21) hx hb dX7_stepAt_9 (by decide) (fun c_ => ?_) (fun c_ => ?_)
    · skip
      have b_ := zT_ge rfl rfl c_
      refine lv_iconst (v := (-1)) hx hb dX7_stepAt_21 (by decide) ?_
      refine W.widen (k := 0) (n := 0) (by decide) (by decide) ?_
      have hpost : ((-1) ≤ ((-1) : Int32).toInt ∧ ((-1) : Int32).toInt ≤ 12000) ∧ (0 ≤ x1.toInt ∧ x1.toInt < (v0 9).toInt → 0 ≤ ((-1) : Int32).toInt) ∧ (0 ≤ x1.toInt ∧ x1.toInt < (v0 9).toInt → ((-1) : Int32).toInt = (f7 ((x1 : Int32)).toNatClampNeg).toInt) := ⟨(by first | with_reducible assumption | exact ⟨by omega, by omega⟩), by omega, by first | exact fun _ => congrArg Int32.toInt e_z17 | omega⟩
      have hP9 : va_P (dC, dI) vwCl [(h0, .inr (7, mX7 h1 h2 h3 h4 h5 h6 h7 v0)), (h7, zi k7 270 f7)] s.heap := hP
      have hD9 : va_D A [(h0, .inr (7, mX7 h1 h2 h3 h4 h5 h6 h7 v0)), (h7, zi k7 270 f7)] := hD
      exact W.iret (v := (-1)) hx hb hr (fun t ht hW => ⟨⟨(-1), (fun _ => 0), rfl, hpost, (fun _ => 0), (fun _ => (fun _ => 0)), (fun _ => (fun _ => 0)), by rw [ht]; exact hP9, va_K.moved hW.alike hK, hD9⟩, hS.F ht⟩) hS.2.2 dX7_stepAt_22
    · skip
      have b_ := zF_ge rfl rfl c_
      refine lv_aload_n hx hb dX7_stepAt_12 rfl (lv_at hl 0 rfl) ?_
      refine va_get (D := (dC, dI)) (ci := 7) (v := .ref h7) (C := RX7) (T := TX7) (N := 12) hx hb hG zuX7 hown hK hP 0 rfl rfl 6 (by decide) (hG _ zv371) (fun _ h9 => h9) rfl dX7_stepAt_13 ?_
      refine lv_iload_n hx hb dX7_stepAt_16 rfl (lv_at hl 1 rfl) ?_
      refine va_iald hx hb hK hP 1 0 rfl rfl (zin_lit ⟨by omega, by omega⟩) dX7_stepAt_17 ?_
      refine lv_topi (fun z17 e_z17 => ?_)
      have b_ : 0 ≤ z17.toInt ∧ z17.toInt ≤ 12000 := by rw [e_z17]; exact hf7 _
      refine lv_goto (tgt := 22) hx hb dX7_stepAt_18 (by decide) ?_
      refine W.widen (k := 0) (n := 0) (by decide) (by decide) ?_
      have hpost : ((-1) ≤ z17.toInt ∧ z17.toInt ≤ 12000) ∧ (0 ≤ x1.toInt ∧ x1.toInt < (v0 9).toInt → 0 ≤ z17.toInt) ∧ (0 ≤ x1.toInt ∧ x1.toInt < (v0 9).toInt → z17.toInt = (f7 ((x1 : Int32)).toNatClampNeg).toInt) := ⟨(by first | with_reducible assumption | exact ⟨by omega, by omega⟩), by omega, by first | exact fun _ => congrArg Int32.toInt e_z17 | omega⟩
      have hP9 : va_P (dC, dI) vwCl [(h0, .inr (7, mX7 h1 h2 h3 h4 h5 h6 h7 v0)), (h7, zi k7 270 f7)] s.heap := hP
      have hD9 : va_D A [(h0, .inr (7, mX7 h1 h2 h3 h4 h5 h6 h7 v0)), (h7, zi k7 270 f7)] := hD
      exact W.iret (v := z17) hx hb hr (fun t ht hW => ⟨⟨z17, (fun _ => 0), rfl, hpost, (fun _ => 0), (fun _ => (fun _ => 0)), (fun _ => (fun _ => 0)), by rw [ht]; exact hP9, va_K.moved hW.alike hK, hD9⟩, hS.F ht⟩) hS.2.2 dX7_stepAt_22
set_option maxHeartbeats 8000000 in
set_option maxRecDepth 100000 in
theorem sJ6_numberOfTrailingZeros_0f7a4_0 (l : Launch) (dC : Nat → ClassId) (dI : Nat → Nat → Nat) (adK adV : Nat → Nat) (sz : Nat) (x0 : Int32) : Met l yJ6_numberOfTrailingZeros_0f7a4 (zw yJ6_numberOfTrailingZeros_0f7a4 cJ6_numberOfTrailingZeros_0f7a4 2 (some .int)) { frames := 0, cells := 0, slots := 0, locals := 0 } (zPc dC dI adK adV [.int x0] sz [] []) (va_Qi (fun (r : Int32) (u : Nat → Int32) => (0 ≤ r.toInt ∧ r.toInt ≤ 32) ∧ (x0.toInt ≠ 0 → r.toInt ≤ 31) ∧ (zCtz (x0 : Int32) r.toInt)) (fun (u : Nat → Int32) (t : State) => ∃ (ww : Nat → Int64) (aa : Nat → Nat → Int32) (bb : Nat → Nat → Int64), va_P (dC, dI) vwCl [] t.heap ∧ va_K (dC, dI) vwCl [] t ∧ va_D (va_A [] sz) []) (va_A [] sz)) 0 0 (va_A [] sz) := by
  refine Met.ofW (cc := cJ6_numberOfTrailingZeros_0f7a4) (maxL := 2) (ret := (some .int)) (by decide) rfl ?_
  intro p e s m args below meth c s₁ B hml hv
  obtain ⟨rfl, hsz, hP, hK, hD0, hE, hZ⟩ := hv
  have hx := B.exec
  have hb := B.bytes
  have hr := B.returns
  have hG : ∀ w ∈ zG, w.before _ s = true := fun w h => atoms_spec (ws := (zw yJ6_numberOfTrailingZeros_0f7a4 cJ6_numberOfTrailingZeros_0f7a4 2 (some .int))) B.pre w (List.mem_cons_of_mem _ h)
  have hown : s.vm.findClass RJ6 = some m.cls := findClass_of_methodNamed B.named
  have hlocks := B.notSynchronized

  subst hsz
  have hD := hD0.self (sz := s.heap.size)
  generalize hAe : va_A [] s.heap.size = A at hD hZ ⊢
  have hA : ∀ q : Nat, s.heap.size ≤ q → A q := fun q h => by rw [← hAe]; exact Or.inr h
  have hS : va_S A s.heap s.heap [] := va_S.rf
  have hl := lv_entry ([.int x0]) (n := 2) (Nat.le_of_ble_eq_true rfl)
  rw [lg_entry_eq]
  generalize (lg_sl ([.int x0]) ++ List.replicate (2 - (lg_sl ([.int x0])).length) Slot.unset).toArray = ls at hl ⊢
  have hl : lv_has ls 2 [(0, .int x0)] := hl
  have b_ := zk_1
  have b_ := zk_3
  have b_ := zk_5
  have b_ := zk_7
  have b_ := zk_9
  have b_ := zk_11
  have b_ := zk_13
  have b_ := zk_15
  have b_ := zk_17
  have b_ := zk_19
  have b_ := zk_21
  have b_ := zk_23
  have b_ := zk_25
  have b_ := zk_27
  have b_ := zk_29
  have b_ := zk_31
  refine lv_iload_n hx hb dJ6_numberOfTrailingZeros_0f7a4_0 rfl (lv_at hl 0 rfl) ?_
  refine lv_iconst (v := (-1)) hx hb dJ6_numberOfTrailingZeros_0f7a4_1 (by decide) ?_
  have b_ : -2147483648 ≤ x0.toInt ∧ x0.toInt ≤ 2147483647 := ⟨zlo _, zhi _⟩
  refine lv_ixor hx hb dJ6_numberOfTrailingZeros_0f7a4_2 ?_
  refine lv_topi (fun z2 e_z2 => ?_)
  refine lv_iload_n hx hb dJ6_numberOfTrailingZeros_0f7a4_3 rfl (lv_at hl 0 rfl) ?_
  refine lv_iconst (v := 1) hx hb dJ6_numberOfTrailingZeros_0f7a4_4 (by decide) ?_
  refine lv_isub hx hb dJ6_numberOfTrailingZeros_0f7a4_5 ?_
  refine lv_topi (fun z5 e_z5 => ?_)
  have b_ : -2147483648 ≤ z2.toInt ∧ z2.toInt ≤ 2147483647 := ⟨zlo _, zhi _⟩
  have b_ : -2147483648 ≤ z5.toInt ∧ z5.toInt ≤ 2147483647 := ⟨zlo _, zhi _⟩
  refine lv_iand hx hb dJ6_numberOfTrailingZeros_0f7a4_6 ?_
  refine lv_topi (fun z6 e_z6 => ?_)
  refine lv_istore_n (lv' := [(0, .int z6)]) hx hb dJ6_numberOfTrailingZeros_0f7a4_7 rfl hl (by decide) rfl (fun ls hl => ?_)
  refine lv_iload_n hx hb dJ6_numberOfTrailingZeros_0f7a4_8 rfl (lv_at hl 0 rfl) ?_
  have b_ : -2147483648 ≤ z6.toInt ∧ z6.toInt ≤ 2147483647 := ⟨zlo _, zhi _⟩
  refine lv_if_gt (tgt := 17) hx hb dJ6_numberOfTrailingZeros_0f7a4_9 (by decide) (fun c_ => ?_) (fun c_ => ?_)
  · skip
    have b_ := zT_gt rfl zk_0 c_
    refine lv_iconst (v := 1) hx hb dJ6_numberOfTrailingZeros_0f7a4_17 (by decide) ?_
    refine lv_istore_n (lv' := [(1, .int 1), (0, .int z6)]) hx hb dJ6_numberOfTrailingZeros_0f7a4_18 rfl hl (by decide) rfl (fun ls hl => ?_)
    have htz : zTzC z6.toInt z6.toInt (1 : Int32).toInt := zTzC_0 rfl (by decide)
    refine lv_iload_n hx hb dJ6_numberOfTrailingZeros_0f7a4_19 rfl (lv_at hl 1 rfl) ?_
    refine lv_ldcw hx hb hown (hG _ zv795) dJ6_numberOfTrailingZeros_0f7a4_20 ?_
    refine lv_icmp_le (tgt := 34) hx hb dJ6_numberOfTrailingZeros_0f7a4_23 (by decide) (fun c_ => ?_) (fun c_ => ?_)
    · skip
      have b_ := zT_le rfl zk_65536 c_
      refine lv_iload_n hx hb dJ6_numberOfTrailingZeros_0f7a4_34 rfl (lv_at hl 1 rfl) ?_
      refine lv_sipush (v := 256) hx hb dJ6_numberOfTrailingZeros_0f7a4_35 (by decide) ?_
      refine lv_icmp_le (tgt := 49) hx hb dJ6_numberOfTrailingZeros_0f7a4_38 (by decide) (fun c_ => ?_) (fun c_ => ?_)
      · skip
        have b_ := zT_le rfl zk_256 c_
        refine lv_iload_n hx hb dJ6_numberOfTrailingZeros_0f7a4_49 rfl (lv_at hl 1 rfl) ?_
        refine lv_bipush (v := 16) hx hb dJ6_numberOfTrailingZeros_0f7a4_50 (by decide) ?_
        refine lv_icmp_le (tgt := 62) hx hb dJ6_numberOfTrailingZeros_0f7a4_52 (by decide) (fun c_ => ?_) (fun c_ => ?_)
        · skip
          have b_ := zT_le rfl zk_16 c_
          refine lv_iload_n hx hb dJ6_numberOfTrailingZeros_0f7a4_62 rfl (lv_at hl 1 rfl) ?_
          refine lv_iconst (v := 4) hx hb dJ6_numberOfTrailingZeros_0f7a4_63 (by decide) ?_
          refine lv_icmp_le (tgt := 74) hx hb dJ6_numberOfTrailingZeros_0f7a4_64 (by decide) (fun c_ => ?_) (fun c_ => ?_)
          · skip
            have b_ := zT_le rfl zk_4 c_
            refine lv_iload_n hx hb dJ6_numberOfTrailingZeros_0f7a4_74 rfl (lv_at hl 0 rfl) ?_
            refine lv_iload_n hx hb dJ6_numberOfTrailingZeros_0f7a4_75 rfl (lv_at hl 1 rfl) ?_
            refine lv_iconst (v := 1) hx hb dJ6_numberOfTrailingZeros_0f7a4_76 (by decide) ?_
            refine lv_iushr hx hb dJ6_numberOfTrailingZeros_0f7a4_77 rfl ?_
            refine lv_topi (fun z77 e_z77 => ?_)
            have b_ := zushr1 rfl e_z77 (by omega)
            refine lv_iadd hx hb dJ6_numberOfTrailingZeros_0f7a4_78 ?_
            refine lv_topi (fun z78 e_z78 => ?_)
            have b_ := zadd zk_1 rfl e_z78 (by omega) (by omega)
            refine W.widen (k := 0) (n := 0) (by decide) (by decide) ?_
            have hpost : (0 ≤ z78.toInt ∧ z78.toInt ≤ 32) ∧ (x0.toInt ≠ 0 → z78.toInt ≤ 31) ∧ (zCtz (x0 : Int32) z78.toInt) := ⟨(by first | with_reducible assumption | exact ⟨by omega, by omega⟩), by omega, by first | exact zCtz_i e_z2 e_z5 e_z6 (zTzC_e htz (by omega) (by omega)) (fun q_ => by omega) | exact zCtz_i e_z2 e_z5 e_z6 (fun q_ => by omega) (fun q_ => by rw [e_z15, show z6 = 0 from zeqi.mpr (q_.trans (by decide))]; decide)⟩
            have hP9 : va_P (dC, dI) vwCl [] s.heap := hP
            have hD9 : va_D A [] := hD
            exact W.iret (v := z78) hx hb hr (fun t ht hW => ⟨⟨z78, (fun _ => 0), rfl, hpost, (fun _ => 0), (fun _ => (fun _ => 0)), (fun _ => (fun _ => 0)), by rw [ht]; exact hP9, va_K.moved hW.alike hK, hD9⟩, hS.F ht⟩) hS.2.2 dJ6_numberOfTrailingZeros_0f7a4_79
          · skip
            have b_ := zF_le rfl zk_4 c_
            refine lv_iinc (v := 3) (lv' := [(1, .int 3), (0, .int z6)]) hx hb dJ6_numberOfTrailingZeros_0f7a4_67 hl (k := 0) rfl (by decide) (by decide) rfl (fun ls hl => ?_)
            refine lv_iload_n hx hb dJ6_numberOfTrailingZeros_0f7a4_70 rfl (lv_at hl 1 rfl) ?_
            refine lv_iconst (v := 2) hx hb dJ6_numberOfTrailingZeros_0f7a4_71 (by decide) ?_
            refine lv_iushr hx hb dJ6_numberOfTrailingZeros_0f7a4_72 rfl ?_
            refine lv_topi (fun z72 e_z72 => ?_)
            have b_ := zushr2 rfl e_z72 (by omega)
            refine lv_istore_n (lv' := [(0, .int z72), (1, .int 3)]) hx hb dJ6_numberOfTrailingZeros_0f7a4_73 rfl hl (by decide) rfl (fun ls hl => ?_)
            have htz : zTzC z6.toInt z72.toInt (3 : Int32).toInt := zTzC_s 2 htz (by omega) (by omega) (by omega)
            refine lv_iload_n hx hb dJ6_numberOfTrailingZeros_0f7a4_74 rfl (lv_at hl 1 rfl) ?_
            refine lv_iload_n hx hb dJ6_numberOfTrailingZeros_0f7a4_75 rfl (lv_at hl 0 rfl) ?_
            refine lv_iconst (v := 1) hx hb dJ6_numberOfTrailingZeros_0f7a4_76 (by decide) ?_
            refine lv_iushr hx hb dJ6_numberOfTrailingZeros_0f7a4_77 rfl ?_
            refine lv_topi (fun z77 e_z77 => ?_)
            have b_ := zushr1 rfl e_z77 (by omega)
            refine lv_iadd hx hb dJ6_numberOfTrailingZeros_0f7a4_78 ?_
            refine lv_topi (fun z78 e_z78 => ?_)
            have b_ := zadd zk_3 rfl e_z78 (by omega) (by omega)
            refine W.widen (k := 0) (n := 0) (by decide) (by decide) ?_
            have hpost : (0 ≤ z78.toInt ∧ z78.toInt ≤ 32) ∧ (x0.toInt ≠ 0 → z78.toInt ≤ 31) ∧ (zCtz (x0 : Int32) z78.toInt) := ⟨(by first | with_reducible assumption | exact ⟨by omega, by omega⟩), by omega, by first | exact zCtz_i e_z2 e_z5 e_z6 (zTzC_e htz (by omega) (by omega)) (fun q_ => by omega) | exact zCtz_i e_z2 e_z5 e_z6 (fun q_ => by omega) (fun q_ => by rw [e_z15, show z6 = 0 from zeqi.mpr (q_.trans (by decide))]; decide)⟩
            have hP9 : va_P (dC, dI) vwCl [] s.heap := hP
            have hD9 : va_D A [] := hD
            exact W.iret (v := z78) hx hb hr (fun t ht hW => ⟨⟨z78, (fun _ => 0), rfl, hpost, (fun _ => 0), (fun _ => (fun _ => 0)), (fun _ => (fun _ => 0)), by rw [ht]; exact hP9, va_K.moved hW.alike hK, hD9⟩, hS.F ht⟩) hS.2.2 dJ6_numberOfTrailingZeros_0f7a4_79
        · skip
          have b_ := zF_le rfl zk_16 c_
          refine lv_iinc (v := 5) (lv' := [(1, .int 5), (0, .int z6)]) hx hb dJ6_numberOfTrailingZeros_0f7a4_55 hl (k := 0) rfl (by decide) (by decide) rfl (fun ls hl => ?_)
          refine lv_iload_n hx hb dJ6_numberOfTrailingZeros_0f7a4_58 rfl (lv_at hl 1 rfl) ?_
          refine lv_iconst (v := 4) hx hb dJ6_numberOfTrailingZeros_0f7a4_59 (by decide) ?_
          refine lv_iushr hx hb dJ6_numberOfTrailingZeros_0f7a4_60 rfl ?_
          refine lv_topi (fun z60 e_z60 => ?_)
          have b_ := zushr4 rfl e_z60 (by omega)
          refine lv_istore_n (lv' := [(0, .int z60), (1, .int 5)]) hx hb dJ6_numberOfTrailingZeros_0f7a4_61 rfl hl (by decide) rfl (fun ls hl => ?_)
          have htz : zTzC z6.toInt z60.toInt (5 : Int32).toInt := zTzC_s 4 htz (by omega) (by omega) (by omega)
          refine lv_iload_n hx hb dJ6_numberOfTrailingZeros_0f7a4_62 rfl (lv_at hl 0 rfl) ?_
          refine lv_iconst (v := 4) hx hb dJ6_numberOfTrailingZeros_0f7a4_63 (by decide) ?_
          refine lv_icmp_le (tgt := 74) hx hb dJ6_numberOfTrailingZeros_0f7a4_64 (by decide) (fun c_ => ?_) (fun c_ => ?_)
          · skip
            have b_ := zT_le rfl zk_4 c_
            refine lv_iload_n hx hb dJ6_numberOfTrailingZeros_0f7a4_74 rfl (lv_at hl 1 rfl) ?_
            refine lv_iload_n hx hb dJ6_numberOfTrailingZeros_0f7a4_75 rfl (lv_at hl 0 rfl) ?_
            refine lv_iconst (v := 1) hx hb dJ6_numberOfTrailingZeros_0f7a4_76 (by decide) ?_
            refine lv_iushr hx hb dJ6_numberOfTrailingZeros_0f7a4_77 rfl ?_
            refine lv_topi (fun z77 e_z77 => ?_)
            have b_ := zushr1 rfl e_z77 (by omega)
            refine lv_iadd hx hb dJ6_numberOfTrailingZeros_0f7a4_78 ?_
            refine lv_topi (fun z78 e_z78 => ?_)
            have b_ := zadd zk_5 rfl e_z78 (by omega) (by omega)
            refine W.widen (k := 0) (n := 0) (by decide) (by decide) ?_
            have hpost : (0 ≤ z78.toInt ∧ z78.toInt ≤ 32) ∧ (x0.toInt ≠ 0 → z78.toInt ≤ 31) ∧ (zCtz (x0 : Int32) z78.toInt) := ⟨(by first | with_reducible assumption | exact ⟨by omega, by omega⟩), by omega, by first | exact zCtz_i e_z2 e_z5 e_z6 (zTzC_e htz (by omega) (by omega)) (fun q_ => by omega) | exact zCtz_i e_z2 e_z5 e_z6 (fun q_ => by omega) (fun q_ => by rw [e_z15, show z6 = 0 from zeqi.mpr (q_.trans (by decide))]; decide)⟩
            have hP9 : va_P (dC, dI) vwCl [] s.heap := hP
            have hD9 : va_D A [] := hD
            exact W.iret (v := z78) hx hb hr (fun t ht hW => ⟨⟨z78, (fun _ => 0), rfl, hpost, (fun _ => 0), (fun _ => (fun _ => 0)), (fun _ => (fun _ => 0)), by rw [ht]; exact hP9, va_K.moved hW.alike hK, hD9⟩, hS.F ht⟩) hS.2.2 dJ6_numberOfTrailingZeros_0f7a4_79
          · skip
            have b_ := zF_le rfl zk_4 c_
            refine lv_iinc (v := 7) (lv' := [(1, .int 7), (0, .int z60)]) hx hb dJ6_numberOfTrailingZeros_0f7a4_67 hl (k := 1) rfl (by decide) (by decide) rfl (fun ls hl => ?_)
            refine lv_iload_n hx hb dJ6_numberOfTrailingZeros_0f7a4_70 rfl (lv_at hl 1 rfl) ?_
            refine lv_iconst (v := 2) hx hb dJ6_numberOfTrailingZeros_0f7a4_71 (by decide) ?_
            refine lv_iushr hx hb dJ6_numberOfTrailingZeros_0f7a4_72 rfl ?_
            refine lv_topi (fun z72 e_z72 => ?_)
            have b_ := zushr2 rfl e_z72 (by omega)
            refine lv_istore_n (lv' := [(0, .int z72), (1, .int 7)]) hx hb dJ6_numberOfTrailingZeros_0f7a4_73 rfl hl (by decide) rfl (fun ls hl => ?_)
            have htz : zTzC z6.toInt z72.toInt (7 : Int32).toInt := zTzC_s 2 htz (by omega) (by omega) (by omega)
            refine lv_iload_n hx hb dJ6_numberOfTrailingZeros_0f7a4_74 rfl (lv_at hl 1 rfl) ?_
            refine lv_iload_n hx hb dJ6_numberOfTrailingZeros_0f7a4_75 rfl (lv_at hl 0 rfl) ?_
            refine lv_iconst (v := 1) hx hb dJ6_numberOfTrailingZeros_0f7a4_76 (by decide) ?_
            refine lv_iushr hx hb dJ6_numberOfTrailingZeros_0f7a4_77 rfl ?_
            refine lv_topi (fun z77 e_z77 => ?_)
            have b_ := zushr1 rfl e_z77 (by omega)
            refine lv_iadd hx hb dJ6_numberOfTrailingZeros_0f7a4_78 ?_
            refine lv_topi (fun z78 e_z78 => ?_)
            have b_ := zadd zk_7 rfl e_z78 (by omega) (by omega)
            refine W.widen (k := 0) (n := 0) (by decide) (by decide) ?_
            have hpost : (0 ≤ z78.toInt ∧ z78.toInt ≤ 32) ∧ (x0.toInt ≠ 0 → z78.toInt ≤ 31) ∧ (zCtz (x0 : Int32) z78.toInt) := ⟨(by first | with_reducible assumption | exact ⟨by omega, by omega⟩), by omega, by first | exact zCtz_i e_z2 e_z5 e_z6 (zTzC_e htz (by omega) (by omega)) (fun q_ => by omega) | exact zCtz_i e_z2 e_z5 e_z6 (fun q_ => by omega) (fun q_ => by rw [e_z15, show z6 = 0 from zeqi.mpr (q_.trans (by decide))]; decide)⟩
            have hP9 : va_P (dC, dI) vwCl [] s.heap := hP
            have hD9 : va_D A [] := hD
            exact W.iret (v := z78) hx hb hr (fun t ht hW => ⟨⟨z78, (fun _ => 0), rfl, hpost, (fun _ => 0), (fun _ => (fun _ => 0)), (fun _ => (fun _ => 0)), by rw [ht]; exact hP9, va_K.moved hW.alike hK, hD9⟩, hS.F ht⟩) hS.2.2 dJ6_numberOfTrailingZeros_0f7a4_79
      · skip
        have b_ := zF_le rfl zk_256 c_
        refine lv_iinc (v := 9) (lv' := [(1, .int 9), (0, .int z6)]) hx hb dJ6_numberOfTrailingZeros_0f7a4_41 hl (k := 0) rfl (by decide) (by decide) rfl (fun ls hl => ?_)
        refine lv_iload_n hx hb dJ6_numberOfTrailingZeros_0f7a4_44 rfl (lv_at hl 1 rfl) ?_
        refine lv_bipush (v := 8) hx hb dJ6_numberOfTrailingZeros_0f7a4_45 (by decide) ?_
        refine lv_iushr hx hb dJ6_numberOfTrailingZeros_0f7a4_47 rfl ?_
        refine lv_topi (fun z47 e_z47 => ?_)
        have b_ := zushr8 rfl e_z47 (by omega)
        refine lv_istore_n (lv' := [(0, .int z47), (1, .int 9)]) hx hb dJ6_numberOfTrailingZeros_0f7a4_48 rfl hl (by decide) rfl (fun ls hl => ?_)
        have htz : zTzC z6.toInt z47.toInt (9 : Int32).toInt := zTzC_s 8 htz (by omega) (by omega) (by omega)
        refine lv_iload_n hx hb dJ6_numberOfTrailingZeros_0f7a4_49 rfl (lv_at hl 0 rfl) ?_
        refine lv_bipush (v := 16) hx hb dJ6_numberOfTrailingZeros_0f7a4_50 (by decide) ?_
        refine lv_icmp_le (tgt := 62) hx hb dJ6_numberOfTrailingZeros_0f7a4_52 (by decide) (fun c_ => ?_) (fun c_ => ?_)
        · skip
          have b_ := zT_le rfl zk_16 c_
          refine lv_iload_n hx hb dJ6_numberOfTrailingZeros_0f7a4_62 rfl (lv_at hl 0 rfl) ?_
          refine lv_iconst (v := 4) hx hb dJ6_numberOfTrailingZeros_0f7a4_63 (by decide) ?_
          refine lv_icmp_le (tgt := 74) hx hb dJ6_numberOfTrailingZeros_0f7a4_64 (by decide) (fun c_ => ?_) (fun c_ => ?_)
          · skip
            have b_ := zT_le rfl zk_4 c_
            refine lv_iload_n hx hb dJ6_numberOfTrailingZeros_0f7a4_74 rfl (lv_at hl 1 rfl) ?_
            refine lv_iload_n hx hb dJ6_numberOfTrailingZeros_0f7a4_75 rfl (lv_at hl 0 rfl) ?_
            refine lv_iconst (v := 1) hx hb dJ6_numberOfTrailingZeros_0f7a4_76 (by decide) ?_
            refine lv_iushr hx hb dJ6_numberOfTrailingZeros_0f7a4_77 rfl ?_
            refine lv_topi (fun z77 e_z77 => ?_)
            have b_ := zushr1 rfl e_z77 (by omega)
            refine lv_iadd hx hb dJ6_numberOfTrailingZeros_0f7a4_78 ?_
            refine lv_topi (fun z78 e_z78 => ?_)
            have b_ := zadd zk_9 rfl e_z78 (by omega) (by omega)
            refine W.widen (k := 0) (n := 0) (by decide) (by decide) ?_
            have hpost : (0 ≤ z78.toInt ∧ z78.toInt ≤ 32) ∧ (x0.toInt ≠ 0 → z78.toInt ≤ 31) ∧ (zCtz (x0 : Int32) z78.toInt) := ⟨(by first | with_reducible assumption | exact ⟨by omega, by omega⟩), by omega, by first | exact zCtz_i e_z2 e_z5 e_z6 (zTzC_e htz (by omega) (by omega)) (fun q_ => by omega) | exact zCtz_i e_z2 e_z5 e_z6 (fun q_ => by omega) (fun q_ => by rw [e_z15, show z6 = 0 from zeqi.mpr (q_.trans (by decide))]; decide)⟩
            have hP9 : va_P (dC, dI) vwCl [] s.heap := hP
            have hD9 : va_D A [] := hD
            exact W.iret (v := z78) hx hb hr (fun t ht hW => ⟨⟨z78, (fun _ => 0), rfl, hpost, (fun _ => 0), (fun _ => (fun _ => 0)), (fun _ => (fun _ => 0)), by rw [ht]; exact hP9, va_K.moved hW.alike hK, hD9⟩, hS.F ht⟩) hS.2.2 dJ6_numberOfTrailingZeros_0f7a4_79
          · skip
            have b_ := zF_le rfl zk_4 c_
            refine lv_iinc (v := 11) (lv' := [(1, .int 11), (0, .int z47)]) hx hb dJ6_numberOfTrailingZeros_0f7a4_67 hl (k := 1) rfl (by decide) (by decide) rfl (fun ls hl => ?_)
            refine lv_iload_n hx hb dJ6_numberOfTrailingZeros_0f7a4_70 rfl (lv_at hl 1 rfl) ?_
            refine lv_iconst (v := 2) hx hb dJ6_numberOfTrailingZeros_0f7a4_71 (by decide) ?_
            refine lv_iushr hx hb dJ6_numberOfTrailingZeros_0f7a4_72 rfl ?_
            refine lv_topi (fun z72 e_z72 => ?_)
            have b_ := zushr2 rfl e_z72 (by omega)
            refine lv_istore_n (lv' := [(0, .int z72), (1, .int 11)]) hx hb dJ6_numberOfTrailingZeros_0f7a4_73 rfl hl (by decide) rfl (fun ls hl => ?_)
            have htz : zTzC z6.toInt z72.toInt (11 : Int32).toInt := zTzC_s 2 htz (by omega) (by omega) (by omega)
            refine lv_iload_n hx hb dJ6_numberOfTrailingZeros_0f7a4_74 rfl (lv_at hl 1 rfl) ?_
            refine lv_iload_n hx hb dJ6_numberOfTrailingZeros_0f7a4_75 rfl (lv_at hl 0 rfl) ?_
            refine lv_iconst (v := 1) hx hb dJ6_numberOfTrailingZeros_0f7a4_76 (by decide) ?_
            refine lv_iushr hx hb dJ6_numberOfTrailingZeros_0f7a4_77 rfl ?_
            refine lv_topi (fun z77 e_z77 => ?_)
            have b_ := zushr1 rfl e_z77 (by omega)
            refine lv_iadd hx hb dJ6_numberOfTrailingZeros_0f7a4_78 ?_
            refine lv_topi (fun z78 e_z78 => ?_)
            have b_ := zadd zk_11 rfl e_z78 (by omega) (by omega)
            refine W.widen (k := 0) (n := 0) (by decide) (by decide) ?_
            have hpost : (0 ≤ z78.toInt ∧ z78.toInt ≤ 32) ∧ (x0.toInt ≠ 0 → z78.toInt ≤ 31) ∧ (zCtz (x0 : Int32) z78.toInt) := ⟨(by first | with_reducible assumption | exact ⟨by omega, by omega⟩), by omega, by first | exact zCtz_i e_z2 e_z5 e_z6 (zTzC_e htz (by omega) (by omega)) (fun q_ => by omega) | exact zCtz_i e_z2 e_z5 e_z6 (fun q_ => by omega) (fun q_ => by rw [e_z15, show z6 = 0 from zeqi.mpr (q_.trans (by decide))]; decide)⟩
            have hP9 : va_P (dC, dI) vwCl [] s.heap := hP
            have hD9 : va_D A [] := hD
            exact W.iret (v := z78) hx hb hr (fun t ht hW => ⟨⟨z78, (fun _ => 0), rfl, hpost, (fun _ => 0), (fun _ => (fun _ => 0)), (fun _ => (fun _ => 0)), by rw [ht]; exact hP9, va_K.moved hW.alike hK, hD9⟩, hS.F ht⟩) hS.2.2 dJ6_numberOfTrailingZeros_0f7a4_79
        · skip
          have b_ := zF_le rfl zk_16 c_
          refine lv_iinc (v := 13) (lv' := [(1, .int 13), (0, .int z47)]) hx hb dJ6_numberOfTrailingZeros_0f7a4_55 hl (k := 1) rfl (by decide) (by decide) rfl (fun ls hl => ?_)
          refine lv_iload_n hx hb dJ6_numberOfTrailingZeros_0f7a4_58 rfl (lv_at hl 1 rfl) ?_
          refine lv_iconst (v := 4) hx hb dJ6_numberOfTrailingZeros_0f7a4_59 (by decide) ?_
          refine lv_iushr hx hb dJ6_numberOfTrailingZeros_0f7a4_60 rfl ?_
          refine lv_topi (fun z60 e_z60 => ?_)
          have b_ := zushr4 rfl e_z60 (by omega)
          refine lv_istore_n (lv' := [(0, .int z60), (1, .int 13)]) hx hb dJ6_numberOfTrailingZeros_0f7a4_61 rfl hl (by decide) rfl (fun ls hl => ?_)
          have htz : zTzC z6.toInt z60.toInt (13 : Int32).toInt := zTzC_s 4 htz (by omega) (by omega) (by omega)
          refine lv_iload_n hx hb dJ6_numberOfTrailingZeros_0f7a4_62 rfl (lv_at hl 0 rfl) ?_
          refine lv_iconst (v := 4) hx hb dJ6_numberOfTrailingZeros_0f7a4_63 (by decide) ?_
          refine lv_icmp_le (tgt := 74) hx hb dJ6_numberOfTrailingZeros_0f7a4_64 (by decide) (fun c_ => ?_) (fun c_ => ?_)
          · skip
            have b_ := zT_le rfl zk_4 c_
            refine lv_iload_n hx hb dJ6_numberOfTrailingZeros_0f7a4_74 rfl (lv_at hl 1 rfl) ?_
            refine lv_iload_n hx hb dJ6_numberOfTrailingZeros_0f7a4_75 rfl (lv_at hl 0 rfl) ?_
            refine lv_iconst (v := 1) hx hb dJ6_numberOfTrailingZeros_0f7a4_76 (by decide) ?_
            refine lv_iushr hx hb dJ6_numberOfTrailingZeros_0f7a4_77 rfl ?_
            refine lv_topi (fun z77 e_z77 => ?_)
            have b_ := zushr1 rfl e_z77 (by omega)
            refine lv_iadd hx hb dJ6_numberOfTrailingZeros_0f7a4_78 ?_
            refine lv_topi (fun z78 e_z78 => ?_)
            have b_ := zadd zk_13 rfl e_z78 (by omega) (by omega)
            refine W.widen (k := 0) (n := 0) (by decide) (by decide) ?_
            have hpost : (0 ≤ z78.toInt ∧ z78.toInt ≤ 32) ∧ (x0.toInt ≠ 0 → z78.toInt ≤ 31) ∧ (zCtz (x0 : Int32) z78.toInt) := ⟨(by first | with_reducible assumption | exact ⟨by omega, by omega⟩), by omega, by first | exact zCtz_i e_z2 e_z5 e_z6 (zTzC_e htz (by omega) (by omega)) (fun q_ => by omega) | exact zCtz_i e_z2 e_z5 e_z6 (fun q_ => by omega) (fun q_ => by rw [e_z15, show z6 = 0 from zeqi.mpr (q_.trans (by decide))]; decide)⟩
            have hP9 : va_P (dC, dI) vwCl [] s.heap := hP
            have hD9 : va_D A [] := hD
            exact W.iret (v := z78) hx hb hr (fun t ht hW => ⟨⟨z78, (fun _ => 0), rfl, hpost, (fun _ => 0), (fun _ => (fun _ => 0)), (fun _ => (fun _ => 0)), by rw [ht]; exact hP9, va_K.moved hW.alike hK, hD9⟩, hS.F ht⟩) hS.2.2 dJ6_numberOfTrailingZeros_0f7a4_79
          · skip
            have b_ := zF_le rfl zk_4 c_
            refine lv_iinc (v := 15) (lv' := [(1, .int 15), (0, .int z60)]) hx hb dJ6_numberOfTrailingZeros_0f7a4_67 hl (k := 1) rfl (by decide) (by decide) rfl (fun ls hl => ?_)
            refine lv_iload_n hx hb dJ6_numberOfTrailingZeros_0f7a4_70 rfl (lv_at hl 1 rfl) ?_
            refine lv_iconst (v := 2) hx hb dJ6_numberOfTrailingZeros_0f7a4_71 (by decide) ?_
            refine lv_iushr hx hb dJ6_numberOfTrailingZeros_0f7a4_72 rfl ?_
            refine lv_topi (fun z72 e_z72 => ?_)
            have b_ := zushr2 rfl e_z72 (by omega)
            refine lv_istore_n (lv' := [(0, .int z72), (1, .int 15)]) hx hb dJ6_numberOfTrailingZeros_0f7a4_73 rfl hl (by decide) rfl (fun ls hl => ?_)
            have htz : zTzC z6.toInt z72.toInt (15 : Int32).toInt := zTzC_s 2 htz (by omega) (by omega) (by omega)
            refine lv_iload_n hx hb dJ6_numberOfTrailingZeros_0f7a4_74 rfl (lv_at hl 1 rfl) ?_
            refine lv_iload_n hx hb dJ6_numberOfTrailingZeros_0f7a4_75 rfl (lv_at hl 0 rfl) ?_
            refine lv_iconst (v := 1) hx hb dJ6_numberOfTrailingZeros_0f7a4_76 (by decide) ?_
            refine lv_iushr hx hb dJ6_numberOfTrailingZeros_0f7a4_77 rfl ?_
            refine lv_topi (fun z77 e_z77 => ?_)
            have b_ := zushr1 rfl e_z77 (by omega)
            refine lv_iadd hx hb dJ6_numberOfTrailingZeros_0f7a4_78 ?_
            refine lv_topi (fun z78 e_z78 => ?_)
            have b_ := zadd zk_15 rfl e_z78 (by omega) (by omega)
            refine W.widen (k := 0) (n := 0) (by decide) (by decide) ?_
            have hpost : (0 ≤ z78.toInt ∧ z78.toInt ≤ 32) ∧ (x0.toInt ≠ 0 → z78.toInt ≤ 31) ∧ (zCtz (x0 : Int32) z78.toInt) := ⟨(by first | with_reducible assumption | exact ⟨by omega, by omega⟩), by omega, by first | exact zCtz_i e_z2 e_z5 e_z6 (zTzC_e htz (by omega) (by omega)) (fun q_ => by omega) | exact zCtz_i e_z2 e_z5 e_z6 (fun q_ => by omega) (fun q_ => by rw [e_z15, show z6 = 0 from zeqi.mpr (q_.trans (by decide))]; decide)⟩
            have hP9 : va_P (dC, dI) vwCl [] s.heap := hP
            have hD9 : va_D A [] := hD
            exact W.iret (v := z78) hx hb hr (fun t ht hW => ⟨⟨z78, (fun _ => 0), rfl, hpost, (fun _ => 0), (fun _ => (fun _ => 0)), (fun _ => (fun _ => 0)), by rw [ht]; exact hP9, va_K.moved hW.alike hK, hD9⟩, hS.F ht⟩) hS.2.2 dJ6_numberOfTrailingZeros_0f7a4_79
    · skip
      have b_ := zF_le rfl zk_65536 c_
      refine lv_iinc (v := 17) (lv' := [(1, .int 17), (0, .int z6)]) hx hb dJ6_numberOfTrailingZeros_0f7a4_26 hl (k := 0) rfl (by decide) (by decide) rfl (fun ls hl => ?_)
      refine lv_iload_n hx hb dJ6_numberOfTrailingZeros_0f7a4_29 rfl (lv_at hl 1 rfl) ?_
      refine lv_bipush (v := 16) hx hb dJ6_numberOfTrailingZeros_0f7a4_30 (by decide) ?_
      refine lv_iushr hx hb dJ6_numberOfTrailingZeros_0f7a4_32 rfl ?_
      refine lv_topi (fun z32 e_z32 => ?_)
      have b_ := zushr16 rfl e_z32 (by omega)
      refine lv_istore_n (lv' := [(0, .int z32), (1, .int 17)]) hx hb dJ6_numberOfTrailingZeros_0f7a4_33 rfl hl (by decide) rfl (fun ls hl => ?_)
      have htz : zTzC z6.toInt z32.toInt (17 : Int32).toInt := zTzC_s 16 htz (by omega) (by omega) (by omega)
      refine lv_iload_n hx hb dJ6_numberOfTrailingZeros_0f7a4_34 rfl (lv_at hl 0 rfl) ?_
      refine lv_sipush (v := 256) hx hb dJ6_numberOfTrailingZeros_0f7a4_35 (by decide) ?_
      refine lv_icmp_le (tgt := 49) hx hb dJ6_numberOfTrailingZeros_0f7a4_38 (by decide) (fun c_ => ?_) (fun c_ => ?_)
      · skip
        have b_ := zT_le rfl zk_256 c_
        refine lv_iload_n hx hb dJ6_numberOfTrailingZeros_0f7a4_49 rfl (lv_at hl 0 rfl) ?_
        refine lv_bipush (v := 16) hx hb dJ6_numberOfTrailingZeros_0f7a4_50 (by decide) ?_
        refine lv_icmp_le (tgt := 62) hx hb dJ6_numberOfTrailingZeros_0f7a4_52 (by decide) (fun c_ => ?_) (fun c_ => ?_)
        · skip
          have b_ := zT_le rfl zk_16 c_
          refine lv_iload_n hx hb dJ6_numberOfTrailingZeros_0f7a4_62 rfl (lv_at hl 0 rfl) ?_
          refine lv_iconst (v := 4) hx hb dJ6_numberOfTrailingZeros_0f7a4_63 (by decide) ?_
          refine lv_icmp_le (tgt := 74) hx hb dJ6_numberOfTrailingZeros_0f7a4_64 (by decide) (fun c_ => ?_) (fun c_ => ?_)
          · skip
            have b_ := zT_le rfl zk_4 c_
            refine lv_iload_n hx hb dJ6_numberOfTrailingZeros_0f7a4_74 rfl (lv_at hl 1 rfl) ?_
            refine lv_iload_n hx hb dJ6_numberOfTrailingZeros_0f7a4_75 rfl (lv_at hl 0 rfl) ?_
            refine lv_iconst (v := 1) hx hb dJ6_numberOfTrailingZeros_0f7a4_76 (by decide) ?_
            refine lv_iushr hx hb dJ6_numberOfTrailingZeros_0f7a4_77 rfl ?_
            refine lv_topi (fun z77 e_z77 => ?_)
            have b_ := zushr1 rfl e_z77 (by omega)
            refine lv_iadd hx hb dJ6_numberOfTrailingZeros_0f7a4_78 ?_
            refine lv_topi (fun z78 e_z78 => ?_)
            have b_ := zadd zk_17 rfl e_z78 (by omega) (by omega)
            refine W.widen (k := 0) (n := 0) (by decide) (by decide) ?_
            have hpost : (0 ≤ z78.toInt ∧ z78.toInt ≤ 32) ∧ (x0.toInt ≠ 0 → z78.toInt ≤ 31) ∧ (zCtz (x0 : Int32) z78.toInt) := ⟨(by first | with_reducible assumption | exact ⟨by omega, by omega⟩), by omega, by first | exact zCtz_i e_z2 e_z5 e_z6 (zTzC_e htz (by omega) (by omega)) (fun q_ => by omega) | exact zCtz_i e_z2 e_z5 e_z6 (fun q_ => by omega) (fun q_ => by rw [e_z15, show z6 = 0 from zeqi.mpr (q_.trans (by decide))]; decide)⟩
            have hP9 : va_P (dC, dI) vwCl [] s.heap := hP
            have hD9 : va_D A [] := hD
            exact W.iret (v := z78) hx hb hr (fun t ht hW => ⟨⟨z78, (fun _ => 0), rfl, hpost, (fun _ => 0), (fun _ => (fun _ => 0)), (fun _ => (fun _ => 0)), by rw [ht]; exact hP9, va_K.moved hW.alike hK, hD9⟩, hS.F ht⟩) hS.2.2 dJ6_numberOfTrailingZeros_0f7a4_79
          · skip
            have b_ := zF_le rfl zk_4 c_
            refine lv_iinc (v := 19) (lv' := [(1, .int 19), (0, .int z32)]) hx hb dJ6_numberOfTrailingZeros_0f7a4_67 hl (k := 1) rfl (by decide) (by decide) rfl (fun ls hl => ?_)
            refine lv_iload_n hx hb dJ6_numberOfTrailingZeros_0f7a4_70 rfl (lv_at hl 1 rfl) ?_
            refine lv_iconst (v := 2) hx hb dJ6_numberOfTrailingZeros_0f7a4_71 (by decide) ?_
            refine lv_iushr hx hb dJ6_numberOfTrailingZeros_0f7a4_72 rfl ?_
            refine lv_topi (fun z72 e_z72 => ?_)
            have b_ := zushr2 rfl e_z72 (by omega)
            refine lv_istore_n (lv' := [(0, .int z72), (1, .int 19)]) hx hb dJ6_numberOfTrailingZeros_0f7a4_73 rfl hl (by decide) rfl (fun ls hl => ?_)
            have htz : zTzC z6.toInt z72.toInt (19 : Int32).toInt := zTzC_s 2 htz (by omega) (by omega) (by omega)
            refine lv_iload_n hx hb dJ6_numberOfTrailingZeros_0f7a4_74 rfl (lv_at hl 1 rfl) ?_
            refine lv_iload_n hx hb dJ6_numberOfTrailingZeros_0f7a4_75 rfl (lv_at hl 0 rfl) ?_
            refine lv_iconst (v := 1) hx hb dJ6_numberOfTrailingZeros_0f7a4_76 (by decide) ?_
            refine lv_iushr hx hb dJ6_numberOfTrailingZeros_0f7a4_77 rfl ?_
            refine lv_topi (fun z77 e_z77 => ?_)
            have b_ := zushr1 rfl e_z77 (by omega)
            refine lv_iadd hx hb dJ6_numberOfTrailingZeros_0f7a4_78 ?_
            refine lv_topi (fun z78 e_z78 => ?_)
            have b_ := zadd zk_19 rfl e_z78 (by omega) (by omega)
            refine W.widen (k := 0) (n := 0) (by decide) (by decide) ?_
            have hpost : (0 ≤ z78.toInt ∧ z78.toInt ≤ 32) ∧ (x0.toInt ≠ 0 → z78.toInt ≤ 31) ∧ (zCtz (x0 : Int32) z78.toInt) := ⟨(by first | with_reducible assumption | exact ⟨by omega, by omega⟩), by omega, by first | exact zCtz_i e_z2 e_z5 e_z6 (zTzC_e htz (by omega) (by omega)) (fun q_ => by omega) | exact zCtz_i e_z2 e_z5 e_z6 (fun q_ => by omega) (fun q_ => by rw [e_z15, show z6 = 0 from zeqi.mpr (q_.trans (by decide))]; decide)⟩
            have hP9 : va_P (dC, dI) vwCl [] s.heap := hP
            have hD9 : va_D A [] := hD
            exact W.iret (v := z78) hx hb hr (fun t ht hW => ⟨⟨z78, (fun _ => 0), rfl, hpost, (fun _ => 0), (fun _ => (fun _ => 0)), (fun _ => (fun _ => 0)), by rw [ht]; exact hP9, va_K.moved hW.alike hK, hD9⟩, hS.F ht⟩) hS.2.2 dJ6_numberOfTrailingZeros_0f7a4_79
        · skip
          have b_ := zF_le rfl zk_16 c_
          refine lv_iinc (v := 21) (lv' := [(1, .int 21), (0, .int z32)]) hx hb dJ6_numberOfTrailingZeros_0f7a4_55 hl (k := 1) rfl (by decide) (by decide) rfl (fun ls hl => ?_)
          refine lv_iload_n hx hb dJ6_numberOfTrailingZeros_0f7a4_58 rfl (lv_at hl 1 rfl) ?_
          refine lv_iconst (v := 4) hx hb dJ6_numberOfTrailingZeros_0f7a4_59 (by decide) ?_
          refine lv_iushr hx hb dJ6_numberOfTrailingZeros_0f7a4_60 rfl ?_
          refine lv_topi (fun z60 e_z60 => ?_)
          have b_ := zushr4 rfl e_z60 (by omega)
          refine lv_istore_n (lv' := [(0, .int z60), (1, .int 21)]) hx hb dJ6_numberOfTrailingZeros_0f7a4_61 rfl hl (by decide) rfl (fun ls hl => ?_)
          have htz : zTzC z6.toInt z60.toInt (21 : Int32).toInt := zTzC_s 4 htz (by omega) (by omega) (by omega)
          refine lv_iload_n hx hb dJ6_numberOfTrailingZeros_0f7a4_62 rfl (lv_at hl 0 rfl) ?_
          refine lv_iconst (v := 4) hx hb dJ6_numberOfTrailingZeros_0f7a4_63 (by decide) ?_
          refine lv_icmp_le (tgt := 74) hx hb dJ6_numberOfTrailingZeros_0f7a4_64 (by decide) (fun c_ => ?_) (fun c_ => ?_)
          · skip
            have b_ := zT_le rfl zk_4 c_
            refine lv_iload_n hx hb dJ6_numberOfTrailingZeros_0f7a4_74 rfl (lv_at hl 1 rfl) ?_
            refine lv_iload_n hx hb dJ6_numberOfTrailingZeros_0f7a4_75 rfl (lv_at hl 0 rfl) ?_
            refine lv_iconst (v := 1) hx hb dJ6_numberOfTrailingZeros_0f7a4_76 (by decide) ?_
            refine lv_iushr hx hb dJ6_numberOfTrailingZeros_0f7a4_77 rfl ?_
            refine lv_topi (fun z77 e_z77 => ?_)
            have b_ := zushr1 rfl e_z77 (by omega)
            refine lv_iadd hx hb dJ6_numberOfTrailingZeros_0f7a4_78 ?_
            refine lv_topi (fun z78 e_z78 => ?_)
            have b_ := zadd zk_21 rfl e_z78 (by omega) (by omega)
            refine W.widen (k := 0) (n := 0) (by decide) (by decide) ?_
            have hpost : (0 ≤ z78.toInt ∧ z78.toInt ≤ 32) ∧ (x0.toInt ≠ 0 → z78.toInt ≤ 31) ∧ (zCtz (x0 : Int32) z78.toInt) := ⟨(by first | with_reducible assumption | exact ⟨by omega, by omega⟩), by omega, by first | exact zCtz_i e_z2 e_z5 e_z6 (zTzC_e htz (by omega) (by omega)) (fun q_ => by omega) | exact zCtz_i e_z2 e_z5 e_z6 (fun q_ => by omega) (fun q_ => by rw [e_z15, show z6 = 0 from zeqi.mpr (q_.trans (by decide))]; decide)⟩
            have hP9 : va_P (dC, dI) vwCl [] s.heap := hP
            have hD9 : va_D A [] := hD
            exact W.iret (v := z78) hx hb hr (fun t ht hW => ⟨⟨z78, (fun _ => 0), rfl, hpost, (fun _ => 0), (fun _ => (fun _ => 0)), (fun _ => (fun _ => 0)), by rw [ht]; exact hP9, va_K.moved hW.alike hK, hD9⟩, hS.F ht⟩) hS.2.2 dJ6_numberOfTrailingZeros_0f7a4_79
          · skip
            have b_ := zF_le rfl zk_4 c_
            refine lv_iinc (v := 23) (lv' := [(1, .int 23), (0, .int z60)]) hx hb dJ6_numberOfTrailingZeros_0f7a4_67 hl (k := 1) rfl (by decide) (by decide) rfl (fun ls hl => ?_)
            refine lv_iload_n hx hb dJ6_numberOfTrailingZeros_0f7a4_70 rfl (lv_at hl 1 rfl) ?_
            refine lv_iconst (v := 2) hx hb dJ6_numberOfTrailingZeros_0f7a4_71 (by decide) ?_
            refine lv_iushr hx hb dJ6_numberOfTrailingZeros_0f7a4_72 rfl ?_
            refine lv_topi (fun z72 e_z72 => ?_)
            have b_ := zushr2 rfl e_z72 (by omega)
            refine lv_istore_n (lv' := [(0, .int z72), (1, .int 23)]) hx hb dJ6_numberOfTrailingZeros_0f7a4_73 rfl hl (by decide) rfl (fun ls hl => ?_)
            have htz : zTzC z6.toInt z72.toInt (23 : Int32).toInt := zTzC_s 2 htz (by omega) (by omega) (by omega)
            refine lv_iload_n hx hb dJ6_numberOfTrailingZeros_0f7a4_74 rfl (lv_at hl 1 rfl) ?_
            refine lv_iload_n hx hb dJ6_numberOfTrailingZeros_0f7a4_75 rfl (lv_at hl 0 rfl) ?_
            refine lv_iconst (v := 1) hx hb dJ6_numberOfTrailingZeros_0f7a4_76 (by decide) ?_
            refine lv_iushr hx hb dJ6_numberOfTrailingZeros_0f7a4_77 rfl ?_
            refine lv_topi (fun z77 e_z77 => ?_)
            have b_ := zushr1 rfl e_z77 (by omega)
            refine lv_iadd hx hb dJ6_numberOfTrailingZeros_0f7a4_78 ?_
            refine lv_topi (fun z78 e_z78 => ?_)
            have b_ := zadd zk_23 rfl e_z78 (by omega) (by omega)
            refine W.widen (k := 0) (n := 0) (by decide) (by decide) ?_
            have hpost : (0 ≤ z78.toInt ∧ z78.toInt ≤ 32) ∧ (x0.toInt ≠ 0 → z78.toInt ≤ 31) ∧ (zCtz (x0 : Int32) z78.toInt) := ⟨(by first | with_reducible assumption | exact ⟨by omega, by omega⟩), by omega, by first | exact zCtz_i e_z2 e_z5 e_z6 (zTzC_e htz (by omega) (by omega)) (fun q_ => by omega) | exact zCtz_i e_z2 e_z5 e_z6 (fun q_ => by omega) (fun q_ => by rw [e_z15, show z6 = 0 from zeqi.mpr (q_.trans (by decide))]; decide)⟩
            have hP9 : va_P (dC, dI) vwCl [] s.heap := hP
            have hD9 : va_D A [] := hD
            exact W.iret (v := z78) hx hb hr (fun t ht hW => ⟨⟨z78, (fun _ => 0), rfl, hpost, (fun _ => 0), (fun _ => (fun _ => 0)), (fun _ => (fun _ => 0)), by rw [ht]; exact hP9, va_K.moved hW.alike hK, hD9⟩, hS.F ht⟩) hS.2.2 dJ6_numberOfTrailingZeros_0f7a4_79
      · skip
        have b_ := zF_le rfl zk_256 c_
        refine lv_iinc (v := 25) (lv' := [(1, .int 25), (0, .int z32)]) hx hb dJ6_numberOfTrailingZeros_0f7a4_41 hl (k := 1) rfl (by decide) (by decide) rfl (fun ls hl => ?_)
        refine lv_iload_n hx hb dJ6_numberOfTrailingZeros_0f7a4_44 rfl (lv_at hl 1 rfl) ?_
        refine lv_bipush (v := 8) hx hb dJ6_numberOfTrailingZeros_0f7a4_45 (by decide) ?_
        refine lv_iushr hx hb dJ6_numberOfTrailingZeros_0f7a4_47 rfl ?_
        refine lv_topi (fun z47 e_z47 => ?_)
        have b_ := zushr8 rfl e_z47 (by omega)
        refine lv_istore_n (lv' := [(0, .int z47), (1, .int 25)]) hx hb dJ6_numberOfTrailingZeros_0f7a4_48 rfl hl (by decide) rfl (fun ls hl => ?_)
        have htz : zTzC z6.toInt z47.toInt (25 : Int32).toInt := zTzC_s 8 htz (by omega) (by omega) (by omega)
        refine lv_iload_n hx hb dJ6_numberOfTrailingZeros_0f7a4_49 rfl (lv_at hl 0 rfl) ?_
        refine lv_bipush (v := 16) hx hb dJ6_numberOfTrailingZeros_0f7a4_50 (by decide) ?_
        refine lv_icmp_le (tgt := 62) hx hb dJ6_numberOfTrailingZeros_0f7a4_52 (by decide) (fun c_ => ?_) (fun c_ => ?_)
        · skip
          have b_ := zT_le rfl zk_16 c_
          refine lv_iload_n hx hb dJ6_numberOfTrailingZeros_0f7a4_62 rfl (lv_at hl 0 rfl) ?_
          refine lv_iconst (v := 4) hx hb dJ6_numberOfTrailingZeros_0f7a4_63 (by decide) ?_
          refine lv_icmp_le (tgt := 74) hx hb dJ6_numberOfTrailingZeros_0f7a4_64 (by decide) (fun c_ => ?_) (fun c_ => ?_)
          · skip
            have b_ := zT_le rfl zk_4 c_
            refine lv_iload_n hx hb dJ6_numberOfTrailingZeros_0f7a4_74 rfl (lv_at hl 1 rfl) ?_
            refine lv_iload_n hx hb dJ6_numberOfTrailingZeros_0f7a4_75 rfl (lv_at hl 0 rfl) ?_
            refine lv_iconst (v := 1) hx hb dJ6_numberOfTrailingZeros_0f7a4_76 (by decide) ?_
            refine lv_iushr hx hb dJ6_numberOfTrailingZeros_0f7a4_77 rfl ?_
            refine lv_topi (fun z77 e_z77 => ?_)
            have b_ := zushr1 rfl e_z77 (by omega)
            refine lv_iadd hx hb dJ6_numberOfTrailingZeros_0f7a4_78 ?_
            refine lv_topi (fun z78 e_z78 => ?_)
            have b_ := zadd zk_25 rfl e_z78 (by omega) (by omega)
            refine W.widen (k := 0) (n := 0) (by decide) (by decide) ?_
            have hpost : (0 ≤ z78.toInt ∧ z78.toInt ≤ 32) ∧ (x0.toInt ≠ 0 → z78.toInt ≤ 31) ∧ (zCtz (x0 : Int32) z78.toInt) := ⟨(by first | with_reducible assumption | exact ⟨by omega, by omega⟩), by omega, by first | exact zCtz_i e_z2 e_z5 e_z6 (zTzC_e htz (by omega) (by omega)) (fun q_ => by omega) | exact zCtz_i e_z2 e_z5 e_z6 (fun q_ => by omega) (fun q_ => by rw [e_z15, show z6 = 0 from zeqi.mpr (q_.trans (by decide))]; decide)⟩
            have hP9 : va_P (dC, dI) vwCl [] s.heap := hP
            have hD9 : va_D A [] := hD
            exact W.iret (v := z78) hx hb hr (fun t ht hW => ⟨⟨z78, (fun _ => 0), rfl, hpost, (fun _ => 0), (fun _ => (fun _ => 0)), (fun _ => (fun _ => 0)), by rw [ht]; exact hP9, va_K.moved hW.alike hK, hD9⟩, hS.F ht⟩) hS.2.2 dJ6_numberOfTrailingZeros_0f7a4_79
          · skip
            have b_ := zF_le rfl zk_4 c_
            refine lv_iinc (v := 27) (lv' := [(1, .int 27), (0, .int z47)]) hx hb dJ6_numberOfTrailingZeros_0f7a4_67 hl (k := 1) rfl (by decide) (by decide) rfl (fun ls hl => ?_)
            refine lv_iload_n hx hb dJ6_numberOfTrailingZeros_0f7a4_70 rfl (lv_at hl 1 rfl) ?_
            refine lv_iconst (v := 2) hx hb dJ6_numberOfTrailingZeros_0f7a4_71 (by decide) ?_
            refine lv_iushr hx hb dJ6_numberOfTrailingZeros_0f7a4_72 rfl ?_
            refine lv_topi (fun z72 e_z72 => ?_)
            have b_ := zushr2 rfl e_z72 (by omega)
            refine lv_istore_n (lv' := [(0, .int z72), (1, .int 27)]) hx hb dJ6_numberOfTrailingZeros_0f7a4_73 rfl hl (by decide) rfl (fun ls hl => ?_)
            have htz : zTzC z6.toInt z72.toInt (27 : Int32).toInt := zTzC_s 2 htz (by omega) (by omega) (by omega)
            refine lv_iload_n hx hb dJ6_numberOfTrailingZeros_0f7a4_74 rfl (lv_at hl 1 rfl) ?_
            refine lv_iload_n hx hb dJ6_numberOfTrailingZeros_0f7a4_75 rfl (lv_at hl 0 rfl) ?_
            refine lv_iconst (v := 1) hx hb dJ6_numberOfTrailingZeros_0f7a4_76 (by decide) ?_
            refine lv_iushr hx hb dJ6_numberOfTrailingZeros_0f7a4_77 rfl ?_
            refine lv_topi (fun z77 e_z77 => ?_)
            have b_ := zushr1 rfl e_z77 (by omega)
            refine lv_iadd hx hb dJ6_numberOfTrailingZeros_0f7a4_78 ?_
            refine lv_topi (fun z78 e_z78 => ?_)
            have b_ := zadd zk_27 rfl e_z78 (by omega) (by omega)
            refine W.widen (k := 0) (n := 0) (by decide) (by decide) ?_
            have hpost : (0 ≤ z78.toInt ∧ z78.toInt ≤ 32) ∧ (x0.toInt ≠ 0 → z78.toInt ≤ 31) ∧ (zCtz (x0 : Int32) z78.toInt) := ⟨(by first | with_reducible assumption | exact ⟨by omega, by omega⟩), by omega, by first | exact zCtz_i e_z2 e_z5 e_z6 (zTzC_e htz (by omega) (by omega)) (fun q_ => by omega) | exact zCtz_i e_z2 e_z5 e_z6 (fun q_ => by omega) (fun q_ => by rw [e_z15, show z6 = 0 from zeqi.mpr (q_.trans (by decide))]; decide)⟩
            have hP9 : va_P (dC, dI) vwCl [] s.heap := hP
            have hD9 : va_D A [] := hD
            exact W.iret (v := z78) hx hb hr (fun t ht hW => ⟨⟨z78, (fun _ => 0), rfl, hpost, (fun _ => 0), (fun _ => (fun _ => 0)), (fun _ => (fun _ => 0)), by rw [ht]; exact hP9, va_K.moved hW.alike hK, hD9⟩, hS.F ht⟩) hS.2.2 dJ6_numberOfTrailingZeros_0f7a4_79
        · skip
          have b_ := zF_le rfl zk_16 c_
          refine lv_iinc (v := 29) (lv' := [(1, .int 29), (0, .int z47)]) hx hb dJ6_numberOfTrailingZeros_0f7a4_55 hl (k := 1) rfl (by decide) (by decide) rfl (fun ls hl => ?_)
          refine lv_iload_n hx hb dJ6_numberOfTrailingZeros_0f7a4_58 rfl (lv_at hl 1 rfl) ?_
          refine lv_iconst (v := 4) hx hb dJ6_numberOfTrailingZeros_0f7a4_59 (by decide) ?_
          refine lv_iushr hx hb dJ6_numberOfTrailingZeros_0f7a4_60 rfl ?_
          refine lv_topi (fun z60 e_z60 => ?_)
          have b_ := zushr4 rfl e_z60 (by omega)
          refine lv_istore_n (lv' := [(0, .int z60), (1, .int 29)]) hx hb dJ6_numberOfTrailingZeros_0f7a4_61 rfl hl (by decide) rfl (fun ls hl => ?_)
          have htz : zTzC z6.toInt z60.toInt (29 : Int32).toInt := zTzC_s 4 htz (by omega) (by omega) (by omega)
          refine lv_iload_n hx hb dJ6_numberOfTrailingZeros_0f7a4_62 rfl (lv_at hl 0 rfl) ?_
          refine lv_iconst (v := 4) hx hb dJ6_numberOfTrailingZeros_0f7a4_63 (by decide) ?_
          refine lv_icmp_le (tgt := 74) hx hb dJ6_numberOfTrailingZeros_0f7a4_64 (by decide) (fun c_ => ?_) (fun c_ => ?_)
          · skip
            have b_ := zT_le rfl zk_4 c_
            refine lv_iload_n hx hb dJ6_numberOfTrailingZeros_0f7a4_74 rfl (lv_at hl 1 rfl) ?_
            refine lv_iload_n hx hb dJ6_numberOfTrailingZeros_0f7a4_75 rfl (lv_at hl 0 rfl) ?_
            refine lv_iconst (v := 1) hx hb dJ6_numberOfTrailingZeros_0f7a4_76 (by decide) ?_
            refine lv_iushr hx hb dJ6_numberOfTrailingZeros_0f7a4_77 rfl ?_
            refine lv_topi (fun z77 e_z77 => ?_)
            have b_ := zushr1 rfl e_z77 (by omega)
            refine lv_iadd hx hb dJ6_numberOfTrailingZeros_0f7a4_78 ?_
            refine lv_topi (fun z78 e_z78 => ?_)
            have b_ := zadd zk_29 rfl e_z78 (by omega) (by omega)
            refine W.widen (k := 0) (n := 0) (by decide) (by decide) ?_
            have hpost : (0 ≤ z78.toInt ∧ z78.toInt ≤ 32) ∧ (x0.toInt ≠ 0 → z78.toInt ≤ 31) ∧ (zCtz (x0 : Int32) z78.toInt) := ⟨(by first | with_reducible assumption | exact ⟨by omega, by omega⟩), by omega, by first | exact zCtz_i e_z2 e_z5 e_z6 (zTzC_e htz (by omega) (by omega)) (fun q_ => by omega) | exact zCtz_i e_z2 e_z5 e_z6 (fun q_ => by omega) (fun q_ => by rw [e_z15, show z6 = 0 from zeqi.mpr (q_.trans (by decide))]; decide)⟩
            have hP9 : va_P (dC, dI) vwCl [] s.heap := hP
            have hD9 : va_D A [] := hD
            exact W.iret (v := z78) hx hb hr (fun t ht hW => ⟨⟨z78, (fun _ => 0), rfl, hpost, (fun _ => 0), (fun _ => (fun _ => 0)), (fun _ => (fun _ => 0)), by rw [ht]; exact hP9, va_K.moved hW.alike hK, hD9⟩, hS.F ht⟩) hS.2.2 dJ6_numberOfTrailingZeros_0f7a4_79
          · skip
            have b_ := zF_le rfl zk_4 c_
            refine lv_iinc (v := 31) (lv' := [(1, .int 31), (0, .int z60)]) hx hb dJ6_numberOfTrailingZeros_0f7a4_67 hl (k := 1) rfl (by decide) (by decide) rfl (fun ls hl => ?_)
            refine lv_iload_n hx hb dJ6_numberOfTrailingZeros_0f7a4_70 rfl (lv_at hl 1 rfl) ?_
            refine lv_iconst (v := 2) hx hb dJ6_numberOfTrailingZeros_0f7a4_71 (by decide) ?_
            refine lv_iushr hx hb dJ6_numberOfTrailingZeros_0f7a4_72 rfl ?_
            refine lv_topi (fun z72 e_z72 => ?_)
            have b_ := zushr2 rfl e_z72 (by omega)
            refine lv_istore_n (lv' := [(0, .int z72), (1, .int 31)]) hx hb dJ6_numberOfTrailingZeros_0f7a4_73 rfl hl (by decide) rfl (fun ls hl => ?_)
            have htz : zTzC z6.toInt z72.toInt (31 : Int32).toInt := zTzC_s 2 htz (by omega) (by omega) (by omega)
            refine lv_iload_n hx hb dJ6_numberOfTrailingZeros_0f7a4_74 rfl (lv_at hl 1 rfl) ?_
            refine lv_iload_n hx hb dJ6_numberOfTrailingZeros_0f7a4_75 rfl (lv_at hl 0 rfl) ?_
            refine lv_iconst (v := 1) hx hb dJ6_numberOfTrailingZeros_0f7a4_76 (by decide) ?_
            refine lv_iushr hx hb dJ6_numberOfTrailingZeros_0f7a4_77 rfl ?_
            refine lv_topi (fun z77 e_z77 => ?_)
            have b_ := zushr1 rfl e_z77 (by omega)
            refine lv_iadd hx hb dJ6_numberOfTrailingZeros_0f7a4_78 ?_
            refine lv_topi (fun z78 e_z78 => ?_)
            have b_ := zadd zk_31 rfl e_z78 (by omega) (by omega)
            refine W.widen (k := 0) (n := 0) (by decide) (by decide) ?_
            have hpost : (0 ≤ z78.toInt ∧ z78.toInt ≤ 32) ∧ (x0.toInt ≠ 0 → z78.toInt ≤ 31) ∧ (zCtz (x0 : Int32) z78.toInt) := ⟨(by first | with_reducible assumption | exact ⟨by omega, by omega⟩), by omega, by first | exact zCtz_i e_z2 e_z5 e_z6 (zTzC_e htz (by omega) (by omega)) (fun q_ => by omega) | exact zCtz_i e_z2 e_z5 e_z6 (fun q_ => by omega) (fun q_ => by rw [e_z15, show z6 = 0 from zeqi.mpr (q_.trans (by decide))]; decide)⟩
            have hP9 : va_P (dC, dI) vwCl [] s.heap := hP
            have hD9 : va_D A [] := hD
            exact W.iret (v := z78) hx hb hr (fun t ht hW => ⟨⟨z78, (fun _ => 0), rfl, hpost, (fun _ => 0), (fun _ => (fun _ => 0)), (fun _ => (fun _ => 0)), by rw [ht]; exact hP9, va_K.moved hW.alike hK, hD9⟩, hS.F ht⟩) hS.2.2 dJ6_numberOfTrailingZeros_0f7a4_79
  · skip
    have b_ := zF_gt rfl zk_0 c_
    refine lv_iload_n hx hb dJ6_numberOfTrailingZeros_0f7a4_12 rfl (lv_at hl 0 rfl) ?_
    refine lv_bipush (v := 32) hx hb dJ6_numberOfTrailingZeros_0f7a4_13 (by decide) ?_
    refine lv_iand hx hb dJ6_numberOfTrailingZeros_0f7a4_15 ?_
    refine lv_topi (fun z15 e_z15 => ?_)
    have b_ := zand (x := z6) zk_32 e_z15 (by decide)
    have b_ := zntz e_z2 e_z5 e_z6 e_z15 (by omega)
    refine W.widen (k := 0) (n := 0) (by decide) (by decide) ?_
    have hpost : (0 ≤ z15.toInt ∧ z15.toInt ≤ 32) ∧ (x0.toInt ≠ 0 → z15.toInt ≤ 31) ∧ (zCtz (x0 : Int32) z15.toInt) := ⟨(by first | with_reducible assumption | exact ⟨by omega, by omega⟩), by omega, by first | exact zCtz_i e_z2 e_z5 e_z6 (zTzC_e htz (by omega) (by omega)) (fun q_ => by omega) | exact zCtz_i e_z2 e_z5 e_z6 (fun q_ => by omega) (fun q_ => by rw [e_z15, show z6 = 0 from zeqi.mpr (q_.trans (by decide))]; decide)⟩
    have hP9 : va_P (dC, dI) vwCl [] s.heap := hP
    have hD9 : va_D A [] := hD
    exact W.iret (v := z15) hx hb hr (fun t ht hW => ⟨⟨z15, (fun _ => 0), rfl, hpost, (fun _ => 0), (fun _ => (fun _ => 0)), (fun _ => (fun _ => 0)), by rw [ht]; exact hP9, va_K.moved hW.alike hK, hD9⟩, hS.F ht⟩) hS.2.2 dJ6_numberOfTrailingZeros_0f7a4_16
set_option maxHeartbeats 8000000 in
set_option maxRecDepth 100000 in
theorem sX5_nextFrom_0 (l : Launch) (dC : Nat → ClassId) (dI : Nat → Nat → Nat) (adK adV : Nat → Nat) (h0 : Nat) (h1 : Nat) (k1 : ClassId) (sz : Nat) (f1 : Nat → Int32) (x1 : Int32) : Met l yX5_nextFrom (zw yX5_nextFrom cX5_nextFrom 4 (some .int)) { frames := 1, cells := 0, slots := 0, locals := 21 } (zPc dC dI adK adV [.ref h0, .int x1] sz [(h0, .inr (5, mX5 h1)), (h1, zi k1 26 f1)] [(k1, .int)]) (va_Qi (fun (r : Int32) (u : Nat → Int32) => ((-1) ≤ r.toInt ∧ r.toInt ≤ 832) ∧ (r.toInt ≤ 831) ∧ (zNf f1 x1.toInt r.toInt)) (fun (u : Nat → Int32) (t : State) => ∃ (ww : Nat → Int64) (aa : Nat → Nat → Int32) (bb : Nat → Nat → Int64), va_P (dC, dI) vwCl [(h0, .inr (5, mX5 h1)), (h1, zi k1 26 f1)] t.heap ∧ va_K (dC, dI) vwCl [(k1, .int)] t ∧ va_D (va_A [(h0, .inr (5, mX5 h1)), (h1, zi k1 26 f1)] sz) [(h0, .inr (5, mX5 h1)), (h1, zi k1 26 f1)]) (va_A [(h0, .inr (5, mX5 h1)), (h1, zi k1 26 f1)] sz)) 0 0 (va_A [(h0, .inr (5, mX5 h1)), (h1, zi k1 26 f1)] sz) := by
  refine Met.ofW (cc := cX5_nextFrom) (maxL := 4) (ret := (some .int)) (by decide) rfl ?_
  intro p e s m args below meth c s₁ B hml hv
  obtain ⟨rfl, hsz, hP, hK, hD0, hE, hZ⟩ := hv
  have hx := B.exec
  have hb := B.bytes
  have hr := B.returns
  have hG : ∀ w ∈ zG, w.before _ s = true := fun w h => atoms_spec (ws := (zw yX5_nextFrom cX5_nextFrom 4 (some .int))) B.pre w (List.mem_cons_of_mem _ h)
  have hown : s.vm.findClass RX5 = some m.cls := findClass_of_methodNamed B.named
  have hlocks := B.notSynchronized

  subst hsz
  have hD := hD0.self (sz := s.heap.size)
  generalize hAe : va_A [(h0, .inr (5, mX5 h1)), (h1, zi k1 26 f1)] s.heap.size = A at hD hZ ⊢
  have hA : ∀ q : Nat, s.heap.size ≤ q → A q := fun q h => by rw [← hAe]; exact Or.inr h
  have hS : va_S A s.heap s.heap [] := va_S.rf
  have hl := lv_entry ([.ref h0, .int x1]) (n := 4) (Nat.le_of_ble_eq_true rfl)
  rw [lg_entry_eq]
  generalize (lg_sl ([.ref h0, .int x1]) ++ List.replicate (4 - (lg_sl ([.ref h0, .int x1])).length) Slot.unset).toArray = ls at hl ⊢
  have hl : lv_has ls 4 [(0, .ref h0), (1, .int x1)] := hl
  have b_ := zk_m1
  refine lv_iload_n hx hb dX5_nextFrom_0 rfl (lv_at hl 1 rfl) ?_
  have b_ : -2147483648 ≤ x1.toInt ∧ x1.toInt ≤ 2147483647 := ⟨zlo _, zhi _⟩
  refine lv_if_lt (tgt := 11) hx hb dX5_nextFrom_1 (by decide) (fun c_ => ?_) (fun c_ => ?_)
  · skip
    have b_ := zT_lt rfl zk_0 c_
    refine lv_iconst (v := (-1)) hx hb dX5_nextFrom_11 (by decide) ?_
    refine W.widen (k := 0) (n := 0) (by decide) (by decide) ?_
    have hpost : ((-1) ≤ ((-1) : Int32).toInt ∧ ((-1) : Int32).toInt ≤ 832) ∧ (((-1) : Int32).toInt ≤ 831) ∧ (zNf f1 x1.toInt ((-1) : Int32).toInt) := ⟨(by first | with_reducible assumption | exact ⟨by omega, by omega⟩), by omega, by first | exact zNf_y hI35_0 (by omega) (by omega) (by omega) (Or.inl ⟨by omega, rfl⟩) (by omega) hX65_1 (by omega) | exact zNf_y hI35_0 (by omega) (by omega) (by omega) (Or.inr ⟨by omega, e_z54⟩) (by omega) hX65_1 (by omega) | exact zNf_e hI35_0 (by omega) (by decide) | exact zNf_o (by omega) (by decide)⟩
    have hP9 : va_P (dC, dI) vwCl [(h0, .inr (5, mX5 h1)), (h1, zi k1 26 f1)] s.heap := hP
    have hD9 : va_D A [(h0, .inr (5, mX5 h1)), (h1, zi k1 26 f1)] := hD
    exact W.iret (v := (-1)) hx hb hr (fun t ht hW => ⟨⟨(-1), (fun _ => 0), rfl, hpost, (fun _ => 0), (fun _ => (fun _ => 0)), (fun _ => (fun _ => 0)), by rw [ht]; exact hP9, va_K.moved hW.alike hK, hD9⟩, hS.F ht⟩) hS.2.2 dX5_nextFrom_12
  · skip
    have b_ := zF_lt rfl zk_0 c_
    refine lv_iload_n hx hb dX5_nextFrom_4 rfl (lv_at hl 1 rfl) ?_
    refine lv_sipush (v := 832) hx hb dX5_nextFrom_5 (by decide) ?_
    refine lv_icmp_lt (tgt := 13) hx hb dX5_nextFrom_8 (by decide) (fun c_ => ?_) (fun c_ => ?_)
    · skip
      have b_ := zT_lt rfl zk_832 c_
      refine lv_aload_n hx hb dX5_nextFrom_13 rfl (lv_at hl 0 rfl) ?_
      refine va_get (D := (dC, dI)) (ci := 5) (v := .ref h1) (C := RX5) (T := TX5) (N := 1) hx hb hG zuX5 hown hK hP 0 rfl rfl 0 (by decide) (hG _ zv458) (fun _ h9 => h9) rfl dX5_nextFrom_14 ?_
      refine lv_iload_n hx hb dX5_nextFrom_17 rfl (lv_at hl 1 rfl) ?_
      refine lv_bipush (v := 32) hx hb dX5_nextFrom_18 (by decide) ?_
      refine lv_idiv hx hb dX5_nextFrom_20 (by decide) ?_
      refine lv_topi (fun z20 e_z20 => ?_)
      have b_ := zdiv rfl zk_32 e_z20 (by omega) (by decide)
      refine va_iald hx hb hK hP 1 0 rfl rfl (zin_lit ⟨by omega, by omega⟩) dX5_nextFrom_21 ?_
      refine lv_topi (fun z21 e_z21 => ?_)
      refine lv_iconst (v := (-1)) hx hb dX5_nextFrom_22 (by decide) ?_
      refine lv_iload_n hx hb dX5_nextFrom_23 rfl (lv_at hl 1 rfl) ?_
      refine lv_bipush (v := 32) hx hb dX5_nextFrom_24 (by decide) ?_
      refine lv_irem hx hb dX5_nextFrom_26 (by decide) ?_
      refine lv_topi (fun z26 e_z26 => ?_)
      have b_ := zrem rfl zk_32 e_z26 (by omega) (by decide)
      refine lv_ishl hx hb dX5_nextFrom_27 ?_
      refine lv_topi (fun z27 e_z27 => ?_)
      have b_ : -2147483648 ≤ z21.toInt ∧ z21.toInt ≤ 2147483647 := ⟨zlo _, zhi _⟩
      have b_ : -2147483648 ≤ z27.toInt ∧ z27.toInt ≤ 2147483647 := ⟨zlo _, zhi _⟩
      refine lv_iand hx hb dX5_nextFrom_28 ?_
      refine lv_topi (fun z28 e_z28 => ?_)
      refine lv_istore_n (lv' := [(2, .int z28), (0, .ref h0), (1, .int x1)]) hx hb dX5_nextFrom_29 rfl hl (by decide) rfl (fun ls hl => ?_)
      refine lv_iload_n hx hb dX5_nextFrom_30 rfl (lv_at hl 2 rfl) ?_
      refine lv_bipush (v := 32) hx hb dX5_nextFrom_31 (by decide) ?_
      refine lv_idiv hx hb dX5_nextFrom_33 (by decide) ?_
      refine lv_topi (fun z33 e_z33 => ?_)
      have b_ := zdiv rfl zk_32 e_z33 (by omega) (by decide)
      refine lv_istore_n (lv' := [(3, .int z33), (2, .int z28), (0, .ref h0), (1, .int x1)]) hx hb dX5_nextFrom_34 rfl hl (by decide) rfl (fun ls hl => ?_)
      refine zcutL (fun u35_ => (26 - (u35_ 1).toInt).toNat) (fun H locs ls u35_ w35_ a35_ b35_ => va_P (dC, dI) vwCl [(h0, .inr (5, mX5 h1)), (h1, zi k1 26 f1)] H ∧ va_D A [(h0, .inr (5, mX5 h1)), (h1, zi k1 26 f1)] ∧ va_S A s.heap H locs ∧ lv_has ls 4 [(0, .ref h0), (1, .int x1), (2, .int (u35_ 0)), (3, .int (u35_ 1))] ∧ (0 ≤ (u35_ 1).toInt ∧ (u35_ 1).toInt ≤ 26) ∧ (zNi f1 x1.toInt ((u35_ 0) : Int32) (u35_ 1).toInt) ∧ (x1.toInt / 32 ≤ (u35_ 1).toInt)) (fun ls u35_ w35_ => F0 m 35 ls []) 0 0 ?_ (fun hJ35 => ?_)
      · skip
        intro H locs ls u35_ w35_ a35_ b35_ hc hJ35
        obtain ⟨hP, hD, hS, hl, b_, hI35_0, b_⟩ := hc
        refine lv_iload_n hx hb dX5_nextFrom_35 rfl (lv_at hl 3 rfl) ?_
        refine lv_bipush (v := 26) hx hb dX5_nextFrom_36 (by decide) ?_
        refine lv_icmp_ge (tgt := 76) hx hb dX5_nextFrom_38 (by decide) (fun c_ => ?_) (fun c_ => ?_)
        · skip
          have b_ := zT_ge rfl zk_26 c_
          refine lv_iconst (v := (-1)) hx hb dX5_nextFrom_76 (by decide) ?_
          refine W.widen (k := 0) (n := 0) (by decide) (by decide) ?_
          have hpost : ((-1) ≤ ((-1) : Int32).toInt ∧ ((-1) : Int32).toInt ≤ 832) ∧ (((-1) : Int32).toInt ≤ 831) ∧ (zNf f1 x1.toInt ((-1) : Int32).toInt) := ⟨(by first | with_reducible assumption | exact ⟨by omega, by omega⟩), by omega, by first | exact zNf_y hI35_0 (by omega) (by omega) (by omega) (Or.inl ⟨by omega, rfl⟩) (by omega) hX65_1 (by omega) | exact zNf_y hI35_0 (by omega) (by omega) (by omega) (Or.inr ⟨by omega, e_z54⟩) (by omega) hX65_1 (by omega) | exact zNf_e hI35_0 (by omega) (by decide) | exact zNf_o (by omega) (by decide)⟩
          have hP9 : va_P (dC, dI) vwCl [(h0, .inr (5, mX5 h1)), (h1, zi k1 26 f1)] H := hP
          have hD9 : va_D A [(h0, .inr (5, mX5 h1)), (h1, zi k1 26 f1)] := hD
          exact W.iret (v := (-1)) hx hb hr (fun t ht hW => ⟨⟨(-1), (fun _ => 0), rfl, hpost, (fun _ => 0), (fun _ => (fun _ => 0)), (fun _ => (fun _ => 0)), by rw [ht]; exact hP9, va_K.moved hW.alike hK, hD9⟩, hS.F ht⟩) hS.2.2 dX5_nextFrom_77
        · skip
          have b_ := zF_ge rfl zk_26 c_
          refine lv_iload_n hx hb dX5_nextFrom_41 rfl (lv_at hl 3 rfl) ?_
          refine lv_iload_n hx hb dX5_nextFrom_42 rfl (lv_at hl 1 rfl) ?_
          refine lv_bipush (v := 32) hx hb dX5_nextFrom_43 (by decide) ?_
          refine lv_idiv hx hb dX5_nextFrom_45 (by decide) ?_
          refine lv_topi (fun z45 e_z45 => ?_)
          have b_ := zdiv rfl zk_32 e_z45 (by omega) (by decide)
          refine lv_icmp_le (tgt := 56) hx hb dX5_nextFrom_46 (by decide) (fun c_ => ?_) (fun c_ => ?_)
          · skip
            have b_ := zT_le rfl rfl c_
            refine lv_iload_n hx hb dX5_nextFrom_56 rfl (lv_at hl 2 rfl) ?_
            have b_ : -2147483648 ≤ (u35_ 0).toInt ∧ (u35_ 0).toInt ≤ 2147483647 := ⟨zlo _, zhi _⟩
            refine lv_if_eq (tgt := 70) hx hb dX5_nextFrom_57 (by decide) (fun c_ => ?_) (fun c_ => ?_)
            · skip
              have b_ := zT_eq rfl zk_0 c_
              obtain ⟨z70, e_z70⟩ : ∃ z : Int32, z = (u35_ 1) + Int32.ofInt 1 := ⟨_, rfl⟩
              have b_ := zadd (x := (u35_ 1)) (y := Int32.ofInt 1) rfl (show (Int32.ofInt 1).toInt = 1 from by decide) e_z70 (by omega) (by omega)
              refine lv_iinc (v := z70) (lv' := [(3, .int z70), (0, .ref h0), (1, .int x1), (2, .int (u35_ 0))]) hx hb dX5_nextFrom_70 hl (k := 3) rfl e_z70.symm (by decide) rfl (fun ls hl => ?_)
              have hni : zNi f1 x1.toInt ((u35_ 0) : Int32) z70.toInt := zNi_z hI35_0 (by omega) (by omega) (Or.inl ⟨by omega, rfl⟩) (by omega) (by omega)
              refine lv_goto (tgt := 35) hx hb dX5_nextFrom_73 (by decide) ?_
              have hc : va_P (dC, dI) vwCl [(h0, .inr (5, mX5 h1)), (h1, zi k1 26 f1)] H ∧ va_D A [(h0, .inr (5, mX5 h1)), (h1, zi k1 26 f1)] ∧ va_S A s.heap H locs ∧ lv_has ls 4 [(0, .ref h0), (1, .int x1), (2, .int (u35_ 0)), (3, .int z70)] ∧ (0 ≤ z70.toInt ∧ z70.toInt ≤ 26) ∧ (zNi f1 x1.toInt ((u35_ 0) : Int32) z70.toInt) ∧ (x1.toInt / 32 ≤ z70.toInt) := ⟨hP, hD, hS, lv_sub hl [1, 2, 3, 0] rfl, (by first | with_reducible assumption | exact ⟨by omega, by omega⟩), by first | exact hni | exact zNi_0 (by omega) (by omega) (by omega) e_z21 e_z27 e_z28, by omega⟩
              exact hJ35 H locs ls (fun i => ([(u35_ 0), z70] : List (Int32)).getD i 0) (fun _ => 0) (fun _ => (fun _ => 0)) (fun _ => (fun _ => 0)) hc (show (26 - z70.toInt).toNat < (26 - (u35_ 1).toInt).toNat from by omega)
            · skip
              have b_ := zF_eq rfl zk_0 c_
              refine lv_iload_n hx hb dX5_nextFrom_60 rfl (lv_at hl 3 rfl) ?_
              refine lv_bipush (v := 32) hx hb dX5_nextFrom_61 (by decide) ?_
              refine lv_imul hx hb dX5_nextFrom_63 ?_
              refine lv_topi (fun z63 e_z63 => ?_)
              have b_ := zmul rfl zk_32 e_z63 (by omega) (by omega)
              refine lv_iload_n hx hb dX5_nextFrom_64 rfl (lv_at hl 2 rfl) ?_
              have hPc := hP.sub (ws' := []) [] rfl
              have hDc := hD.sub (ws' := []) [] (by decide) rfl
              have hKc := hK.sub (tys' := []) [] rfl
              have hFc := va_free (wc := []) hD hS hA [] rfl
              refine va_calli (va_runS (As := [.int (u35_ 0)]) (rest := [.int z63]) ⟨hx, hb, hml, hown, hG⟩ (sJ6_numberOfTrailingZeros_0f7a4_0 l dC dI adK adV H.size (u35_ 0)) (va_cwS 1 hG (zgS zv1318 zv1319 zv151 zv1320) rfl rfl rfl (by decide +kernel) ⟨Nat.le_of_ble_eq_true rfl, Nat.le_of_ble_eq_true rfl⟩) ⟨zPc_blind, zPc_pre hPc hKc hDc hE hS hFc hZ⟩ rfl rfl hl.1 rfl (lv_room (Nat.le_of_ble_eq_true rfl)) dX5_nextFrom_65 ⟨Nat.le_of_ble_eq_true rfl, Nat.le_of_ble_eq_true rfl⟩) hS (fun q _ h => hFc q h) hFc (fun r65_ u65_ t H1 locs ht hvm hw hB hz1 hk1 hS => ?_)
              replace hw : (0 ≤ r65_.toInt ∧ r65_.toInt ≤ 32) ∧ ((u35_ 0).toInt ≠ 0 → r65_.toInt ≤ 31) ∧ (zCtz ((u35_ 0) : Int32) r65_.toInt) := hw
              obtain ⟨b_, hX65_0, hX65_1⟩ := hw
              obtain ⟨w65_, a65_, b65_, hP1, hK1, hD1⟩ := hB
              rw [ht] at hP1
              obtain ⟨hP, hD⟩ := va_join (wr := [(h0, .inr (5, mX5 h1)), (h1, zi k1 26 f1)]) (w1 := []) hP hD [] [0, 1] rfl rfl (by decide) (by decide) hk1 hFc hP1 hD1
              have hP : va_P (dC, dI) vwCl [(h0, .inr (5, mX5 h1)), (h1, zi k1 26 f1)] H1 := hP.sub [0, 1] rfl
              have hD : va_D A [(h0, .inr (5, mX5 h1)), (h1, zi k1 26 f1)] := hD.sub [0, 1] (by decide) rfl
              generalize H1 = H at hP hS ⊢
              clear hz1
              refine lv_iadd hx hb dX5_nextFrom_68 ?_
              refine lv_topi (fun z68 e_z68 => ?_)
              have b_ := zadd rfl rfl e_z68 (by omega) (by omega)
              refine W.widen (k := 0) (n := 0) (by decide) (by decide) ?_
              have hpost : ((-1) ≤ z68.toInt ∧ z68.toInt ≤ 832) ∧ (z68.toInt ≤ 831) ∧ (zNf f1 x1.toInt z68.toInt) := ⟨(by first | with_reducible assumption | exact ⟨by omega, by omega⟩), by omega, by first | exact zNf_y hI35_0 (by omega) (by omega) (by omega) (Or.inl ⟨by omega, rfl⟩) (by omega) hX65_1 (by omega) | exact zNf_y hI35_0 (by omega) (by omega) (by omega) (Or.inr ⟨by omega, e_z54⟩) (by omega) hX65_1 (by omega) | exact zNf_e hI35_0 (by omega) (by decide) | exact zNf_o (by omega) (by decide)⟩
              have hP9 : va_P (dC, dI) vwCl [(h0, .inr (5, mX5 h1)), (h1, zi k1 26 f1)] H := hP
              have hD9 : va_D A [(h0, .inr (5, mX5 h1)), (h1, zi k1 26 f1)] := hD
              exact W.iret (v := z68) hx hb hr (fun t ht hW => ⟨⟨z68, (fun _ => 0), rfl, hpost, (fun _ => 0), (fun _ => (fun _ => 0)), (fun _ => (fun _ => 0)), by rw [ht]; exact hP9, va_K.moved hW.alike hK, hD9⟩, hS.F ht⟩) hS.2.2 dX5_nextFrom_69
          · skip
            have b_ := zF_le rfl rfl c_
            refine lv_aload_n hx hb dX5_nextFrom_49 rfl (lv_at hl 0 rfl) ?_
            refine va_get (D := (dC, dI)) (ci := 5) (v := .ref h1) (C := RX5) (T := TX5) (N := 1) hx hb hG zuX5 hown hK hP 0 rfl rfl 0 (by decide) (hG _ zv458) (fun _ h9 => h9) rfl dX5_nextFrom_50 ?_
            refine lv_iload_n hx hb dX5_nextFrom_53 rfl (lv_at hl 3 rfl) ?_
            refine va_iald hx hb hK hP 1 0 rfl rfl (zin_lit ⟨by omega, by omega⟩) dX5_nextFrom_54 ?_
            refine lv_topi (fun z54 e_z54 => ?_)
            refine lv_istore_n (lv' := [(2, .int z54), (0, .ref h0), (1, .int x1), (3, .int (u35_ 1))]) hx hb dX5_nextFrom_55 rfl hl (by decide) rfl (fun ls hl => ?_)
            refine lv_iload_n hx hb dX5_nextFrom_56 rfl (lv_at hl 0 rfl) ?_
            have b_ : -2147483648 ≤ z54.toInt ∧ z54.toInt ≤ 2147483647 := ⟨zlo _, zhi _⟩
            refine lv_if_eq (tgt := 70) hx hb dX5_nextFrom_57 (by decide) (fun c_ => ?_) (fun c_ => ?_)
            · skip
              have b_ := zT_eq rfl zk_0 c_
              obtain ⟨z70, e_z70⟩ : ∃ z : Int32, z = (u35_ 1) + Int32.ofInt 1 := ⟨_, rfl⟩
              have b_ := zadd (x := (u35_ 1)) (y := Int32.ofInt 1) rfl (show (Int32.ofInt 1).toInt = 1 from by decide) e_z70 (by omega) (by omega)
              refine lv_iinc (v := z70) (lv' := [(3, .int z70), (2, .int z54), (0, .ref h0), (1, .int x1)]) hx hb dX5_nextFrom_70 hl (k := 3) rfl e_z70.symm (by decide) rfl (fun ls hl => ?_)
              have hni : zNi f1 x1.toInt (z54 : Int32) z70.toInt := zNi_z hI35_0 (by omega) (by omega) (Or.inr ⟨by omega, e_z54⟩) (by omega) (by omega)
              refine lv_goto (tgt := 35) hx hb dX5_nextFrom_73 (by decide) ?_
              have hc : va_P (dC, dI) vwCl [(h0, .inr (5, mX5 h1)), (h1, zi k1 26 f1)] H ∧ va_D A [(h0, .inr (5, mX5 h1)), (h1, zi k1 26 f1)] ∧ va_S A s.heap H locs ∧ lv_has ls 4 [(0, .ref h0), (1, .int x1), (2, .int z54), (3, .int z70)] ∧ (0 ≤ z70.toInt ∧ z70.toInt ≤ 26) ∧ (zNi f1 x1.toInt (z54 : Int32) z70.toInt) ∧ (x1.toInt / 32 ≤ z70.toInt) := ⟨hP, hD, hS, lv_sub hl [2, 3, 1, 0] rfl, (by first | with_reducible assumption | exact ⟨by omega, by omega⟩), by first | exact hni | exact zNi_0 (by omega) (by omega) (by omega) e_z21 e_z27 e_z28, by omega⟩
              exact hJ35 H locs ls (fun i => ([z54, z70] : List (Int32)).getD i 0) (fun _ => 0) (fun _ => (fun _ => 0)) (fun _ => (fun _ => 0)) hc (show (26 - z70.toInt).toNat < (26 - (u35_ 1).toInt).toNat from by omega)
            · skip
              have b_ := zF_eq rfl zk_0 c_
              refine lv_iload_n hx hb dX5_nextFrom_60 rfl (lv_at hl 3 rfl) ?_
              refine lv_bipush (v := 32) hx hb dX5_nextFrom_61 (by decide) ?_
              refine lv_imul hx hb dX5_nextFrom_63 ?_
              refine lv_topi (fun z63 e_z63 => ?_)
              have b_ := zmul rfl zk_32 e_z63 (by omega) (by omega)
              refine lv_iload_n hx hb dX5_nextFrom_64 rfl (lv_at hl 0 rfl) ?_
              have hPc := hP.sub (ws' := []) [] rfl
              have hDc := hD.sub (ws' := []) [] (by decide) rfl
              have hKc := hK.sub (tys' := []) [] rfl
              have hFc := va_free (wc := []) hD hS hA [] rfl
              refine va_calli (va_runS (As := [.int z54]) (rest := [.int z63]) ⟨hx, hb, hml, hown, hG⟩ (sJ6_numberOfTrailingZeros_0f7a4_0 l dC dI adK adV H.size z54) (va_cwS 1 hG (zgS zv1318 zv1319 zv151 zv1320) rfl rfl rfl (by decide +kernel) ⟨Nat.le_of_ble_eq_true rfl, Nat.le_of_ble_eq_true rfl⟩) ⟨zPc_blind, zPc_pre hPc hKc hDc hE hS hFc hZ⟩ rfl rfl hl.1 rfl (lv_room (Nat.le_of_ble_eq_true rfl)) dX5_nextFrom_65 ⟨Nat.le_of_ble_eq_true rfl, Nat.le_of_ble_eq_true rfl⟩) hS (fun q _ h => hFc q h) hFc (fun r65_ u65_ t H1 locs ht hvm hw hB hz1 hk1 hS => ?_)
              replace hw : (0 ≤ r65_.toInt ∧ r65_.toInt ≤ 32) ∧ (z54.toInt ≠ 0 → r65_.toInt ≤ 31) ∧ (zCtz (z54 : Int32) r65_.toInt) := hw
              obtain ⟨b_, hX65_0, hX65_1⟩ := hw
              obtain ⟨w65_, a65_, b65_, hP1, hK1, hD1⟩ := hB
              rw [ht] at hP1
              obtain ⟨hP, hD⟩ := va_join (wr := [(h0, .inr (5, mX5 h1)), (h1, zi k1 26 f1)]) (w1 := []) hP hD [] [0, 1] rfl rfl (by decide) (by decide) hk1 hFc hP1 hD1
              have hP : va_P (dC, dI) vwCl [(h0, .inr (5, mX5 h1)), (h1, zi k1 26 f1)] H1 := hP.sub [0, 1] rfl
              have hD : va_D A [(h0, .inr (5, mX5 h1)), (h1, zi k1 26 f1)] := hD.sub [0, 1] (by decide) rfl
              generalize H1 = H at hP hS ⊢
              clear hz1
              refine lv_iadd hx hb dX5_nextFrom_68 ?_
              refine lv_topi (fun z68 e_z68 => ?_)
              have b_ := zadd rfl rfl e_z68 (by omega) (by omega)
              refine W.widen (k := 0) (n := 0) (by decide) (by decide) ?_
              have hpost : ((-1) ≤ z68.toInt ∧ z68.toInt ≤ 832) ∧ (z68.toInt ≤ 831) ∧ (zNf f1 x1.toInt z68.toInt) := ⟨(by first | with_reducible assumption | exact ⟨by omega, by omega⟩), by omega, by first | exact zNf_y hI35_0 (by omega) (by omega) (by omega) (Or.inl ⟨by omega, rfl⟩) (by omega) hX65_1 (by omega) | exact zNf_y hI35_0 (by omega) (by omega) (by omega) (Or.inr ⟨by omega, e_z54⟩) (by omega) hX65_1 (by omega) | exact zNf_e hI35_0 (by omega) (by decide) | exact zNf_o (by omega) (by decide)⟩
              have hP9 : va_P (dC, dI) vwCl [(h0, .inr (5, mX5 h1)), (h1, zi k1 26 f1)] H := hP
              have hD9 : va_D A [(h0, .inr (5, mX5 h1)), (h1, zi k1 26 f1)] := hD
              exact W.iret (v := z68) hx hb hr (fun t ht hW => ⟨⟨z68, (fun _ => 0), rfl, hpost, (fun _ => 0), (fun _ => (fun _ => 0)), (fun _ => (fun _ => 0)), by rw [ht]; exact hP9, va_K.moved hW.alike hK, hD9⟩, hS.F ht⟩) hS.2.2 dX5_nextFrom_69
      · skip
        have b_ : -2147483648 ≤ z28.toInt ∧ z28.toInt ≤ 2147483647 := ⟨zlo _, zhi _⟩
        have hc : va_P (dC, dI) vwCl [(h0, .inr (5, mX5 h1)), (h1, zi k1 26 f1)] s.heap ∧ va_D A [(h0, .inr (5, mX5 h1)), (h1, zi k1 26 f1)] ∧ va_S A s.heap s.heap [] ∧ lv_has ls 4 [(0, .ref h0), (1, .int x1), (2, .int z28), (3, .int z33)] ∧ (0 ≤ z33.toInt ∧ z33.toInt ≤ 26) ∧ (zNi f1 x1.toInt (z28 : Int32) z33.toInt) ∧ (x1.toInt / 32 ≤ z33.toInt) := ⟨hP, hD, hS, lv_sub hl [2, 3, 1, 0] rfl, (by first | with_reducible assumption | exact ⟨by omega, by omega⟩), by first | exact hni | exact zNi_0 (by omega) (by omega) (by omega) e_z21 e_z27 e_z28, by omega⟩
        exact hJ35 s.heap [] ls (fun i => ([z28, z33] : List (Int32)).getD i 0) (fun _ => 0) (fun _ => (fun _ => 0)) (fun _ => (fun _ => 0)) hc
    · skip
      have b_ := zF_lt rfl zk_832 c_
      refine lv_iconst (v := (-1)) hx hb dX5_nextFrom_11 (by decide) ?_
      refine W.widen (k := 0) (n := 0) (by decide) (by decide) ?_
      have hpost : ((-1) ≤ ((-1) : Int32).toInt ∧ ((-1) : Int32).toInt ≤ 832) ∧ (((-1) : Int32).toInt ≤ 831) ∧ (zNf f1 x1.toInt ((-1) : Int32).toInt) := ⟨(by first | with_reducible assumption | exact ⟨by omega, by omega⟩), by omega, by first | exact zNf_y hI35_0 (by omega) (by omega) (by omega) (Or.inl ⟨by omega, rfl⟩) (by omega) hX65_1 (by omega) | exact zNf_y hI35_0 (by omega) (by omega) (by omega) (Or.inr ⟨by omega, e_z54⟩) (by omega) hX65_1 (by omega) | exact zNf_e hI35_0 (by omega) (by decide) | exact zNf_o (by omega) (by decide)⟩
      have hP9 : va_P (dC, dI) vwCl [(h0, .inr (5, mX5 h1)), (h1, zi k1 26 f1)] s.heap := hP
      have hD9 : va_D A [(h0, .inr (5, mX5 h1)), (h1, zi k1 26 f1)] := hD
      exact W.iret (v := (-1)) hx hb hr (fun t ht hW => ⟨⟨(-1), (fun _ => 0), rfl, hpost, (fun _ => 0), (fun _ => (fun _ => 0)), (fun _ => (fun _ => 0)), by rw [ht]; exact hP9, va_K.moved hW.alike hK, hD9⟩, hS.F ht⟩) hS.2.2 dX5_nextFrom_12
set_option maxHeartbeats 8000000 in
set_option maxRecDepth 100000 in
theorem sX5_isNear_0 (l : Launch) (dC : Nat → ClassId) (dI : Nat → Nat → Nat) (adK adV : Nat → Nat) (h0 : Nat) (h1 : Nat) (h2 : Nat) (h3 : Nat) (k1 : ClassId) (k3 : ClassId) (sz : Nat) (f1 : Nat → Int32) (f3 : Nat → Int32) (x2 : Int32) (hx2 : (-999) ≤ x2.toInt ∧ x2.toInt ≤ 999) : Met l yX5_isNear (zw yX5_isNear cX5_isNear 8 (some .boolean)) { frames := 2, cells := 0, slots := 0, locals := 44 } (zPc dC dI adK adV [.ref h0, .ref h2, .int x2] sz [(h0, .inr (5, mX5 h1)), (h1, zi k1 26 f1), (h2, .inr (5, mX5 h3)), (h3, zi k3 26 f3)] [(k1, .int), (k3, .int)]) (va_Qi (fun (r : Int32) (u : Nat → Int32) => (0 ≤ r.toInt ∧ r.toInt ≤ 1) ∧ (zNr f1 f3 x2.toInt r.toInt)) (fun (u : Nat → Int32) (t : State) => ∃ (ww : Nat → Int64) (aa : Nat → Nat → Int32) (bb : Nat → Nat → Int64), va_P (dC, dI) vwCl [(h0, .inr (5, mX5 h1)), (h1, zi k1 26 f1), (h2, .inr (5, mX5 h3)), (h3, zi k3 26 f3)] t.heap ∧ va_K (dC, dI) vwCl [(k1, .int), (k3, .int)] t ∧ va_D (va_A [(h0, .inr (5, mX5 h1)), (h1, zi k1 26 f1), (h2, .inr (5, mX5 h3)), (h3, zi k3 26 f3)] sz) [(h0, .inr (5, mX5 h1)), (h1, zi k1 26 f1), (h2, .inr (5, mX5 h3)), (h3, zi k3 26 f3)]) (va_A [(h0, .inr (5, mX5 h1)), (h1, zi k1 26 f1), (h2, .inr (5, mX5 h3)), (h3, zi k3 26 f3)] sz)) 0 0 (va_A [(h0, .inr (5, mX5 h1)), (h1, zi k1 26 f1), (h2, .inr (5, mX5 h3)), (h3, zi k3 26 f3)] sz) := by
  refine Met.ofW (cc := cX5_isNear) (maxL := 8) (ret := (some .boolean)) (by decide) rfl ?_
  intro p e s m args below meth c s₁ B hml hv
  obtain ⟨rfl, hsz, hP, hK, hD0, hE, hZ⟩ := hv
  have hx := B.exec
  have hb := B.bytes
  have hr := B.returns
  have hG : ∀ w ∈ zG, w.before _ s = true := fun w h => atoms_spec (ws := (zw yX5_isNear cX5_isNear 8 (some .boolean))) B.pre w (List.mem_cons_of_mem _ h)
  have hown : s.vm.findClass RX5 = some m.cls := findClass_of_methodNamed B.named
  have hlocks := B.notSynchronized

  subst hsz
  have hD := hD0.self (sz := s.heap.size)
  generalize hAe : va_A [(h0, .inr (5, mX5 h1)), (h1, zi k1 26 f1), (h2, .inr (5, mX5 h3)), (h3, zi k3 26 f3)] s.heap.size = A at hD hZ ⊢
  have hA : ∀ q : Nat, s.heap.size ≤ q → A q := fun q h => by rw [← hAe]; exact Or.inr h
  have hS : va_S A s.heap s.heap [] := va_S.rf
  have hl := lv_entry ([.ref h0, .ref h2, .int x2]) (n := 8) (Nat.le_of_ble_eq_true rfl)
  rw [lg_entry_eq]
  generalize (lg_sl ([.ref h0, .ref h2, .int x2]) ++ List.replicate (8 - (lg_sl ([.ref h0, .ref h2, .int x2])).length) Slot.unset).toArray = ls at hl ⊢
  have hl : lv_has ls 8 [(0, .ref h0), (1, .ref h2), (2, .int x2)] := hl
  have b_ := zk_0
  have b_ := zk_1
  refine lv_aload_n hx hb dX5_isNear_0 rfl (lv_at hl 0 rfl) ?_
  refine lv_iconst (v := 0) hx hb dX5_isNear_1 (by decide) ?_
  have hPc := hP.sub (ws' := [(h0, .inr (5, mX5 h1)), (h1, zi k1 26 f1)]) [0, 1] rfl
  have hDc := hD.sub (ws' := [(h0, .inr (5, mX5 h1)), (h1, zi k1 26 f1)]) [0, 1] (by decide) rfl
  have hKc := hK.sub (tys' := [(k1, .int)]) [0] rfl
  have hFc := va_free (wc := [(h0, .inr (5, mX5 h1)), (h1, zi k1 26 f1)]) hD hS hA [0, 1] rfl
  refine va_calli (va_runV (As := [.int 0]) (rest := []) ⟨hx, hb, hml, hown, hG⟩ (sX5_nextFrom_0 l dC dI adK adV h0 h1 k1 s.heap.size f1 0) (cwV 1 hG (zgV zv1314 zv1315 zv1316 zv139 zv1317) rfl rfl rfl (by decide +kernel) ⟨Nat.le_of_ble_eq_true rfl, Nat.le_of_ble_eq_true rfl⟩) ⟨zPc_blind, va_recv hKc hPc (ci := 5) (q0 := 0) rfl rfl, zPc_pre hPc hKc hDc hE hS hFc hZ⟩ rfl rfl hl.1 rfl (lv_room (Nat.le_of_ble_eq_true rfl)) dX5_isNear_2 ⟨Nat.le_of_ble_eq_true rfl, Nat.le_of_ble_eq_true rfl⟩) hS (fun q _ h => hFc q h) hFc (fun r2_ u2_ t H1 locs ht hvm hw hB hz1 hk1 hS => ?_)
  replace hw : ((-1) ≤ r2_.toInt ∧ r2_.toInt ≤ 832) ∧ (r2_.toInt ≤ 831) ∧ (zNf f1 (0 : Int32).toInt r2_.toInt) := hw
  obtain ⟨b_, hX2_0, hX2_1⟩ := hw
  obtain ⟨w2_, a2_, b2_, hP1, hK1, hD1⟩ := hB
  rw [ht] at hP1
  obtain ⟨hP, hD⟩ := va_join (wr := [(h2, .inr (5, mX5 h3)), (h3, zi k3 26 f3)]) (w1 := [(h0, .inr (5, mX5 h1)), (h1, zi k1 26 f1)]) hP hD [0, 1] [2, 3] rfl rfl (by decide) (by decide) hk1 hFc hP1 hD1
  have hP : va_P (dC, dI) vwCl [(h0, .inr (5, mX5 h1)), (h1, zi k1 26 f1), (h2, .inr (5, mX5 h3)), (h3, zi k3 26 f3)] H1 := hP.sub [2, 3, 0, 1] rfl
  have hD : va_D A [(h0, .inr (5, mX5 h1)), (h1, zi k1 26 f1), (h2, .inr (5, mX5 h3)), (h3, zi k3 26 f3)] := hD.sub [2, 3, 0, 1] (by decide) rfl
  generalize H1 = H at hP hS ⊢
  clear hz1
  refine lv_istore_n (lv' := [(3, .int r2_), (0, .ref h0), (1, .ref h2), (2, .int x2)]) hx hb dX5_isNear_5 rfl hl (by decide) rfl (fun ls hl => ?_)
  refine lv_iconst (v := 0) hx hb dX5_isNear_6 (by decide) ?_
  refine lv_istore (lv' := [(4, .int 0), (3, .int r2_), (0, .ref h0), (1, .ref h2), (2, .int x2)]) hx hb dX5_isNear_7 hl (by decide) rfl (fun ls hl => ?_)
  refine zcutL (fun u9_ => (832 - (u9_ 1).toInt).toNat) (fun H locs ls u9_ w9_ a9_ b9_ => va_P (dC, dI) vwCl [(h0, .inr (5, mX5 h1)), (h1, zi k1 26 f1), (h2, .inr (5, mX5 h3)), (h3, zi k3 26 f3)] H ∧ va_D A [(h0, .inr (5, mX5 h1)), (h1, zi k1 26 f1), (h2, .inr (5, mX5 h3)), (h3, zi k3 26 f3)] ∧ va_S A s.heap H locs ∧ lv_has ls 8 [(0, .ref h0), (1, .ref h2), (2, .int x2), (3, .int (u9_ 0)), (4, .int (u9_ 1))] ∧ ((-1) ≤ (u9_ 0).toInt ∧ (u9_ 0).toInt ≤ 832) ∧ (0 ≤ (u9_ 1).toInt ∧ (u9_ 1).toInt ≤ 832) ∧ (0 ≤ x2.toInt → zNw f1 f3 x2.toInt (u9_ 0).toInt (u9_ 1).toInt)) (fun ls u9_ w9_ => F0 m 9 ls []) 0 0 ?_ (fun hJ9 => ?_)
  · skip
    intro H locs ls u9_ w9_ a9_ b9_ hc hJ9
    obtain ⟨hP, hD, hS, hl, b_, b_, hI9_0⟩ := hc
    refine lv_iload hx hb dX5_isNear_9 (lv_at hl 4 rfl) ?_
    refine lv_sipush (v := 832) hx hb dX5_isNear_11 (by decide) ?_
    refine lv_icmp_ge (tgt := 107) hx hb dX5_isNear_14 (by decide) (fun c_ => ?_) (fun c_ => ?_)
    · skip
      have b_ := zT_ge rfl zk_832 c_
      refine lv_iconst (v := 0) hx hb dX5_isNear_107 (by decide) ?_
      refine W.widen (k := 0) (n := 0) (by decide) (by decide) ?_
      have hpost : (0 ≤ (0 : Int32).toInt ∧ (0 : Int32).toInt ≤ 1) ∧ (zNr f1 f3 x2.toInt (0 : Int32).toInt) := ⟨(by first | with_reducible assumption | exact ⟨by omega, by omega⟩), by first | exact zNr_y (bound := 512) hI9_0 (by omega) hX65_1 (Or.inl ⟨by omega, by omega, rfl⟩) (by omega) (by omega) (by omega) (by decide) | exact zNr_y (bound := 832) hI9_0 (by omega) hX65_1 (Or.inr ⟨by omega, by omega, rfl⟩) (by omega) (by omega) (by omega) (by decide) | exact zNr_n hI9_0 (by omega) (by decide)⟩
      have hP9 : va_P (dC, dI) vwCl [(h0, .inr (5, mX5 h1)), (h1, zi k1 26 f1), (h2, .inr (5, mX5 h3)), (h3, zi k3 26 f3)] H := hP
      have hD9 : va_D A [(h0, .inr (5, mX5 h1)), (h1, zi k1 26 f1), (h2, .inr (5, mX5 h3)), (h3, zi k3 26 f3)] := hD
      exact W.zret (v := 0) hx hb hr rfl (fun t ht hW => ⟨⟨0, (fun _ => 0), rfl, hpost, (fun _ => 0), (fun _ => (fun _ => 0)), (fun _ => (fun _ => 0)), by rw [ht]; exact hP9, va_K.moved hW.alike hK, hD9⟩, hS.F ht⟩) hS.2.2 dX5_isNear_108
    · skip
      have b_ := zF_ge rfl zk_832 c_
      refine lv_iload_n hx hb dX5_isNear_17 rfl (lv_at hl 3 rfl) ?_
      refine lv_iconst (v := (-1)) hx hb dX5_isNear_18 (by decide) ?_
      refine lv_icmp_eq (tgt := 107) hx hb dX5_isNear_19 (by decide) (fun c_ => ?_) (fun c_ => ?_)
      · skip
        have b_ := zT_eq rfl zk_m1 c_
        refine lv_iconst (v := 0) hx hb dX5_isNear_107 (by decide) ?_
        refine W.widen (k := 0) (n := 0) (by decide) (by decide) ?_
        have hpost : (0 ≤ (0 : Int32).toInt ∧ (0 : Int32).toInt ≤ 1) ∧ (zNr f1 f3 x2.toInt (0 : Int32).toInt) := ⟨(by first | with_reducible assumption | exact ⟨by omega, by omega⟩), by first | exact zNr_y (bound := 512) hI9_0 (by omega) hX65_1 (Or.inl ⟨by omega, by omega, rfl⟩) (by omega) (by omega) (by omega) (by decide) | exact zNr_y (bound := 832) hI9_0 (by omega) hX65_1 (Or.inr ⟨by omega, by omega, rfl⟩) (by omega) (by omega) (by omega) (by decide) | exact zNr_n hI9_0 (by omega) (by decide)⟩
        have hP9 : va_P (dC, dI) vwCl [(h0, .inr (5, mX5 h1)), (h1, zi k1 26 f1), (h2, .inr (5, mX5 h3)), (h3, zi k3 26 f3)] H := hP
        have hD9 : va_D A [(h0, .inr (5, mX5 h1)), (h1, zi k1 26 f1), (h2, .inr (5, mX5 h3)), (h3, zi k3 26 f3)] := hD
        exact W.zret (v := 0) hx hb hr rfl (fun t ht hW => ⟨⟨0, (fun _ => 0), rfl, hpost, (fun _ => 0), (fun _ => (fun _ => 0)), (fun _ => (fun _ => 0)), by rw [ht]; exact hP9, va_K.moved hW.alike hK, hD9⟩, hS.F ht⟩) hS.2.2 dX5_isNear_108
      · skip
        have b_ := zF_eq rfl zk_m1 c_
        refine lv_iload_n hx hb dX5_isNear_22 rfl (lv_at hl 3 rfl) ?_
        refine lv_sipush (v := 512) hx hb dX5_isNear_23 (by decide) ?_
        refine lv_icmp_ge (tgt := 33) hx hb dX5_isNear_26 (by decide) (fun c_ => ?_) (fun c_ => ?_)
        · skip
          have b_ := zT_ge rfl zk_512 c_
          refine lv_sipush (v := 512) hx hb dX5_isNear_33 (by decide) ?_
          refine lv_istore (lv' := [(5, .int 512), (0, .ref h0), (1, .ref h2), (2, .int x2), (3, .int (u9_ 0)), (4, .int (u9_ 1))]) hx hb dX5_isNear_36 hl (by decide) rfl (fun ls hl => ?_)
          refine lv_iload_n hx hb dX5_isNear_38 rfl (lv_at hl 4 rfl) ?_
          refine lv_sipush (v := 512) hx hb dX5_isNear_39 (by decide) ?_
          refine lv_icmp_ge (tgt := 51) hx hb dX5_isNear_42 (by decide) (fun c_ => ?_) (fun c_ => False.elim (by have b_ := zF_ge rfl zk_512 c_; omega))
          have b_ := zT_ge rfl zk_512 c_
          refine lv_sipush (v := 832) hx hb dX5_isNear_51 (by decide) ?_
          refine lv_istore (lv' := [(6, .int 832), (5, .int 512), (0, .ref h0), (1, .ref h2), (2, .int x2), (3, .int (u9_ 0)), (4, .int (u9_ 1))]) hx hb dX5_isNear_54 hl (by decide) rfl (fun ls hl => ?_)
          refine lv_aload_n hx hb dX5_isNear_56 rfl (lv_at hl 3 rfl) ?_
          refine lv_iload hx hb dX5_isNear_57 (lv_at hl 1 rfl) ?_
          refine lv_iload_n hx hb dX5_isNear_59 rfl (lv_at hl 5 rfl) ?_
          refine lv_iload_n hx hb dX5_isNear_60 rfl (lv_at hl 4 rfl) ?_
          refine lv_isub hx hb dX5_isNear_61 ?_
          refine lv_topi (fun z61 e_z61 => ?_)
          have b_ := zsub rfl rfl e_z61 (by omega) (by omega)
          refine va_mmax hx hb (by rw [hml]; exact hl.1.symm) hown (hG _ zv1321) (hG _ zv1030) (hG _ zv152) (hG _ zv1031) (Nat.le_of_ble_eq_true rfl) (Nat.le_of_ble_eq_true rfl) (Nat.le_of_ble_eq_true rfl) (Nat.le_of_ble_eq_true rfl) dX5_isNear_62 ?_
          refine lv_topi (fun z62 e_z62 => ?_)
          have b_ := zmax zk_512 rfl e_z62
          have hPc := hP.sub (ws' := [(h2, .inr (5, mX5 h3)), (h3, zi k3 26 f3)]) [2, 3] rfl
          have hDc := hD.sub (ws' := [(h2, .inr (5, mX5 h3)), (h3, zi k3 26 f3)]) [2, 3] (by decide) rfl
          have hKc := hK.sub (tys' := [(k3, .int)]) [1] rfl
          have hFc := va_free (wc := [(h2, .inr (5, mX5 h3)), (h3, zi k3 26 f3)]) hD hS hA [2, 3] rfl
          refine va_calli (va_runV (As := [.int z62]) (rest := []) ⟨hx, hb, hml, hown, hG⟩ (sX5_nextFrom_0 l dC dI adK adV h2 h3 k3 H.size f3 z62) (cwV 1 hG (zgV zv1314 zv1315 zv1316 zv139 zv1317) rfl rfl rfl (by decide +kernel) ⟨Nat.le_of_ble_eq_true rfl, Nat.le_of_ble_eq_true rfl⟩) ⟨zPc_blind, va_recv hKc hPc (ci := 5) (q0 := 0) rfl rfl, zPc_pre hPc hKc hDc hE hS hFc hZ⟩ rfl rfl hl.1 rfl (lv_room (Nat.le_of_ble_eq_true rfl)) dX5_isNear_65 ⟨Nat.le_of_ble_eq_true rfl, Nat.le_of_ble_eq_true rfl⟩) hS (fun q _ h => hFc q h) hFc (fun r65_ u65_ t H1 locs ht hvm hw hB hz1 hk1 hS => ?_)
          replace hw : ((-1) ≤ r65_.toInt ∧ r65_.toInt ≤ 832) ∧ (r65_.toInt ≤ 831) ∧ (zNf f3 z62.toInt r65_.toInt) := hw
          obtain ⟨b_, hX65_0, hX65_1⟩ := hw
          obtain ⟨w65_, a65_, b65_, hP1, hK1, hD1⟩ := hB
          rw [ht] at hP1
          obtain ⟨hP, hD⟩ := va_join (wr := [(h0, .inr (5, mX5 h1)), (h1, zi k1 26 f1)]) (w1 := [(h2, .inr (5, mX5 h3)), (h3, zi k3 26 f3)]) hP hD [2, 3] [0, 1] rfl rfl (by decide) (by decide) hk1 hFc hP1 hD1
          have hP : va_P (dC, dI) vwCl [(h0, .inr (5, mX5 h1)), (h1, zi k1 26 f1), (h2, .inr (5, mX5 h3)), (h3, zi k3 26 f3)] H1 := hP.sub [0, 1, 2, 3] rfl
          have hD : va_D A [(h0, .inr (5, mX5 h1)), (h1, zi k1 26 f1), (h2, .inr (5, mX5 h3)), (h3, zi k3 26 f3)] := hD.sub [0, 1, 2, 3] (by decide) rfl
          generalize H1 = H at hP hS ⊢
          clear hz1
          refine lv_istore (lv' := [(7, .int r65_), (6, .int 832), (5, .int 512), (0, .ref h0), (1, .ref h2), (2, .int x2), (3, .int (u9_ 0)), (4, .int (u9_ 1))]) hx hb dX5_isNear_68 hl (by decide) rfl (fun ls hl => ?_)
          refine lv_iload hx hb dX5_isNear_70 (lv_at hl 0 rfl) ?_
          refine lv_iconst (v := (-1)) hx hb dX5_isNear_72 (by decide) ?_
          refine lv_icmp_eq (tgt := 93) hx hb dX5_isNear_73 (by decide) (fun c_ => ?_) (fun c_ => ?_)
          · skip
            have b_ := zT_eq rfl zk_m1 c_
            refine lv_aload_n hx hb dX5_isNear_93 rfl (lv_at hl 3 rfl) ?_
            refine lv_iload_n hx hb dX5_isNear_94 rfl (lv_at hl 6 rfl) ?_
            refine lv_iconst (v := 1) hx hb dX5_isNear_95 (by decide) ?_
            refine lv_iadd hx hb dX5_isNear_96 ?_
            refine lv_topi (fun z96 e_z96 => ?_)
            have b_ := zadd rfl zk_1 e_z96 (by omega) (by omega)
            have hPc := hP.sub (ws' := [(h0, .inr (5, mX5 h1)), (h1, zi k1 26 f1)]) [0, 1] rfl
            have hDc := hD.sub (ws' := [(h0, .inr (5, mX5 h1)), (h1, zi k1 26 f1)]) [0, 1] (by decide) rfl
            have hKc := hK.sub (tys' := [(k1, .int)]) [0] rfl
            have hFc := va_free (wc := [(h0, .inr (5, mX5 h1)), (h1, zi k1 26 f1)]) hD hS hA [0, 1] rfl
            refine va_calli (va_runV (As := [.int z96]) (rest := []) ⟨hx, hb, hml, hown, hG⟩ (sX5_nextFrom_0 l dC dI adK adV h0 h1 k1 H.size f1 z96) (cwV 1 hG (zgV zv1314 zv1315 zv1316 zv139 zv1317) rfl rfl rfl (by decide +kernel) ⟨Nat.le_of_ble_eq_true rfl, Nat.le_of_ble_eq_true rfl⟩) ⟨zPc_blind, va_recv hKc hPc (ci := 5) (q0 := 0) rfl rfl, zPc_pre hPc hKc hDc hE hS hFc hZ⟩ rfl rfl hl.1 rfl (lv_room (Nat.le_of_ble_eq_true rfl)) dX5_isNear_97 ⟨Nat.le_of_ble_eq_true rfl, Nat.le_of_ble_eq_true rfl⟩) hS (fun q _ h => hFc q h) hFc (fun r97_ u97_ t H1 locs ht hvm hw hB hz1 hk1 hS => ?_)
            replace hw : ((-1) ≤ r97_.toInt ∧ r97_.toInt ≤ 832) ∧ (r97_.toInt ≤ 831) ∧ (zNf f1 z96.toInt r97_.toInt) := hw
            obtain ⟨b_, hX97_0, hX97_1⟩ := hw
            obtain ⟨w97_, a97_, b97_, hP1, hK1, hD1⟩ := hB
            rw [ht] at hP1
            obtain ⟨hP, hD⟩ := va_join (wr := [(h2, .inr (5, mX5 h3)), (h3, zi k3 26 f3)]) (w1 := [(h0, .inr (5, mX5 h1)), (h1, zi k1 26 f1)]) hP hD [0, 1] [2, 3] rfl rfl (by decide) (by decide) hk1 hFc hP1 hD1
            have hP : va_P (dC, dI) vwCl [(h0, .inr (5, mX5 h1)), (h1, zi k1 26 f1), (h2, .inr (5, mX5 h3)), (h3, zi k3 26 f3)] H1 := hP.sub [2, 3, 0, 1] rfl
            have hD : va_D A [(h0, .inr (5, mX5 h1)), (h1, zi k1 26 f1), (h2, .inr (5, mX5 h3)), (h3, zi k3 26 f3)] := hD.sub [2, 3, 0, 1] (by decide) rfl
            generalize H1 = H at hP hS ⊢
            clear hz1
            refine lv_istore_n (lv' := [(3, .int r97_), (7, .int r65_), (6, .int 832), (5, .int 512), (0, .ref h0), (1, .ref h2), (2, .int x2), (4, .int (u9_ 1))]) hx hb dX5_isNear_100 rfl hl (by decide) rfl (fun ls hl => ?_)
            obtain ⟨z101, e_z101⟩ : ∃ z : Int32, z = (u9_ 1) + Int32.ofInt 1 := ⟨_, rfl⟩
            have b_ := zadd (x := (u9_ 1)) (y := Int32.ofInt 1) rfl (show (Int32.ofInt 1).toInt = 1 from by decide) e_z101 (by omega) (by omega)
            refine lv_iinc (v := z101) (lv' := [(4, .int z101), (3, .int r97_), (7, .int r65_), (6, .int 832), (5, .int 512), (0, .ref h0), (1, .ref h2), (2, .int x2)]) hx hb dX5_isNear_101 hl (k := 7) rfl e_z101.symm (by decide) rfl (fun ls hl => ?_)
            have hnw : 0 ≤ x2.toInt → zNw f1 f3 x2.toInt r97_.toInt z101.toInt := fun n0_ => zNw_s (bound := 832) (hI9_0 n0_) n0_ (by omega) hX65_1 (Or.inr ⟨by omega, by omega, rfl⟩) (by omega) hX97_1 (by omega) (by omega)
            refine lv_goto (tgt := 9) hx hb dX5_isNear_104 (by decide) ?_
            have hc : va_P (dC, dI) vwCl [(h0, .inr (5, mX5 h1)), (h1, zi k1 26 f1), (h2, .inr (5, mX5 h3)), (h3, zi k3 26 f3)] H ∧ va_D A [(h0, .inr (5, mX5 h1)), (h1, zi k1 26 f1), (h2, .inr (5, mX5 h3)), (h3, zi k3 26 f3)] ∧ va_S A s.heap H locs ∧ lv_has ls 8 [(0, .ref h0), (1, .ref h2), (2, .int x2), (3, .int r97_), (4, .int z101)] ∧ ((-1) ≤ r97_.toInt ∧ r97_.toInt ≤ 832) ∧ (0 ≤ z101.toInt ∧ z101.toInt ≤ 832) ∧ (0 ≤ x2.toInt → zNw f1 f3 x2.toInt r97_.toInt z101.toInt) := ⟨hP, hD, hS, lv_sub hl [5, 6, 7, 1, 0] rfl, (by first | with_reducible assumption | exact ⟨by omega, by omega⟩), (by first | with_reducible assumption | exact ⟨by omega, by omega⟩), by first | exact hnw | exact fun _ => zNw_0 hX2_1 (by decide) (by decide)⟩
            exact hJ9 H locs ls (fun i => ([r97_, z101] : List (Int32)).getD i 0) (fun _ => 0) (fun _ => (fun _ => 0)) (fun _ => (fun _ => 0)) hc (show (832 - z101.toInt).toNat < (832 - (u9_ 1).toInt).toNat from by omega)
          · skip
            have b_ := zF_eq rfl zk_m1 c_
            refine lv_iload hx hb dX5_isNear_76 (lv_at hl 0 rfl) ?_
            refine lv_iload hx hb dX5_isNear_78 (lv_at hl 1 rfl) ?_
            refine lv_icmp_ge (tgt := 93) hx hb dX5_isNear_80 (by decide) (fun c_ => ?_) (fun c_ => ?_)
            · skip
              have b_ := zT_ge rfl zk_832 c_
              refine lv_aload_n hx hb dX5_isNear_93 rfl (lv_at hl 3 rfl) ?_
              refine lv_iload_n hx hb dX5_isNear_94 rfl (lv_at hl 6 rfl) ?_
              refine lv_iconst (v := 1) hx hb dX5_isNear_95 (by decide) ?_
              refine lv_iadd hx hb dX5_isNear_96 ?_
              refine lv_topi (fun z96 e_z96 => ?_)
              have b_ := zadd rfl zk_1 e_z96 (by omega) (by omega)
              have hPc := hP.sub (ws' := [(h0, .inr (5, mX5 h1)), (h1, zi k1 26 f1)]) [0, 1] rfl
              have hDc := hD.sub (ws' := [(h0, .inr (5, mX5 h1)), (h1, zi k1 26 f1)]) [0, 1] (by decide) rfl
              have hKc := hK.sub (tys' := [(k1, .int)]) [0] rfl
              have hFc := va_free (wc := [(h0, .inr (5, mX5 h1)), (h1, zi k1 26 f1)]) hD hS hA [0, 1] rfl
              refine va_calli (va_runV (As := [.int z96]) (rest := []) ⟨hx, hb, hml, hown, hG⟩ (sX5_nextFrom_0 l dC dI adK adV h0 h1 k1 H.size f1 z96) (cwV 1 hG (zgV zv1314 zv1315 zv1316 zv139 zv1317) rfl rfl rfl (by decide +kernel) ⟨Nat.le_of_ble_eq_true rfl, Nat.le_of_ble_eq_true rfl⟩) ⟨zPc_blind, va_recv hKc hPc (ci := 5) (q0 := 0) rfl rfl, zPc_pre hPc hKc hDc hE hS hFc hZ⟩ rfl rfl hl.1 rfl (lv_room (Nat.le_of_ble_eq_true rfl)) dX5_isNear_97 ⟨Nat.le_of_ble_eq_true rfl, Nat.le_of_ble_eq_true rfl⟩) hS (fun q _ h => hFc q h) hFc (fun r97_ u97_ t H1 locs ht hvm hw hB hz1 hk1 hS => ?_)
              replace hw : ((-1) ≤ r97_.toInt ∧ r97_.toInt ≤ 832) ∧ (r97_.toInt ≤ 831) ∧ (zNf f1 z96.toInt r97_.toInt) := hw
              obtain ⟨b_, hX97_0, hX97_1⟩ := hw
              obtain ⟨w97_, a97_, b97_, hP1, hK1, hD1⟩ := hB
              rw [ht] at hP1
              obtain ⟨hP, hD⟩ := va_join (wr := [(h2, .inr (5, mX5 h3)), (h3, zi k3 26 f3)]) (w1 := [(h0, .inr (5, mX5 h1)), (h1, zi k1 26 f1)]) hP hD [0, 1] [2, 3] rfl rfl (by decide) (by decide) hk1 hFc hP1 hD1
              have hP : va_P (dC, dI) vwCl [(h0, .inr (5, mX5 h1)), (h1, zi k1 26 f1), (h2, .inr (5, mX5 h3)), (h3, zi k3 26 f3)] H1 := hP.sub [2, 3, 0, 1] rfl
              have hD : va_D A [(h0, .inr (5, mX5 h1)), (h1, zi k1 26 f1), (h2, .inr (5, mX5 h3)), (h3, zi k3 26 f3)] := hD.sub [2, 3, 0, 1] (by decide) rfl
              generalize H1 = H at hP hS ⊢
              clear hz1
              refine lv_istore_n (lv' := [(3, .int r97_), (7, .int r65_), (6, .int 832), (5, .int 512), (0, .ref h0), (1, .ref h2), (2, .int x2), (4, .int (u9_ 1))]) hx hb dX5_isNear_100 rfl hl (by decide) rfl (fun ls hl => ?_)
              obtain ⟨z101, e_z101⟩ : ∃ z : Int32, z = (u9_ 1) + Int32.ofInt 1 := ⟨_, rfl⟩
              have b_ := zadd (x := (u9_ 1)) (y := Int32.ofInt 1) rfl (show (Int32.ofInt 1).toInt = 1 from by decide) e_z101 (by omega) (by omega)
              refine lv_iinc (v := z101) (lv' := [(4, .int z101), (3, .int r97_), (7, .int r65_), (6, .int 832), (5, .int 512), (0, .ref h0), (1, .ref h2), (2, .int x2)]) hx hb dX5_isNear_101 hl (k := 7) rfl e_z101.symm (by decide) rfl (fun ls hl => ?_)
              have hnw : 0 ≤ x2.toInt → zNw f1 f3 x2.toInt r97_.toInt z101.toInt := fun n0_ => zNw_s (bound := 832) (hI9_0 n0_) n0_ (by omega) hX65_1 (Or.inr ⟨by omega, by omega, rfl⟩) (by omega) hX97_1 (by omega) (by omega)
              refine lv_goto (tgt := 9) hx hb dX5_isNear_104 (by decide) ?_
              have hc : va_P (dC, dI) vwCl [(h0, .inr (5, mX5 h1)), (h1, zi k1 26 f1), (h2, .inr (5, mX5 h3)), (h3, zi k3 26 f3)] H ∧ va_D A [(h0, .inr (5, mX5 h1)), (h1, zi k1 26 f1), (h2, .inr (5, mX5 h3)), (h3, zi k3 26 f3)] ∧ va_S A s.heap H locs ∧ lv_has ls 8 [(0, .ref h0), (1, .ref h2), (2, .int x2), (3, .int r97_), (4, .int z101)] ∧ ((-1) ≤ r97_.toInt ∧ r97_.toInt ≤ 832) ∧ (0 ≤ z101.toInt ∧ z101.toInt ≤ 832) ∧ (0 ≤ x2.toInt → zNw f1 f3 x2.toInt r97_.toInt z101.toInt) := ⟨hP, hD, hS, lv_sub hl [5, 6, 7, 1, 0] rfl, (by first | with_reducible assumption | exact ⟨by omega, by omega⟩), (by first | with_reducible assumption | exact ⟨by omega, by omega⟩), by first | exact hnw | exact fun _ => zNw_0 hX2_1 (by decide) (by decide)⟩
              exact hJ9 H locs ls (fun i => ([r97_, z101] : List (Int32)).getD i 0) (fun _ => 0) (fun _ => (fun _ => 0)) (fun _ => (fun _ => 0)) hc (show (832 - z101.toInt).toNat < (832 - (u9_ 1).toInt).toNat from by omega)
            · skip
              have b_ := zF_ge rfl zk_832 c_
              refine lv_iload hx hb dX5_isNear_83 (lv_at hl 0 rfl) ?_
              refine lv_iload_n hx hb dX5_isNear_85 rfl (lv_at hl 6 rfl) ?_
              refine lv_iload_n hx hb dX5_isNear_86 rfl (lv_at hl 5 rfl) ?_
              refine lv_iadd hx hb dX5_isNear_87 ?_
              refine lv_topi (fun z87 e_z87 => ?_)
              have b_ := zadd rfl rfl e_z87 (by omega) (by omega)
              refine lv_icmp_gt (tgt := 93) hx hb dX5_isNear_88 (by decide) (fun c_ => ?_) (fun c_ => ?_)
              · skip
                have b_ := zT_gt rfl rfl c_
                refine lv_aload_n hx hb dX5_isNear_93 rfl (lv_at hl 3 rfl) ?_
                refine lv_iload_n hx hb dX5_isNear_94 rfl (lv_at hl 6 rfl) ?_
                refine lv_iconst (v := 1) hx hb dX5_isNear_95 (by decide) ?_
                refine lv_iadd hx hb dX5_isNear_96 ?_
                refine lv_topi (fun z96 e_z96 => ?_)
                have b_ := zadd rfl zk_1 e_z96 (by omega) (by omega)
                have hPc := hP.sub (ws' := [(h0, .inr (5, mX5 h1)), (h1, zi k1 26 f1)]) [0, 1] rfl
                have hDc := hD.sub (ws' := [(h0, .inr (5, mX5 h1)), (h1, zi k1 26 f1)]) [0, 1] (by decide) rfl
                have hKc := hK.sub (tys' := [(k1, .int)]) [0] rfl
                have hFc := va_free (wc := [(h0, .inr (5, mX5 h1)), (h1, zi k1 26 f1)]) hD hS hA [0, 1] rfl
                refine va_calli (va_runV (As := [.int z96]) (rest := []) ⟨hx, hb, hml, hown, hG⟩ (sX5_nextFrom_0 l dC dI adK adV h0 h1 k1 H.size f1 z96) (cwV 1 hG (zgV zv1314 zv1315 zv1316 zv139 zv1317) rfl rfl rfl (by decide +kernel) ⟨Nat.le_of_ble_eq_true rfl, Nat.le_of_ble_eq_true rfl⟩) ⟨zPc_blind, va_recv hKc hPc (ci := 5) (q0 := 0) rfl rfl, zPc_pre hPc hKc hDc hE hS hFc hZ⟩ rfl rfl hl.1 rfl (lv_room (Nat.le_of_ble_eq_true rfl)) dX5_isNear_97 ⟨Nat.le_of_ble_eq_true rfl, Nat.le_of_ble_eq_true rfl⟩) hS (fun q _ h => hFc q h) hFc (fun r97_ u97_ t H1 locs ht hvm hw hB hz1 hk1 hS => ?_)
                replace hw : ((-1) ≤ r97_.toInt ∧ r97_.toInt ≤ 832) ∧ (r97_.toInt ≤ 831) ∧ (zNf f1 z96.toInt r97_.toInt) := hw
                obtain ⟨b_, hX97_0, hX97_1⟩ := hw
                obtain ⟨w97_, a97_, b97_, hP1, hK1, hD1⟩ := hB
                rw [ht] at hP1
                obtain ⟨hP, hD⟩ := va_join (wr := [(h2, .inr (5, mX5 h3)), (h3, zi k3 26 f3)]) (w1 := [(h0, .inr (5, mX5 h1)), (h1, zi k1 26 f1)]) hP hD [0, 1] [2, 3] rfl rfl (by decide) (by decide) hk1 hFc hP1 hD1
                have hP : va_P (dC, dI) vwCl [(h0, .inr (5, mX5 h1)), (h1, zi k1 26 f1), (h2, .inr (5, mX5 h3)), (h3, zi k3 26 f3)] H1 := hP.sub [2, 3, 0, 1] rfl
                have hD : va_D A [(h0, .inr (5, mX5 h1)), (h1, zi k1 26 f1), (h2, .inr (5, mX5 h3)), (h3, zi k3 26 f3)] := hD.sub [2, 3, 0, 1] (by decide) rfl
                generalize H1 = H at hP hS ⊢
                clear hz1
                refine lv_istore_n (lv' := [(3, .int r97_), (7, .int r65_), (6, .int 832), (5, .int 512), (0, .ref h0), (1, .ref h2), (2, .int x2), (4, .int (u9_ 1))]) hx hb dX5_isNear_100 rfl hl (by decide) rfl (fun ls hl => ?_)
                obtain ⟨z101, e_z101⟩ : ∃ z : Int32, z = (u9_ 1) + Int32.ofInt 1 := ⟨_, rfl⟩
                have b_ := zadd (x := (u9_ 1)) (y := Int32.ofInt 1) rfl (show (Int32.ofInt 1).toInt = 1 from by decide) e_z101 (by omega) (by omega)
                refine lv_iinc (v := z101) (lv' := [(4, .int z101), (3, .int r97_), (7, .int r65_), (6, .int 832), (5, .int 512), (0, .ref h0), (1, .ref h2), (2, .int x2)]) hx hb dX5_isNear_101 hl (k := 7) rfl e_z101.symm (by decide) rfl (fun ls hl => ?_)
                have hnw : 0 ≤ x2.toInt → zNw f1 f3 x2.toInt r97_.toInt z101.toInt := fun n0_ => zNw_s (bound := 832) (hI9_0 n0_) n0_ (by omega) hX65_1 (Or.inr ⟨by omega, by omega, rfl⟩) (by omega) hX97_1 (by omega) (by omega)
                refine lv_goto (tgt := 9) hx hb dX5_isNear_104 (by decide) ?_
                have hc : va_P (dC, dI) vwCl [(h0, .inr (5, mX5 h1)), (h1, zi k1 26 f1), (h2, .inr (5, mX5 h3)), (h3, zi k3 26 f3)] H ∧ va_D A [(h0, .inr (5, mX5 h1)), (h1, zi k1 26 f1), (h2, .inr (5, mX5 h3)), (h3, zi k3 26 f3)] ∧ va_S A s.heap H locs ∧ lv_has ls 8 [(0, .ref h0), (1, .ref h2), (2, .int x2), (3, .int r97_), (4, .int z101)] ∧ ((-1) ≤ r97_.toInt ∧ r97_.toInt ≤ 832) ∧ (0 ≤ z101.toInt ∧ z101.toInt ≤ 832) ∧ (0 ≤ x2.toInt → zNw f1 f3 x2.toInt r97_.toInt z101.toInt) := ⟨hP, hD, hS, lv_sub hl [5, 6, 7, 1, 0] rfl, (by first | with_reducible assumption | exact ⟨by omega, by omega⟩), (by first | with_reducible assumption | exact ⟨by omega, by omega⟩), by first | exact hnw | exact fun _ => zNw_0 hX2_1 (by decide) (by decide)⟩
                exact hJ9 H locs ls (fun i => ([r97_, z101] : List (Int32)).getD i 0) (fun _ => 0) (fun _ => (fun _ => 0)) (fun _ => (fun _ => 0)) hc (show (832 - z101.toInt).toNat < (832 - (u9_ 1).toInt).toNat from by omega)
              · skip
                have b_ := zF_gt rfl rfl c_
                refine lv_iconst (v := 1) hx hb dX5_isNear_91 (by decide) ?_
                refine W.widen (k := 0) (n := 0) (by decide) (by decide) ?_
                have hpost : (0 ≤ (1 : Int32).toInt ∧ (1 : Int32).toInt ≤ 1) ∧ (zNr f1 f3 x2.toInt (1 : Int32).toInt) := ⟨(by first | with_reducible assumption | exact ⟨by omega, by omega⟩), by first | exact zNr_y (bound := 512) hI9_0 (by omega) hX65_1 (Or.inl ⟨by omega, by omega, rfl⟩) (by omega) (by omega) (by omega) (by decide) | exact zNr_y (bound := 832) hI9_0 (by omega) hX65_1 (Or.inr ⟨by omega, by omega, rfl⟩) (by omega) (by omega) (by omega) (by decide) | exact zNr_n hI9_0 (by omega) (by decide)⟩
                have hP9 : va_P (dC, dI) vwCl [(h0, .inr (5, mX5 h1)), (h1, zi k1 26 f1), (h2, .inr (5, mX5 h3)), (h3, zi k3 26 f3)] H := hP
                have hD9 : va_D A [(h0, .inr (5, mX5 h1)), (h1, zi k1 26 f1), (h2, .inr (5, mX5 h3)), (h3, zi k3 26 f3)] := hD
                exact W.zret (v := 1) hx hb hr rfl (fun t ht hW => ⟨⟨1, (fun _ => 0), rfl, hpost, (fun _ => 0), (fun _ => (fun _ => 0)), (fun _ => (fun _ => 0)), by rw [ht]; exact hP9, va_K.moved hW.alike hK, hD9⟩, hS.F ht⟩) hS.2.2 dX5_isNear_92
        · skip
          have b_ := zF_ge rfl zk_512 c_
          refine lv_iconst (v := 0) hx hb dX5_isNear_29 (by decide) ?_
          refine lv_goto (tgt := 36) hx hb dX5_isNear_30 (by decide) ?_
          refine lv_istore (lv' := [(5, .int 0), (0, .ref h0), (1, .ref h2), (2, .int x2), (3, .int (u9_ 0)), (4, .int (u9_ 1))]) hx hb dX5_isNear_36 hl (by decide) rfl (fun ls hl => ?_)
          refine lv_iload_n hx hb dX5_isNear_38 rfl (lv_at hl 4 rfl) ?_
          refine lv_sipush (v := 512) hx hb dX5_isNear_39 (by decide) ?_
          refine lv_icmp_ge (tgt := 51) hx hb dX5_isNear_42 (by decide) (fun c_ => False.elim (by have b_ := zT_ge rfl zk_512 c_; omega)) (fun c_ => ?_)
          have b_ := zF_ge rfl zk_512 c_
          refine lv_sipush (v := 512) hx hb dX5_isNear_45 (by decide) ?_
          refine lv_goto (tgt := 54) hx hb dX5_isNear_48 (by decide) ?_
          refine lv_istore (lv' := [(6, .int 512), (5, .int 0), (0, .ref h0), (1, .ref h2), (2, .int x2), (3, .int (u9_ 0)), (4, .int (u9_ 1))]) hx hb dX5_isNear_54 hl (by decide) rfl (fun ls hl => ?_)
          refine lv_aload_n hx hb dX5_isNear_56 rfl (lv_at hl 3 rfl) ?_
          refine lv_iload hx hb dX5_isNear_57 (lv_at hl 1 rfl) ?_
          refine lv_iload_n hx hb dX5_isNear_59 rfl (lv_at hl 5 rfl) ?_
          refine lv_iload_n hx hb dX5_isNear_60 rfl (lv_at hl 4 rfl) ?_
          refine lv_isub hx hb dX5_isNear_61 ?_
          refine lv_topi (fun z61 e_z61 => ?_)
          have b_ := zsub rfl rfl e_z61 (by omega) (by omega)
          refine va_mmax hx hb (by rw [hml]; exact hl.1.symm) hown (hG _ zv1321) (hG _ zv1030) (hG _ zv152) (hG _ zv1031) (Nat.le_of_ble_eq_true rfl) (Nat.le_of_ble_eq_true rfl) (Nat.le_of_ble_eq_true rfl) (Nat.le_of_ble_eq_true rfl) dX5_isNear_62 ?_
          refine lv_topi (fun z62 e_z62 => ?_)
          have b_ := zmax zk_0 rfl e_z62
          have hPc := hP.sub (ws' := [(h2, .inr (5, mX5 h3)), (h3, zi k3 26 f3)]) [2, 3] rfl
          have hDc := hD.sub (ws' := [(h2, .inr (5, mX5 h3)), (h3, zi k3 26 f3)]) [2, 3] (by decide) rfl
          have hKc := hK.sub (tys' := [(k3, .int)]) [1] rfl
          have hFc := va_free (wc := [(h2, .inr (5, mX5 h3)), (h3, zi k3 26 f3)]) hD hS hA [2, 3] rfl
          refine va_calli (va_runV (As := [.int z62]) (rest := []) ⟨hx, hb, hml, hown, hG⟩ (sX5_nextFrom_0 l dC dI adK adV h2 h3 k3 H.size f3 z62) (cwV 1 hG (zgV zv1314 zv1315 zv1316 zv139 zv1317) rfl rfl rfl (by decide +kernel) ⟨Nat.le_of_ble_eq_true rfl, Nat.le_of_ble_eq_true rfl⟩) ⟨zPc_blind, va_recv hKc hPc (ci := 5) (q0 := 0) rfl rfl, zPc_pre hPc hKc hDc hE hS hFc hZ⟩ rfl rfl hl.1 rfl (lv_room (Nat.le_of_ble_eq_true rfl)) dX5_isNear_65 ⟨Nat.le_of_ble_eq_true rfl, Nat.le_of_ble_eq_true rfl⟩) hS (fun q _ h => hFc q h) hFc (fun r65_ u65_ t H1 locs ht hvm hw hB hz1 hk1 hS => ?_)
          replace hw : ((-1) ≤ r65_.toInt ∧ r65_.toInt ≤ 832) ∧ (r65_.toInt ≤ 831) ∧ (zNf f3 z62.toInt r65_.toInt) := hw
          obtain ⟨b_, hX65_0, hX65_1⟩ := hw
          obtain ⟨w65_, a65_, b65_, hP1, hK1, hD1⟩ := hB
          rw [ht] at hP1
          obtain ⟨hP, hD⟩ := va_join (wr := [(h0, .inr (5, mX5 h1)), (h1, zi k1 26 f1)]) (w1 := [(h2, .inr (5, mX5 h3)), (h3, zi k3 26 f3)]) hP hD [2, 3] [0, 1] rfl rfl (by decide) (by decide) hk1 hFc hP1 hD1
          have hP : va_P (dC, dI) vwCl [(h0, .inr (5, mX5 h1)), (h1, zi k1 26 f1), (h2, .inr (5, mX5 h3)), (h3, zi k3 26 f3)] H1 := hP.sub [0, 1, 2, 3] rfl
          have hD : va_D A [(h0, .inr (5, mX5 h1)), (h1, zi k1 26 f1), (h2, .inr (5, mX5 h3)), (h3, zi k3 26 f3)] := hD.sub [0, 1, 2, 3] (by decide) rfl
          generalize H1 = H at hP hS ⊢
          clear hz1
          refine lv_istore (lv' := [(7, .int r65_), (6, .int 512), (5, .int 0), (0, .ref h0), (1, .ref h2), (2, .int x2), (3, .int (u9_ 0)), (4, .int (u9_ 1))]) hx hb dX5_isNear_68 hl (by decide) rfl (fun ls hl => ?_)
          refine lv_iload hx hb dX5_isNear_70 (lv_at hl 0 rfl) ?_
          refine lv_iconst (v := (-1)) hx hb dX5_isNear_72 (by decide) ?_
          refine lv_icmp_eq (tgt := 93) hx hb dX5_isNear_73 (by decide) (fun c_ => ?_) (fun c_ => ?_)
          · skip
            have b_ := zT_eq rfl zk_m1 c_
            refine lv_aload_n hx hb dX5_isNear_93 rfl (lv_at hl 3 rfl) ?_
            refine lv_iload_n hx hb dX5_isNear_94 rfl (lv_at hl 6 rfl) ?_
            refine lv_iconst (v := 1) hx hb dX5_isNear_95 (by decide) ?_
            refine lv_iadd hx hb dX5_isNear_96 ?_
            refine lv_topi (fun z96 e_z96 => ?_)
            have b_ := zadd rfl zk_1 e_z96 (by omega) (by omega)
            have hPc := hP.sub (ws' := [(h0, .inr (5, mX5 h1)), (h1, zi k1 26 f1)]) [0, 1] rfl
            have hDc := hD.sub (ws' := [(h0, .inr (5, mX5 h1)), (h1, zi k1 26 f1)]) [0, 1] (by decide) rfl
            have hKc := hK.sub (tys' := [(k1, .int)]) [0] rfl
            have hFc := va_free (wc := [(h0, .inr (5, mX5 h1)), (h1, zi k1 26 f1)]) hD hS hA [0, 1] rfl
            refine va_calli (va_runV (As := [.int z96]) (rest := []) ⟨hx, hb, hml, hown, hG⟩ (sX5_nextFrom_0 l dC dI adK adV h0 h1 k1 H.size f1 z96) (cwV 1 hG (zgV zv1314 zv1315 zv1316 zv139 zv1317) rfl rfl rfl (by decide +kernel) ⟨Nat.le_of_ble_eq_true rfl, Nat.le_of_ble_eq_true rfl⟩) ⟨zPc_blind, va_recv hKc hPc (ci := 5) (q0 := 0) rfl rfl, zPc_pre hPc hKc hDc hE hS hFc hZ⟩ rfl rfl hl.1 rfl (lv_room (Nat.le_of_ble_eq_true rfl)) dX5_isNear_97 ⟨Nat.le_of_ble_eq_true rfl, Nat.le_of_ble_eq_true rfl⟩) hS (fun q _ h => hFc q h) hFc (fun r97_ u97_ t H1 locs ht hvm hw hB hz1 hk1 hS => ?_)
            replace hw : ((-1) ≤ r97_.toInt ∧ r97_.toInt ≤ 832) ∧ (r97_.toInt ≤ 831) ∧ (zNf f1 z96.toInt r97_.toInt) := hw
            obtain ⟨b_, hX97_0, hX97_1⟩ := hw
            obtain ⟨w97_, a97_, b97_, hP1, hK1, hD1⟩ := hB
            rw [ht] at hP1
            obtain ⟨hP, hD⟩ := va_join (wr := [(h2, .inr (5, mX5 h3)), (h3, zi k3 26 f3)]) (w1 := [(h0, .inr (5, mX5 h1)), (h1, zi k1 26 f1)]) hP hD [0, 1] [2, 3] rfl rfl (by decide) (by decide) hk1 hFc hP1 hD1
            have hP : va_P (dC, dI) vwCl [(h0, .inr (5, mX5 h1)), (h1, zi k1 26 f1), (h2, .inr (5, mX5 h3)), (h3, zi k3 26 f3)] H1 := hP.sub [2, 3, 0, 1] rfl
            have hD : va_D A [(h0, .inr (5, mX5 h1)), (h1, zi k1 26 f1), (h2, .inr (5, mX5 h3)), (h3, zi k3 26 f3)] := hD.sub [2, 3, 0, 1] (by decide) rfl
            generalize H1 = H at hP hS ⊢
            clear hz1
            refine lv_istore_n (lv' := [(3, .int r97_), (7, .int r65_), (6, .int 512), (5, .int 0), (0, .ref h0), (1, .ref h2), (2, .int x2), (4, .int (u9_ 1))]) hx hb dX5_isNear_100 rfl hl (by decide) rfl (fun ls hl => ?_)
            obtain ⟨z101, e_z101⟩ : ∃ z : Int32, z = (u9_ 1) + Int32.ofInt 1 := ⟨_, rfl⟩
            have b_ := zadd (x := (u9_ 1)) (y := Int32.ofInt 1) rfl (show (Int32.ofInt 1).toInt = 1 from by decide) e_z101 (by omega) (by omega)
            refine lv_iinc (v := z101) (lv' := [(4, .int z101), (3, .int r97_), (7, .int r65_), (6, .int 512), (5, .int 0), (0, .ref h0), (1, .ref h2), (2, .int x2)]) hx hb dX5_isNear_101 hl (k := 7) rfl e_z101.symm (by decide) rfl (fun ls hl => ?_)
            have hnw : 0 ≤ x2.toInt → zNw f1 f3 x2.toInt r97_.toInt z101.toInt := fun n0_ => zNw_s (bound := 512) (hI9_0 n0_) n0_ (by omega) hX65_1 (Or.inl ⟨by omega, by omega, rfl⟩) (by omega) hX97_1 (by omega) (by omega)
            refine lv_goto (tgt := 9) hx hb dX5_isNear_104 (by decide) ?_
            have hc : va_P (dC, dI) vwCl [(h0, .inr (5, mX5 h1)), (h1, zi k1 26 f1), (h2, .inr (5, mX5 h3)), (h3, zi k3 26 f3)] H ∧ va_D A [(h0, .inr (5, mX5 h1)), (h1, zi k1 26 f1), (h2, .inr (5, mX5 h3)), (h3, zi k3 26 f3)] ∧ va_S A s.heap H locs ∧ lv_has ls 8 [(0, .ref h0), (1, .ref h2), (2, .int x2), (3, .int r97_), (4, .int z101)] ∧ ((-1) ≤ r97_.toInt ∧ r97_.toInt ≤ 832) ∧ (0 ≤ z101.toInt ∧ z101.toInt ≤ 832) ∧ (0 ≤ x2.toInt → zNw f1 f3 x2.toInt r97_.toInt z101.toInt) := ⟨hP, hD, hS, lv_sub hl [5, 6, 7, 1, 0] rfl, (by first | with_reducible assumption | exact ⟨by omega, by omega⟩), (by first | with_reducible assumption | exact ⟨by omega, by omega⟩), by first | exact hnw | exact fun _ => zNw_0 hX2_1 (by decide) (by decide)⟩
            exact hJ9 H locs ls (fun i => ([r97_, z101] : List (Int32)).getD i 0) (fun _ => 0) (fun _ => (fun _ => 0)) (fun _ => (fun _ => 0)) hc (show (832 - z101.toInt).toNat < (832 - (u9_ 1).toInt).toNat from by omega)
          · skip
            have b_ := zF_eq rfl zk_m1 c_
            refine lv_iload hx hb dX5_isNear_76 (lv_at hl 0 rfl) ?_
            refine lv_iload hx hb dX5_isNear_78 (lv_at hl 1 rfl) ?_
            refine lv_icmp_ge (tgt := 93) hx hb dX5_isNear_80 (by decide) (fun c_ => ?_) (fun c_ => ?_)
            · skip
              have b_ := zT_ge rfl zk_512 c_
              refine lv_aload_n hx hb dX5_isNear_93 rfl (lv_at hl 3 rfl) ?_
              refine lv_iload_n hx hb dX5_isNear_94 rfl (lv_at hl 6 rfl) ?_
              refine lv_iconst (v := 1) hx hb dX5_isNear_95 (by decide) ?_
              refine lv_iadd hx hb dX5_isNear_96 ?_
              refine lv_topi (fun z96 e_z96 => ?_)
              have b_ := zadd rfl zk_1 e_z96 (by omega) (by omega)
              have hPc := hP.sub (ws' := [(h0, .inr (5, mX5 h1)), (h1, zi k1 26 f1)]) [0, 1] rfl
              have hDc := hD.sub (ws' := [(h0, .inr (5, mX5 h1)), (h1, zi k1 26 f1)]) [0, 1] (by decide) rfl
              have hKc := hK.sub (tys' := [(k1, .int)]) [0] rfl
              have hFc := va_free (wc := [(h0, .inr (5, mX5 h1)), (h1, zi k1 26 f1)]) hD hS hA [0, 1] rfl
              refine va_calli (va_runV (As := [.int z96]) (rest := []) ⟨hx, hb, hml, hown, hG⟩ (sX5_nextFrom_0 l dC dI adK adV h0 h1 k1 H.size f1 z96) (cwV 1 hG (zgV zv1314 zv1315 zv1316 zv139 zv1317) rfl rfl rfl (by decide +kernel) ⟨Nat.le_of_ble_eq_true rfl, Nat.le_of_ble_eq_true rfl⟩) ⟨zPc_blind, va_recv hKc hPc (ci := 5) (q0 := 0) rfl rfl, zPc_pre hPc hKc hDc hE hS hFc hZ⟩ rfl rfl hl.1 rfl (lv_room (Nat.le_of_ble_eq_true rfl)) dX5_isNear_97 ⟨Nat.le_of_ble_eq_true rfl, Nat.le_of_ble_eq_true rfl⟩) hS (fun q _ h => hFc q h) hFc (fun r97_ u97_ t H1 locs ht hvm hw hB hz1 hk1 hS => ?_)
              replace hw : ((-1) ≤ r97_.toInt ∧ r97_.toInt ≤ 832) ∧ (r97_.toInt ≤ 831) ∧ (zNf f1 z96.toInt r97_.toInt) := hw
              obtain ⟨b_, hX97_0, hX97_1⟩ := hw
              obtain ⟨w97_, a97_, b97_, hP1, hK1, hD1⟩ := hB
              rw [ht] at hP1
              obtain ⟨hP, hD⟩ := va_join (wr := [(h2, .inr (5, mX5 h3)), (h3, zi k3 26 f3)]) (w1 := [(h0, .inr (5, mX5 h1)), (h1, zi k1 26 f1)]) hP hD [0, 1] [2, 3] rfl rfl (by decide) (by decide) hk1 hFc hP1 hD1
              have hP : va_P (dC, dI) vwCl [(h0, .inr (5, mX5 h1)), (h1, zi k1 26 f1), (h2, .inr (5, mX5 h3)), (h3, zi k3 26 f3)] H1 := hP.sub [2, 3, 0, 1] rfl
              have hD : va_D A [(h0, .inr (5, mX5 h1)), (h1, zi k1 26 f1), (h2, .inr (5, mX5 h3)), (h3, zi k3 26 f3)] := hD.sub [2, 3, 0, 1] (by decide) rfl
              generalize H1 = H at hP hS ⊢
              clear hz1
              refine lv_istore_n (lv' := [(3, .int r97_), (7, .int r65_), (6, .int 512), (5, .int 0), (0, .ref h0), (1, .ref h2), (2, .int x2), (4, .int (u9_ 1))]) hx hb dX5_isNear_100 rfl hl (by decide) rfl (fun ls hl => ?_)
              obtain ⟨z101, e_z101⟩ : ∃ z : Int32, z = (u9_ 1) + Int32.ofInt 1 := ⟨_, rfl⟩
              have b_ := zadd (x := (u9_ 1)) (y := Int32.ofInt 1) rfl (show (Int32.ofInt 1).toInt = 1 from by decide) e_z101 (by omega) (by omega)
              refine lv_iinc (v := z101) (lv' := [(4, .int z101), (3, .int r97_), (7, .int r65_), (6, .int 512), (5, .int 0), (0, .ref h0), (1, .ref h2), (2, .int x2)]) hx hb dX5_isNear_101 hl (k := 7) rfl e_z101.symm (by decide) rfl (fun ls hl => ?_)
              have hnw : 0 ≤ x2.toInt → zNw f1 f3 x2.toInt r97_.toInt z101.toInt := fun n0_ => zNw_s (bound := 512) (hI9_0 n0_) n0_ (by omega) hX65_1 (Or.inl ⟨by omega, by omega, rfl⟩) (by omega) hX97_1 (by omega) (by omega)
              refine lv_goto (tgt := 9) hx hb dX5_isNear_104 (by decide) ?_
              have hc : va_P (dC, dI) vwCl [(h0, .inr (5, mX5 h1)), (h1, zi k1 26 f1), (h2, .inr (5, mX5 h3)), (h3, zi k3 26 f3)] H ∧ va_D A [(h0, .inr (5, mX5 h1)), (h1, zi k1 26 f1), (h2, .inr (5, mX5 h3)), (h3, zi k3 26 f3)] ∧ va_S A s.heap H locs ∧ lv_has ls 8 [(0, .ref h0), (1, .ref h2), (2, .int x2), (3, .int r97_), (4, .int z101)] ∧ ((-1) ≤ r97_.toInt ∧ r97_.toInt ≤ 832) ∧ (0 ≤ z101.toInt ∧ z101.toInt ≤ 832) ∧ (0 ≤ x2.toInt → zNw f1 f3 x2.toInt r97_.toInt z101.toInt) := ⟨hP, hD, hS, lv_sub hl [5, 6, 7, 1, 0] rfl, (by first | with_reducible assumption | exact ⟨by omega, by omega⟩), (by first | with_reducible assumption | exact ⟨by omega, by omega⟩), by first | exact hnw | exact fun _ => zNw_0 hX2_1 (by decide) (by decide)⟩
              exact hJ9 H locs ls (fun i => ([r97_, z101] : List (Int32)).getD i 0) (fun _ => 0) (fun _ => (fun _ => 0)) (fun _ => (fun _ => 0)) hc (show (832 - z101.toInt).toNat < (832 - (u9_ 1).toInt).toNat from by omega)
            · skip
              have b_ := zF_ge rfl zk_512 c_
              refine lv_iload hx hb dX5_isNear_83 (lv_at hl 0 rfl) ?_
              refine lv_iload_n hx hb dX5_isNear_85 rfl (lv_at hl 6 rfl) ?_
              refine lv_iload_n hx hb dX5_isNear_86 rfl (lv_at hl 5 rfl) ?_
              refine lv_iadd hx hb dX5_isNear_87 ?_
              refine lv_topi (fun z87 e_z87 => ?_)
              have b_ := zadd rfl rfl e_z87 (by omega) (by omega)
              refine lv_icmp_gt (tgt := 93) hx hb dX5_isNear_88 (by decide) (fun c_ => ?_) (fun c_ => ?_)
              · skip
                have b_ := zT_gt rfl rfl c_
                refine lv_aload_n hx hb dX5_isNear_93 rfl (lv_at hl 3 rfl) ?_
                refine lv_iload_n hx hb dX5_isNear_94 rfl (lv_at hl 6 rfl) ?_
                refine lv_iconst (v := 1) hx hb dX5_isNear_95 (by decide) ?_
                refine lv_iadd hx hb dX5_isNear_96 ?_
                refine lv_topi (fun z96 e_z96 => ?_)
                have b_ := zadd rfl zk_1 e_z96 (by omega) (by omega)
                have hPc := hP.sub (ws' := [(h0, .inr (5, mX5 h1)), (h1, zi k1 26 f1)]) [0, 1] rfl
                have hDc := hD.sub (ws' := [(h0, .inr (5, mX5 h1)), (h1, zi k1 26 f1)]) [0, 1] (by decide) rfl
                have hKc := hK.sub (tys' := [(k1, .int)]) [0] rfl
                have hFc := va_free (wc := [(h0, .inr (5, mX5 h1)), (h1, zi k1 26 f1)]) hD hS hA [0, 1] rfl
                refine va_calli (va_runV (As := [.int z96]) (rest := []) ⟨hx, hb, hml, hown, hG⟩ (sX5_nextFrom_0 l dC dI adK adV h0 h1 k1 H.size f1 z96) (cwV 1 hG (zgV zv1314 zv1315 zv1316 zv139 zv1317) rfl rfl rfl (by decide +kernel) ⟨Nat.le_of_ble_eq_true rfl, Nat.le_of_ble_eq_true rfl⟩) ⟨zPc_blind, va_recv hKc hPc (ci := 5) (q0 := 0) rfl rfl, zPc_pre hPc hKc hDc hE hS hFc hZ⟩ rfl rfl hl.1 rfl (lv_room (Nat.le_of_ble_eq_true rfl)) dX5_isNear_97 ⟨Nat.le_of_ble_eq_true rfl, Nat.le_of_ble_eq_true rfl⟩) hS (fun q _ h => hFc q h) hFc (fun r97_ u97_ t H1 locs ht hvm hw hB hz1 hk1 hS => ?_)
                replace hw : ((-1) ≤ r97_.toInt ∧ r97_.toInt ≤ 832) ∧ (r97_.toInt ≤ 831) ∧ (zNf f1 z96.toInt r97_.toInt) := hw
                obtain ⟨b_, hX97_0, hX97_1⟩ := hw
                obtain ⟨w97_, a97_, b97_, hP1, hK1, hD1⟩ := hB
                rw [ht] at hP1
                obtain ⟨hP, hD⟩ := va_join (wr := [(h2, .inr (5, mX5 h3)), (h3, zi k3 26 f3)]) (w1 := [(h0, .inr (5, mX5 h1)), (h1, zi k1 26 f1)]) hP hD [0, 1] [2, 3] rfl rfl (by decide) (by decide) hk1 hFc hP1 hD1
                have hP : va_P (dC, dI) vwCl [(h0, .inr (5, mX5 h1)), (h1, zi k1 26 f1), (h2, .inr (5, mX5 h3)), (h3, zi k3 26 f3)] H1 := hP.sub [2, 3, 0, 1] rfl
                have hD : va_D A [(h0, .inr (5, mX5 h1)), (h1, zi k1 26 f1), (h2, .inr (5, mX5 h3)), (h3, zi k3 26 f3)] := hD.sub [2, 3, 0, 1] (by decide) rfl
                generalize H1 = H at hP hS ⊢
                clear hz1
                refine lv_istore_n (lv' := [(3, .int r97_), (7, .int r65_), (6, .int 512), (5, .int 0), (0, .ref h0), (1, .ref h2), (2, .int x2), (4, .int (u9_ 1))]) hx hb dX5_isNear_100 rfl hl (by decide) rfl (fun ls hl => ?_)
                obtain ⟨z101, e_z101⟩ : ∃ z : Int32, z = (u9_ 1) + Int32.ofInt 1 := ⟨_, rfl⟩
                have b_ := zadd (x := (u9_ 1)) (y := Int32.ofInt 1) rfl (show (Int32.ofInt 1).toInt = 1 from by decide) e_z101 (by omega) (by omega)
                refine lv_iinc (v := z101) (lv' := [(4, .int z101), (3, .int r97_), (7, .int r65_), (6, .int 512), (5, .int 0), (0, .ref h0), (1, .ref h2), (2, .int x2)]) hx hb dX5_isNear_101 hl (k := 7) rfl e_z101.symm (by decide) rfl (fun ls hl => ?_)
                have hnw : 0 ≤ x2.toInt → zNw f1 f3 x2.toInt r97_.toInt z101.toInt := fun n0_ => zNw_s (bound := 512) (hI9_0 n0_) n0_ (by omega) hX65_1 (Or.inl ⟨by omega, by omega, rfl⟩) (by omega) hX97_1 (by omega) (by omega)
                refine lv_goto (tgt := 9) hx hb dX5_isNear_104 (by decide) ?_
                have hc : va_P (dC, dI) vwCl [(h0, .inr (5, mX5 h1)), (h1, zi k1 26 f1), (h2, .inr (5, mX5 h3)), (h3, zi k3 26 f3)] H ∧ va_D A [(h0, .inr (5, mX5 h1)), (h1, zi k1 26 f1), (h2, .inr (5, mX5 h3)), (h3, zi k3 26 f3)] ∧ va_S A s.heap H locs ∧ lv_has ls 8 [(0, .ref h0), (1, .ref h2), (2, .int x2), (3, .int r97_), (4, .int z101)] ∧ ((-1) ≤ r97_.toInt ∧ r97_.toInt ≤ 832) ∧ (0 ≤ z101.toInt ∧ z101.toInt ≤ 832) ∧ (0 ≤ x2.toInt → zNw f1 f3 x2.toInt r97_.toInt z101.toInt) := ⟨hP, hD, hS, lv_sub hl [5, 6, 7, 1, 0] rfl, (by first | with_reducible assumption | exact ⟨by omega, by omega⟩), (by first | with_reducible assumption | exact ⟨by omega, by omega⟩), by first | exact hnw | exact fun _ => zNw_0 hX2_1 (by decide) (by decide)⟩
                exact hJ9 H locs ls (fun i => ([r97_, z101] : List (Int32)).getD i 0) (fun _ => 0) (fun _ => (fun _ => 0)) (fun _ => (fun _ => 0)) hc (show (832 - z101.toInt).toNat < (832 - (u9_ 1).toInt).toNat from by omega)
              · skip
                have b_ := zF_gt rfl rfl c_
                refine lv_iconst (v := 1) hx hb dX5_isNear_91 (by decide) ?_
                refine W.widen (k := 0) (n := 0) (by decide) (by decide) ?_
                have hpost : (0 ≤ (1 : Int32).toInt ∧ (1 : Int32).toInt ≤ 1) ∧ (zNr f1 f3 x2.toInt (1 : Int32).toInt) := ⟨(by first | with_reducible assumption | exact ⟨by omega, by omega⟩), by first | exact zNr_y (bound := 512) hI9_0 (by omega) hX65_1 (Or.inl ⟨by omega, by omega, rfl⟩) (by omega) (by omega) (by omega) (by decide) | exact zNr_y (bound := 832) hI9_0 (by omega) hX65_1 (Or.inr ⟨by omega, by omega, rfl⟩) (by omega) (by omega) (by omega) (by decide) | exact zNr_n hI9_0 (by omega) (by decide)⟩
                have hP9 : va_P (dC, dI) vwCl [(h0, .inr (5, mX5 h1)), (h1, zi k1 26 f1), (h2, .inr (5, mX5 h3)), (h3, zi k3 26 f3)] H := hP
                have hD9 : va_D A [(h0, .inr (5, mX5 h1)), (h1, zi k1 26 f1), (h2, .inr (5, mX5 h3)), (h3, zi k3 26 f3)] := hD
                exact W.zret (v := 1) hx hb hr rfl (fun t ht hW => ⟨⟨1, (fun _ => 0), rfl, hpost, (fun _ => 0), (fun _ => (fun _ => 0)), (fun _ => (fun _ => 0)), by rw [ht]; exact hP9, va_K.moved hW.alike hK, hD9⟩, hS.F ht⟩) hS.2.2 dX5_isNear_92
  · skip
    have hc : va_P (dC, dI) vwCl [(h0, .inr (5, mX5 h1)), (h1, zi k1 26 f1), (h2, .inr (5, mX5 h3)), (h3, zi k3 26 f3)] H ∧ va_D A [(h0, .inr (5, mX5 h1)), (h1, zi k1 26 f1), (h2, .inr (5, mX5 h3)), (h3, zi k3 26 f3)] ∧ va_S A s.heap H locs ∧ lv_has ls 8 [(0, .ref h0), (1, .ref h2), (2, .int x2), (3, .int r2_), (4, .int 0)] ∧ ((-1) ≤ r2_.toInt ∧ r2_.toInt ≤ 832) ∧ (0 ≤ (0 : Int32).toInt ∧ (0 : Int32).toInt ≤ 832) ∧ (0 ≤ x2.toInt → zNw f1 f3 x2.toInt r2_.toInt (0 : Int32).toInt) := ⟨hP, hD, hS, lv_sub hl [2, 3, 4, 1, 0] rfl, (by first | with_reducible assumption | exact ⟨by omega, by omega⟩), (by first | with_reducible assumption | exact ⟨by omega, by omega⟩), by first | exact hnw | exact fun _ => zNw_0 hX2_1 (by decide) (by decide)⟩
    exact hJ9 H locs ls (fun i => ([r2_, 0] : List (Int32)).getD i 0) (fun _ => 0) (fun _ => (fun _ => 0)) (fun _ => (fun _ => 0)) hc
