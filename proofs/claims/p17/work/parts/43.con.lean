set_option maxHeartbeats 8000000 in
set_option maxRecDepth 100000 in
theorem sX6_allBits_0 (l : Launch) (dC : Nat → ClassId) (dI : Nat → Nat → Nat) (adK adV : Nat → Nat) (h0 : Nat) (h1 : Nat) (h2 : Nat) (h3 : Nat) (h4 : Nat) (h5 : Nat) (h6 : Nat) (h7 : Nat) (h8 : Nat) (sz : Nat) (v0 : Nat → Int32) (hv0 : zR rg_Postings v0) : Met l yX6_allBits (zw yX6_allBits cX6_allBits 1 (some .int)) { frames := 0, cells := 0, slots := 0, locals := 0 } (zPc dC dI adK adV [.ref h0] sz [(h0, .inr (6, mX6 h1 h2 h3 h4 h5 h6 h7 h8 v0))] []) (va_Qi (fun (r : Int32) (u : Nat → Int32) => (r.toInt = (v0 10).toInt)) (fun (u : Nat → Int32) (t : State) => ∃ (ww : Nat → Int64) (aa : Nat → Nat → Int32) (bb : Nat → Nat → Int64), va_P (dC, dI) vwCl [(h0, .inr (6, mX6 h1 h2 h3 h4 h5 h6 h7 h8 v0))] t.heap ∧ va_K (dC, dI) vwCl [] t ∧ va_D (va_A [(h0, .inr (6, mX6 h1 h2 h3 h4 h5 h6 h7 h8 v0))] sz) [(h0, .inr (6, mX6 h1 h2 h3 h4 h5 h6 h7 h8 v0))]) (va_A [(h0, .inr (6, mX6 h1 h2 h3 h4 h5 h6 h7 h8 v0))] sz)) 0 0 (va_A [(h0, .inr (6, mX6 h1 h2 h3 h4 h5 h6 h7 h8 v0))] sz) := by
  refine Met.ofW (cc := cX6_allBits) (maxL := 1) (ret := (some .int)) (by decide) rfl ?_
  intro p e s m args below meth c s₁ B hml hv
  obtain ⟨rfl, hsz, hP, hK, hD0, hE, hZ⟩ := hv
  have hx := B.exec
  have hb := B.bytes
  have hr := B.returns
  have hG : ∀ w ∈ zG, w.before _ s = true := fun w h => atoms_spec (ws := (zw yX6_allBits cX6_allBits 1 (some .int))) B.pre w (List.mem_cons_of_mem _ h)
  have hown : s.vm.findClass RX6 = some m.cls := findClass_of_methodNamed B.named
  have hlocks := B.notSynchronized

  subst hsz
  have hD := hD0.self (sz := s.heap.size)
  generalize hAe : va_A [(h0, .inr (6, mX6 h1 h2 h3 h4 h5 h6 h7 h8 v0))] s.heap.size = A at hD hZ ⊢
  have hA : ∀ q : Nat, s.heap.size ≤ q → A q := fun q h => by rw [← hAe]; exact Or.inr h
  have hS : va_S A s.heap s.heap [] := va_S.rf
  have hl := lv_entry ([.ref h0]) (n := 1) (Nat.le_of_ble_eq_true rfl)
  rw [lg_entry_eq]
  generalize (lg_sl ([.ref h0]) ++ List.replicate (1 - (lg_sl ([.ref h0])).length) Slot.unset).toArray = ls at hl ⊢
  have hl : lv_has ls 1 [(0, .ref h0)] := hl
  have b_ : -2147483648 ≤ (v0 10).toInt ∧ (v0 10).toInt ≤ 2147483647 := ⟨zlo _, zhi _⟩
  refine lv_aload_n hx hb dX6_allBits_0 rfl (lv_at hl 0 rfl) ?_
  refine va_get (D := (dC, dI)) (ci := 6) (v := .int (v0 10)) (C := RX6) (T := TX6) (N := 12) hx hb hG zuX6 hown hK hP 0 rfl rfl 10 (by decide) (hG _ zv258) (fun _ h9 => h9) rfl dX6_allBits_1 ?_
  refine W.widen (k := 0) (n := 0) (by decide) (by decide) ?_
  have hpost : ((v0 10).toInt = (v0 10).toInt) := by rfl
  have hP9 : va_P (dC, dI) vwCl [(h0, .inr (6, mX6 h1 h2 h3 h4 h5 h6 h7 h8 v0))] s.heap := hP
  have hD9 : va_D A [(h0, .inr (6, mX6 h1 h2 h3 h4 h5 h6 h7 h8 v0))] := hD
  exact W.iret (v := (v0 10)) hx hb hr (fun t ht hW => ⟨⟨(v0 10), (fun _ => 0), rfl, hpost, (fun _ => 0), (fun _ => (fun _ => 0)), (fun _ => (fun _ => 0)), by rw [ht]; exact hP9, va_K.moved hW.alike hK, hD9⟩, hS.F ht⟩) hS.2.2 dX6_allBits_4
set_option maxHeartbeats 8000000 in
set_option maxRecDepth 100000 in
theorem sX11_count_0 (l : Launch) (dC : Nat → ClassId) (dI : Nat → Nat → Nat) (adK adV : Nat → Nat) (h0 : Nat) (h18 : Nat) (h4 : Nat) (h23 : Nat) (h11 : Nat) (h1 : Nat) (h32 : Nat) (h33 : Nat) (h40 : Nat) (h48 : Nat) (h49 : Nat) (h19 : Nat) (h20 : Nat) (h21 : Nat) (h22 : Nat) (h5 : Nat) (h6 : Nat) (h7 : Nat) (h8 : Nat) (h9 : Nat) (h10 : Nat) (h24 : Nat) (h25 : Nat) (h26 : Nat) (h27 : Nat) (h28 : Nat) (h29 : Nat) (h30 : Nat) (h31 : Nat) (h12 : Nat) (h13 : Nat) (h14 : Nat) (h15 : Nat) (h16 : Nat) (h17 : Nat) (h2 : Nat) (h3 : Nat) (sz : Nat) (sp0 : Value) (lw0 : Int64) (v18 : Nat → Int32) (v4 : Nat → Int32) (v23 : Nat → Int32) (v11 : Nat → Int32) (v1 : Nat → Int32) (x1 : Int32) (hv18 : zR rg_Documents v18) (hv4 : zR rg_Words400 v4) (hv23 : zR rg_Postings v23) (hv11 : zR rg_Words10 v11) (hv1 : zR rg_Tape v1) : Met l yX11_count (zw yX11_count cX11_count 2 (some .int)) { frames := 1, cells := 0, slots := 0, locals := 20 } (zPc dC dI adK adV [.ref h0, .int x1] sz [(h0, .inr (11, mX11 h1 h4 h11 h18 h23 h32 h33 h40 h48 h49 sp0 lw0)), (h18, .inr (0, mX0 h19 h20 h21 h22 v18)), (h4, .inr (10, mX10 h5 h6 h7 h8 h9 h10 v4)), (h23, .inr (6, mX6 h24 h25 h26 h27 h28 h29 h30 h31 v23)), (h11, .inr (10, mX10 h12 h13 h14 h15 h16 h17 v11)), (h1, .inr (9, mX9 h2 h3 v1))] []) (va_Qi (fun (r : Int32) (u : Nat → Int32) => True) (fun (u : Nat → Int32) (t : State) => ∃ (ww : Nat → Int64) (aa : Nat → Nat → Int32) (bb : Nat → Nat → Int64), va_P (dC, dI) vwCl [(h0, .inr (11, mX11 h1 h4 h11 h18 h23 h32 h33 h40 h48 h49 sp0 lw0)), (h18, .inr (0, mX0 h19 h20 h21 h22 v18)), (h4, .inr (10, mX10 h5 h6 h7 h8 h9 h10 v4)), (h23, .inr (6, mX6 h24 h25 h26 h27 h28 h29 h30 h31 v23)), (h11, .inr (10, mX10 h12 h13 h14 h15 h16 h17 v11)), (h1, .inr (9, mX9 h2 h3 v1))] t.heap ∧ va_K (dC, dI) vwCl [] t ∧ va_D (va_A [(h0, .inr (11, mX11 h1 h4 h11 h18 h23 h32 h33 h40 h48 h49 sp0 lw0)), (h18, .inr (0, mX0 h19 h20 h21 h22 v18)), (h4, .inr (10, mX10 h5 h6 h7 h8 h9 h10 v4)), (h23, .inr (6, mX6 h24 h25 h26 h27 h28 h29 h30 h31 v23)), (h11, .inr (10, mX10 h12 h13 h14 h15 h16 h17 v11)), (h1, .inr (9, mX9 h2 h3 v1))] sz) [(h0, .inr (11, mX11 h1 h4 h11 h18 h23 h32 h33 h40 h48 h49 sp0 lw0)), (h18, .inr (0, mX0 h19 h20 h21 h22 v18)), (h4, .inr (10, mX10 h5 h6 h7 h8 h9 h10 v4)), (h23, .inr (6, mX6 h24 h25 h26 h27 h28 h29 h30 h31 v23)), (h11, .inr (10, mX10 h12 h13 h14 h15 h16 h17 v11)), (h1, .inr (9, mX9 h2 h3 v1))]) (va_A [(h0, .inr (11, mX11 h1 h4 h11 h18 h23 h32 h33 h40 h48 h49 sp0 lw0)), (h18, .inr (0, mX0 h19 h20 h21 h22 v18)), (h4, .inr (10, mX10 h5 h6 h7 h8 h9 h10 v4)), (h23, .inr (6, mX6 h24 h25 h26 h27 h28 h29 h30 h31 v23)), (h11, .inr (10, mX10 h12 h13 h14 h15 h16 h17 v11)), (h1, .inr (9, mX9 h2 h3 v1))] sz)) 0 0 (va_A [(h0, .inr (11, mX11 h1 h4 h11 h18 h23 h32 h33 h40 h48 h49 sp0 lw0)), (h18, .inr (0, mX0 h19 h20 h21 h22 v18)), (h4, .inr (10, mX10 h5 h6 h7 h8 h9 h10 v4)), (h23, .inr (6, mX6 h24 h25 h26 h27 h28 h29 h30 h31 v23)), (h11, .inr (10, mX10 h12 h13 h14 h15 h16 h17 v11)), (h1, .inr (9, mX9 h2 h3 v1))] sz) := by
  refine Met.ofW (cc := cX11_count) (maxL := 2) (ret := (some .int)) (by decide) rfl ?_
  intro p e s m args below meth c s₁ B hml hv
  obtain ⟨rfl, hsz, hP, hK, hD0, hE, hZ⟩ := hv
  have hx := B.exec
  have hb := B.bytes
  have hr := B.returns
  have hG : ∀ w ∈ zG, w.before _ s = true := fun w h => atoms_spec (ws := (zw yX11_count cX11_count 2 (some .int))) B.pre w (List.mem_cons_of_mem _ h)
  have hown : s.vm.findClass RX11 = some m.cls := findClass_of_methodNamed B.named
  have hlocks := B.notSynchronized

  subst hsz
  have hD := hD0.self (sz := s.heap.size)
  generalize hAe : va_A [(h0, .inr (11, mX11 h1 h4 h11 h18 h23 h32 h33 h40 h48 h49 sp0 lw0)), (h18, .inr (0, mX0 h19 h20 h21 h22 v18)), (h4, .inr (10, mX10 h5 h6 h7 h8 h9 h10 v4)), (h23, .inr (6, mX6 h24 h25 h26 h27 h28 h29 h30 h31 v23)), (h11, .inr (10, mX10 h12 h13 h14 h15 h16 h17 v11)), (h1, .inr (9, mX9 h2 h3 v1))] s.heap.size = A at hD hZ ⊢
  have hA : ∀ q : Nat, s.heap.size ≤ q → A q := fun q h => by rw [← hAe]; exact Or.inr h
  have hS : va_S A s.heap s.heap [] := va_S.rf
  have hl := lv_entry ([.ref h0, .int x1]) (n := 2) (Nat.le_of_ble_eq_true rfl)
  rw [lg_entry_eq]
  generalize (lg_sl ([.ref h0, .int x1]) ++ List.replicate (2 - (lg_sl ([.ref h0, .int x1])).length) Slot.unset).toArray = ls at hl ⊢
  have hl : lv_has ls 2 [(0, .ref h0), (1, .int x1)] := hl
  have b_ := zk_0
  have b_ := zk_1
  have b_ := zk_2
  have b_ := zk_3
  have b_ := zk_4
  have b_ := zk_5
  have b_ := zk_6
  refine lv_iload_n hx hb dX11_count_0 rfl (lv_at hl 1 rfl) ?_
  rcases Classical.em (x1 = (0 : Int32)) with c_ | c_
  · skip
    have b_ : x1.toInt = 0 := by rw [c_]; exact zk_0
    refine lv_tableIn (off := 43) (tgt := 44) hx hb dX11_count_1 (by omega) (by omega) (by rw [b_]; decide) (by decide) ?_
    refine lv_aload_n hx hb dX11_count_44 rfl (lv_at hl 0 rfl) ?_
    refine va_get (D := (dC, dI)) (ci := 11) (v := .ref h18) (C := RX11) (T := TX11) (N := 12) hx hb hG zuX11 hown hK hP 0 rfl rfl 3 (by decide) (hG _ zv560) (fun _ h9 => h9) rfl dX11_count_45 ?_
    have hPc := hP.sub (ws' := [(h18, .inr (0, mX0 h19 h20 h21 h22 v18))]) [1] rfl
    have hDc := hD.sub (ws' := [(h18, .inr (0, mX0 h19 h20 h21 h22 v18))]) [1] (by decide) rfl
    have hKc := hK.sub (tys' := []) [] rfl
    have hFc := va_free (wc := [(h18, .inr (0, mX0 h19 h20 h21 h22 v18))]) hD hS hA [1] rfl
    refine va_calli (va_runV (As := []) (rest := []) ⟨hx, hb, hml, hown, hG⟩ (sX0_size_0 l dC dI adK adV h18 h19 h20 h21 h22 s.heap.size v18 hv18) (cwV 0 hG (zgV zv622 zv623 zv624 zv132 zv625) rfl rfl rfl (by decide +kernel) ⟨Nat.le_of_ble_eq_true rfl, Nat.le_of_ble_eq_true rfl⟩) ⟨zPc_blind, va_recv hKc hPc (ci := 0) (q0 := 0) rfl rfl, zPc_pre hPc hKc hDc hE hS hFc hZ⟩ rfl rfl hl.1 rfl (lv_room (Nat.le_of_ble_eq_true rfl)) dX11_count_48 ⟨Nat.le_of_ble_eq_true rfl, Nat.le_of_ble_eq_true rfl⟩) hS (fun q _ h => hFc q h) hFc (fun r48_ u48_ t H1 locs ht hvm hw hB hz1 hk1 hS => ?_)
    replace hw : (0 ≤ r48_.toInt ∧ r48_.toInt ≤ 120) ∧ (r48_.toInt = (v18 4).toInt) := hw
    obtain ⟨b_, hX48_0⟩ := hw
    obtain ⟨w48_, a48_, b48_, hP1, hK1, hD1⟩ := hB
    rw [ht] at hP1
    obtain ⟨hP, hD⟩ := va_join (wr := [(h0, .inr (11, mX11 h1 h4 h11 h18 h23 h32 h33 h40 h48 h49 sp0 lw0)), (h4, .inr (10, mX10 h5 h6 h7 h8 h9 h10 v4)), (h23, .inr (6, mX6 h24 h25 h26 h27 h28 h29 h30 h31 v23)), (h11, .inr (10, mX10 h12 h13 h14 h15 h16 h17 v11)), (h1, .inr (9, mX9 h2 h3 v1))]) (w1 := [(h18, .inr (0, mX0 h19 h20 h21 h22 v18))]) hP hD [1] [0, 2, 3, 4, 5] rfl rfl (by decide) (by decide) hk1 hFc hP1 hD1
    have hP : va_P (dC, dI) vwCl [(h0, .inr (11, mX11 h1 h4 h11 h18 h23 h32 h33 h40 h48 h49 sp0 lw0)), (h18, .inr (0, mX0 h19 h20 h21 h22 v18)), (h4, .inr (10, mX10 h5 h6 h7 h8 h9 h10 v4)), (h23, .inr (6, mX6 h24 h25 h26 h27 h28 h29 h30 h31 v23)), (h11, .inr (10, mX10 h12 h13 h14 h15 h16 h17 v11)), (h1, .inr (9, mX9 h2 h3 v1))] H1 := hP.sub [0, 5, 1, 2, 3, 4] rfl
    have hD : va_D A [(h0, .inr (11, mX11 h1 h4 h11 h18 h23 h32 h33 h40 h48 h49 sp0 lw0)), (h18, .inr (0, mX0 h19 h20 h21 h22 v18)), (h4, .inr (10, mX10 h5 h6 h7 h8 h9 h10 v4)), (h23, .inr (6, mX6 h24 h25 h26 h27 h28 h29 h30 h31 v23)), (h11, .inr (10, mX10 h12 h13 h14 h15 h16 h17 v11)), (h1, .inr (9, mX9 h2 h3 v1))] := hD.sub [0, 5, 1, 2, 3, 4] (by decide) rfl
    generalize H1 = H at hP hS ⊢
    clear hz1
    refine W.widen (k := 0) (n := 0) (by decide) (by decide) ?_
    have hpost : True := trivial
    have hP9 : va_P (dC, dI) vwCl [(h0, .inr (11, mX11 h1 h4 h11 h18 h23 h32 h33 h40 h48 h49 sp0 lw0)), (h18, .inr (0, mX0 h19 h20 h21 h22 v18)), (h4, .inr (10, mX10 h5 h6 h7 h8 h9 h10 v4)), (h23, .inr (6, mX6 h24 h25 h26 h27 h28 h29 h30 h31 v23)), (h11, .inr (10, mX10 h12 h13 h14 h15 h16 h17 v11)), (h1, .inr (9, mX9 h2 h3 v1))] H := hP
    have hD9 : va_D A [(h0, .inr (11, mX11 h1 h4 h11 h18 h23 h32 h33 h40 h48 h49 sp0 lw0)), (h18, .inr (0, mX0 h19 h20 h21 h22 v18)), (h4, .inr (10, mX10 h5 h6 h7 h8 h9 h10 v4)), (h23, .inr (6, mX6 h24 h25 h26 h27 h28 h29 h30 h31 v23)), (h11, .inr (10, mX10 h12 h13 h14 h15 h16 h17 v11)), (h1, .inr (9, mX9 h2 h3 v1))] := hD
    exact W.iret (v := r48_) hx hb hr (fun t ht hW => ⟨⟨r48_, (fun _ => 0), rfl, hpost, (fun _ => 0), (fun _ => (fun _ => 0)), (fun _ => (fun _ => 0)), by rw [ht]; exact hP9, va_K.moved hW.alike hK, hD9⟩, hS.F ht⟩) hS.2.2 dX11_count_51
  · skip
    have b_ : x1.toInt ≠ 0 := fun h => c_ (zeqi.mpr (h.trans zk_0.symm))
    rcases Classical.em (x1 = (1 : Int32)) with c_ | c_
    · skip
      have b_ : x1.toInt = 1 := by rw [c_]; exact zk_1
      refine lv_tableIn (off := 51) (tgt := 52) hx hb dX11_count_1 (by omega) (by omega) (by rw [b_]; decide) (by decide) ?_
      refine lv_aload_n hx hb dX11_count_52 rfl (lv_at hl 0 rfl) ?_
      refine va_get (D := (dC, dI)) (ci := 11) (v := .ref h18) (C := RX11) (T := TX11) (N := 12) hx hb hG zuX11 hown hK hP 0 rfl rfl 3 (by decide) (hG _ zv560) (fun _ h9 => h9) rfl dX11_count_53 ?_
      have hPc := hP.sub (ws' := [(h18, .inr (0, mX0 h19 h20 h21 h22 v18))]) [1] rfl
      have hDc := hD.sub (ws' := [(h18, .inr (0, mX0 h19 h20 h21 h22 v18))]) [1] (by decide) rfl
      have hKc := hK.sub (tys' := []) [] rfl
      have hFc := va_free (wc := [(h18, .inr (0, mX0 h19 h20 h21 h22 v18))]) hD hS hA [1] rfl
      refine va_calli (va_runV (As := []) (rest := []) ⟨hx, hb, hml, hown, hG⟩ (sX0_onShelf_0 l dC dI adK adV h18 h19 h20 h21 h22 s.heap.size v18 hv18) (cwV 0 hG (zgV zv993 zv994 zv995 zv132 zv996) rfl rfl rfl (by decide +kernel) ⟨Nat.le_of_ble_eq_true rfl, Nat.le_of_ble_eq_true rfl⟩) ⟨zPc_blind, va_recv hKc hPc (ci := 0) (q0 := 0) rfl rfl, zPc_pre hPc hKc hDc hE hS hFc hZ⟩ rfl rfl hl.1 rfl (lv_room (Nat.le_of_ble_eq_true rfl)) dX11_count_56 ⟨Nat.le_of_ble_eq_true rfl, Nat.le_of_ble_eq_true rfl⟩) hS (fun q _ h => hFc q h) hFc (fun r56_ u56_ t H1 locs ht hvm hw hB hz1 hk1 hS => ?_)
      replace hw : (r56_.toInt = (v18 5).toInt) := hw
      have hX56_0 := hw
      obtain ⟨w56_, a56_, b56_, hP1, hK1, hD1⟩ := hB
      rw [ht] at hP1
      obtain ⟨hP, hD⟩ := va_join (wr := [(h0, .inr (11, mX11 h1 h4 h11 h18 h23 h32 h33 h40 h48 h49 sp0 lw0)), (h4, .inr (10, mX10 h5 h6 h7 h8 h9 h10 v4)), (h23, .inr (6, mX6 h24 h25 h26 h27 h28 h29 h30 h31 v23)), (h11, .inr (10, mX10 h12 h13 h14 h15 h16 h17 v11)), (h1, .inr (9, mX9 h2 h3 v1))]) (w1 := [(h18, .inr (0, mX0 h19 h20 h21 h22 v18))]) hP hD [1] [0, 2, 3, 4, 5] rfl rfl (by decide) (by decide) hk1 hFc hP1 hD1
      have hP : va_P (dC, dI) vwCl [(h0, .inr (11, mX11 h1 h4 h11 h18 h23 h32 h33 h40 h48 h49 sp0 lw0)), (h18, .inr (0, mX0 h19 h20 h21 h22 v18)), (h4, .inr (10, mX10 h5 h6 h7 h8 h9 h10 v4)), (h23, .inr (6, mX6 h24 h25 h26 h27 h28 h29 h30 h31 v23)), (h11, .inr (10, mX10 h12 h13 h14 h15 h16 h17 v11)), (h1, .inr (9, mX9 h2 h3 v1))] H1 := hP.sub [0, 5, 1, 2, 3, 4] rfl
      have hD : va_D A [(h0, .inr (11, mX11 h1 h4 h11 h18 h23 h32 h33 h40 h48 h49 sp0 lw0)), (h18, .inr (0, mX0 h19 h20 h21 h22 v18)), (h4, .inr (10, mX10 h5 h6 h7 h8 h9 h10 v4)), (h23, .inr (6, mX6 h24 h25 h26 h27 h28 h29 h30 h31 v23)), (h11, .inr (10, mX10 h12 h13 h14 h15 h16 h17 v11)), (h1, .inr (9, mX9 h2 h3 v1))] := hD.sub [0, 5, 1, 2, 3, 4] (by decide) rfl
      generalize H1 = H at hP hS ⊢
      clear hz1
      refine W.widen (k := 0) (n := 0) (by decide) (by decide) ?_
      have b_ : -2147483648 ≤ r56_.toInt ∧ r56_.toInt ≤ 2147483647 := ⟨zlo _, zhi _⟩
      have hpost : True := trivial
      have hP9 : va_P (dC, dI) vwCl [(h0, .inr (11, mX11 h1 h4 h11 h18 h23 h32 h33 h40 h48 h49 sp0 lw0)), (h18, .inr (0, mX0 h19 h20 h21 h22 v18)), (h4, .inr (10, mX10 h5 h6 h7 h8 h9 h10 v4)), (h23, .inr (6, mX6 h24 h25 h26 h27 h28 h29 h30 h31 v23)), (h11, .inr (10, mX10 h12 h13 h14 h15 h16 h17 v11)), (h1, .inr (9, mX9 h2 h3 v1))] H := hP
      have hD9 : va_D A [(h0, .inr (11, mX11 h1 h4 h11 h18 h23 h32 h33 h40 h48 h49 sp0 lw0)), (h18, .inr (0, mX0 h19 h20 h21 h22 v18)), (h4, .inr (10, mX10 h5 h6 h7 h8 h9 h10 v4)), (h23, .inr (6, mX6 h24 h25 h26 h27 h28 h29 h30 h31 v23)), (h11, .inr (10, mX10 h12 h13 h14 h15 h16 h17 v11)), (h1, .inr (9, mX9 h2 h3 v1))] := hD
      exact W.iret (v := r56_) hx hb hr (fun t ht hW => ⟨⟨r56_, (fun _ => 0), rfl, hpost, (fun _ => 0), (fun _ => (fun _ => 0)), (fun _ => (fun _ => 0)), by rw [ht]; exact hP9, va_K.moved hW.alike hK, hD9⟩, hS.F ht⟩) hS.2.2 dX11_count_59
    · skip
      have b_ : x1.toInt ≠ 1 := fun h => c_ (zeqi.mpr (h.trans zk_1.symm))
      rcases Classical.em (x1 = (2 : Int32)) with c_ | c_
      · skip
        have b_ : x1.toInt = 2 := by rw [c_]; exact zk_2
        refine lv_tableIn (off := 59) (tgt := 60) hx hb dX11_count_1 (by omega) (by omega) (by rw [b_]; decide) (by decide) ?_
        refine lv_aload_n hx hb dX11_count_60 rfl (lv_at hl 0 rfl) ?_
        refine va_get (D := (dC, dI)) (ci := 11) (v := .ref h4) (C := RX11) (T := TX11) (N := 12) hx hb hG zuX11 hown hK hP 0 rfl rfl 1 (by decide) (hG _ zv558) (fun _ h9 => h9) rfl dX11_count_61 ?_
        have hPc := hP.sub (ws' := [(h4, .inr (10, mX10 h5 h6 h7 h8 h9 h10 v4))]) [2] rfl
        have hDc := hD.sub (ws' := [(h4, .inr (10, mX10 h5 h6 h7 h8 h9 h10 v4))]) [2] (by decide) rfl
        have hKc := hK.sub (tys' := []) [] rfl
        have hFc := va_free (wc := [(h4, .inr (10, mX10 h5 h6 h7 h8 h9 h10 v4))]) hD hS hA [2] rfl
        refine va_calli (va_runV (As := []) (rest := []) ⟨hx, hb, hml, hown, hG⟩ (sX10_size_0 l dC dI adK adV h4 h5 h6 h7 h8 h9 h10 s.heap.size v4 hv4) (cwV 0 hG (zgV zv626 zv627 zv628 zv131 zv629) rfl rfl rfl (by decide +kernel) ⟨Nat.le_of_ble_eq_true rfl, Nat.le_of_ble_eq_true rfl⟩) ⟨zPc_blind, va_recv hKc hPc (ci := 10) (q0 := 0) rfl rfl, zPc_pre hPc hKc hDc hE hS hFc hZ⟩ rfl rfl hl.1 rfl (lv_room (Nat.le_of_ble_eq_true rfl)) dX11_count_64 ⟨Nat.le_of_ble_eq_true rfl, Nat.le_of_ble_eq_true rfl⟩) hS (fun q _ h => hFc q h) hFc (fun r64_ u64_ t H1 locs ht hvm hw hB hz1 hk1 hS => ?_)
        replace hw : (0 ≤ r64_.toInt ∧ r64_.toInt ≤ 400) ∧ (r64_.toInt = (v4 7).toInt) ∧ (r64_.toInt = (v4 7).toInt) := hw
        obtain ⟨b_, hX64_0, hX64_1⟩ := hw
        obtain ⟨w64_, a64_, b64_, hP1, hK1, hD1⟩ := hB
        rw [ht] at hP1
        obtain ⟨hP, hD⟩ := va_join (wr := [(h0, .inr (11, mX11 h1 h4 h11 h18 h23 h32 h33 h40 h48 h49 sp0 lw0)), (h18, .inr (0, mX0 h19 h20 h21 h22 v18)), (h23, .inr (6, mX6 h24 h25 h26 h27 h28 h29 h30 h31 v23)), (h11, .inr (10, mX10 h12 h13 h14 h15 h16 h17 v11)), (h1, .inr (9, mX9 h2 h3 v1))]) (w1 := [(h4, .inr (10, mX10 h5 h6 h7 h8 h9 h10 v4))]) hP hD [2] [0, 1, 3, 4, 5] rfl rfl (by decide) (by decide) hk1 hFc hP1 hD1
        have hP : va_P (dC, dI) vwCl [(h0, .inr (11, mX11 h1 h4 h11 h18 h23 h32 h33 h40 h48 h49 sp0 lw0)), (h18, .inr (0, mX0 h19 h20 h21 h22 v18)), (h4, .inr (10, mX10 h5 h6 h7 h8 h9 h10 v4)), (h23, .inr (6, mX6 h24 h25 h26 h27 h28 h29 h30 h31 v23)), (h11, .inr (10, mX10 h12 h13 h14 h15 h16 h17 v11)), (h1, .inr (9, mX9 h2 h3 v1))] H1 := hP.sub [0, 1, 5, 2, 3, 4] rfl
        have hD : va_D A [(h0, .inr (11, mX11 h1 h4 h11 h18 h23 h32 h33 h40 h48 h49 sp0 lw0)), (h18, .inr (0, mX0 h19 h20 h21 h22 v18)), (h4, .inr (10, mX10 h5 h6 h7 h8 h9 h10 v4)), (h23, .inr (6, mX6 h24 h25 h26 h27 h28 h29 h30 h31 v23)), (h11, .inr (10, mX10 h12 h13 h14 h15 h16 h17 v11)), (h1, .inr (9, mX9 h2 h3 v1))] := hD.sub [0, 1, 5, 2, 3, 4] (by decide) rfl
        generalize H1 = H at hP hS ⊢
        clear hz1
        refine W.widen (k := 0) (n := 0) (by decide) (by decide) ?_
        have hpost : True := trivial
        have hP9 : va_P (dC, dI) vwCl [(h0, .inr (11, mX11 h1 h4 h11 h18 h23 h32 h33 h40 h48 h49 sp0 lw0)), (h18, .inr (0, mX0 h19 h20 h21 h22 v18)), (h4, .inr (10, mX10 h5 h6 h7 h8 h9 h10 v4)), (h23, .inr (6, mX6 h24 h25 h26 h27 h28 h29 h30 h31 v23)), (h11, .inr (10, mX10 h12 h13 h14 h15 h16 h17 v11)), (h1, .inr (9, mX9 h2 h3 v1))] H := hP
        have hD9 : va_D A [(h0, .inr (11, mX11 h1 h4 h11 h18 h23 h32 h33 h40 h48 h49 sp0 lw0)), (h18, .inr (0, mX0 h19 h20 h21 h22 v18)), (h4, .inr (10, mX10 h5 h6 h7 h8 h9 h10 v4)), (h23, .inr (6, mX6 h24 h25 h26 h27 h28 h29 h30 h31 v23)), (h11, .inr (10, mX10 h12 h13 h14 h15 h16 h17 v11)), (h1, .inr (9, mX9 h2 h3 v1))] := hD
        exact W.iret (v := r64_) hx hb hr (fun t ht hW => ⟨⟨r64_, (fun _ => 0), rfl, hpost, (fun _ => 0), (fun _ => (fun _ => 0)), (fun _ => (fun _ => 0)), by rw [ht]; exact hP9, va_K.moved hW.alike hK, hD9⟩, hS.F ht⟩) hS.2.2 dX11_count_67
      · skip
        have b_ : x1.toInt ≠ 2 := fun h => c_ (zeqi.mpr (h.trans zk_2.symm))
        rcases Classical.em (x1 = (3 : Int32)) with c_ | c_
        · skip
          have b_ : x1.toInt = 3 := by rw [c_]; exact zk_3
          refine lv_tableIn (off := 67) (tgt := 68) hx hb dX11_count_1 (by omega) (by omega) (by rw [b_]; decide) (by decide) ?_
          refine lv_aload_n hx hb dX11_count_68 rfl (lv_at hl 0 rfl) ?_
          refine va_get (D := (dC, dI)) (ci := 11) (v := .ref h23) (C := RX11) (T := TX11) (N := 12) hx hb hG zuX11 hown hK hP 0 rfl rfl 4 (by decide) (hG _ zv561) (fun _ h9 => h9) rfl dX11_count_69 ?_
          have hPc := hP.sub (ws' := [(h23, .inr (6, mX6 h24 h25 h26 h27 h28 h29 h30 h31 v23))]) [3] rfl
          have hDc := hD.sub (ws' := [(h23, .inr (6, mX6 h24 h25 h26 h27 h28 h29 h30 h31 v23))]) [3] (by decide) rfl
          have hKc := hK.sub (tys' := []) [] rfl
          have hFc := va_free (wc := [(h23, .inr (6, mX6 h24 h25 h26 h27 h28 h29 h30 h31 v23))]) hD hS hA [3] rfl
          refine va_calli (va_runV (As := []) (rest := []) ⟨hx, hb, hml, hown, hG⟩ (sX6_taken_0 l dC dI adK adV h23 h24 h25 h26 h27 h28 h29 h30 h31 s.heap.size v23 hv23) (cwV 0 hG (zgV zv891 zv768 zv769 zv133 zv770) rfl rfl rfl (by decide +kernel) ⟨Nat.le_of_ble_eq_true rfl, Nat.le_of_ble_eq_true rfl⟩) ⟨zPc_blind, va_recv hKc hPc (ci := 6) (q0 := 0) rfl rfl, zPc_pre hPc hKc hDc hE hS hFc hZ⟩ rfl rfl hl.1 rfl (lv_room (Nat.le_of_ble_eq_true rfl)) dX11_count_72 ⟨Nat.le_of_ble_eq_true rfl, Nat.le_of_ble_eq_true rfl⟩) hS (fun q _ h => hFc q h) hFc (fun r72_ u72_ t H1 locs ht hvm hw hB hz1 hk1 hS => ?_)
          replace hw : (r72_.toInt = (v23 11).toInt) := hw
          have hX72_0 := hw
          obtain ⟨w72_, a72_, b72_, hP1, hK1, hD1⟩ := hB
          rw [ht] at hP1
          obtain ⟨hP, hD⟩ := va_join (wr := [(h0, .inr (11, mX11 h1 h4 h11 h18 h23 h32 h33 h40 h48 h49 sp0 lw0)), (h18, .inr (0, mX0 h19 h20 h21 h22 v18)), (h4, .inr (10, mX10 h5 h6 h7 h8 h9 h10 v4)), (h11, .inr (10, mX10 h12 h13 h14 h15 h16 h17 v11)), (h1, .inr (9, mX9 h2 h3 v1))]) (w1 := [(h23, .inr (6, mX6 h24 h25 h26 h27 h28 h29 h30 h31 v23))]) hP hD [3] [0, 1, 2, 4, 5] rfl rfl (by decide) (by decide) hk1 hFc hP1 hD1
          have hP : va_P (dC, dI) vwCl [(h0, .inr (11, mX11 h1 h4 h11 h18 h23 h32 h33 h40 h48 h49 sp0 lw0)), (h18, .inr (0, mX0 h19 h20 h21 h22 v18)), (h4, .inr (10, mX10 h5 h6 h7 h8 h9 h10 v4)), (h23, .inr (6, mX6 h24 h25 h26 h27 h28 h29 h30 h31 v23)), (h11, .inr (10, mX10 h12 h13 h14 h15 h16 h17 v11)), (h1, .inr (9, mX9 h2 h3 v1))] H1 := hP.sub [0, 1, 2, 5, 3, 4] rfl
          have hD : va_D A [(h0, .inr (11, mX11 h1 h4 h11 h18 h23 h32 h33 h40 h48 h49 sp0 lw0)), (h18, .inr (0, mX0 h19 h20 h21 h22 v18)), (h4, .inr (10, mX10 h5 h6 h7 h8 h9 h10 v4)), (h23, .inr (6, mX6 h24 h25 h26 h27 h28 h29 h30 h31 v23)), (h11, .inr (10, mX10 h12 h13 h14 h15 h16 h17 v11)), (h1, .inr (9, mX9 h2 h3 v1))] := hD.sub [0, 1, 2, 5, 3, 4] (by decide) rfl
          generalize H1 = H at hP hS ⊢
          clear hz1
          refine W.widen (k := 0) (n := 0) (by decide) (by decide) ?_
          have b_ : -2147483648 ≤ r72_.toInt ∧ r72_.toInt ≤ 2147483647 := ⟨zlo _, zhi _⟩
          have hpost : True := trivial
          have hP9 : va_P (dC, dI) vwCl [(h0, .inr (11, mX11 h1 h4 h11 h18 h23 h32 h33 h40 h48 h49 sp0 lw0)), (h18, .inr (0, mX0 h19 h20 h21 h22 v18)), (h4, .inr (10, mX10 h5 h6 h7 h8 h9 h10 v4)), (h23, .inr (6, mX6 h24 h25 h26 h27 h28 h29 h30 h31 v23)), (h11, .inr (10, mX10 h12 h13 h14 h15 h16 h17 v11)), (h1, .inr (9, mX9 h2 h3 v1))] H := hP
          have hD9 : va_D A [(h0, .inr (11, mX11 h1 h4 h11 h18 h23 h32 h33 h40 h48 h49 sp0 lw0)), (h18, .inr (0, mX0 h19 h20 h21 h22 v18)), (h4, .inr (10, mX10 h5 h6 h7 h8 h9 h10 v4)), (h23, .inr (6, mX6 h24 h25 h26 h27 h28 h29 h30 h31 v23)), (h11, .inr (10, mX10 h12 h13 h14 h15 h16 h17 v11)), (h1, .inr (9, mX9 h2 h3 v1))] := hD
          exact W.iret (v := r72_) hx hb hr (fun t ht hW => ⟨⟨r72_, (fun _ => 0), rfl, hpost, (fun _ => 0), (fun _ => (fun _ => 0)), (fun _ => (fun _ => 0)), by rw [ht]; exact hP9, va_K.moved hW.alike hK, hD9⟩, hS.F ht⟩) hS.2.2 dX11_count_75
        · skip
          have b_ : x1.toInt ≠ 3 := fun h => c_ (zeqi.mpr (h.trans zk_3.symm))
          rcases Classical.em (x1 = (4 : Int32)) with c_ | c_
          · skip
            have b_ : x1.toInt = 4 := by rw [c_]; exact zk_4
            refine lv_tableIn (off := 75) (tgt := 76) hx hb dX11_count_1 (by omega) (by omega) (by rw [b_]; decide) (by decide) ?_
            refine lv_aload_n hx hb dX11_count_76 rfl (lv_at hl 0 rfl) ?_
            refine va_get (D := (dC, dI)) (ci := 11) (v := .ref h23) (C := RX11) (T := TX11) (N := 12) hx hb hG zuX11 hown hK hP 0 rfl rfl 4 (by decide) (hG _ zv561) (fun _ h9 => h9) rfl dX11_count_77 ?_
            have hPc := hP.sub (ws' := [(h23, .inr (6, mX6 h24 h25 h26 h27 h28 h29 h30 h31 v23))]) [3] rfl
            have hDc := hD.sub (ws' := [(h23, .inr (6, mX6 h24 h25 h26 h27 h28 h29 h30 h31 v23))]) [3] (by decide) rfl
            have hKc := hK.sub (tys' := []) [] rfl
            have hFc := va_free (wc := [(h23, .inr (6, mX6 h24 h25 h26 h27 h28 h29 h30 h31 v23))]) hD hS hA [3] rfl
            refine va_calli (va_runV (As := []) (rest := []) ⟨hx, hb, hml, hown, hG⟩ (sX6_allBits_0 l dC dI adK adV h23 h24 h25 h26 h27 h28 h29 h30 h31 s.heap.size v23 hv23) (cwV 0 hG (zgV zv997 zv998 zv999 zv133 zv1000) rfl rfl rfl (by decide +kernel) ⟨Nat.le_of_ble_eq_true rfl, Nat.le_of_ble_eq_true rfl⟩) ⟨zPc_blind, va_recv hKc hPc (ci := 6) (q0 := 0) rfl rfl, zPc_pre hPc hKc hDc hE hS hFc hZ⟩ rfl rfl hl.1 rfl (lv_room (Nat.le_of_ble_eq_true rfl)) dX11_count_80 ⟨Nat.le_of_ble_eq_true rfl, Nat.le_of_ble_eq_true rfl⟩) hS (fun q _ h => hFc q h) hFc (fun r80_ u80_ t H1 locs ht hvm hw hB hz1 hk1 hS => ?_)
            replace hw : (r80_.toInt = (v23 10).toInt) := hw
            have hX80_0 := hw
            obtain ⟨w80_, a80_, b80_, hP1, hK1, hD1⟩ := hB
            rw [ht] at hP1
            obtain ⟨hP, hD⟩ := va_join (wr := [(h0, .inr (11, mX11 h1 h4 h11 h18 h23 h32 h33 h40 h48 h49 sp0 lw0)), (h18, .inr (0, mX0 h19 h20 h21 h22 v18)), (h4, .inr (10, mX10 h5 h6 h7 h8 h9 h10 v4)), (h11, .inr (10, mX10 h12 h13 h14 h15 h16 h17 v11)), (h1, .inr (9, mX9 h2 h3 v1))]) (w1 := [(h23, .inr (6, mX6 h24 h25 h26 h27 h28 h29 h30 h31 v23))]) hP hD [3] [0, 1, 2, 4, 5] rfl rfl (by decide) (by decide) hk1 hFc hP1 hD1
            have hP : va_P (dC, dI) vwCl [(h0, .inr (11, mX11 h1 h4 h11 h18 h23 h32 h33 h40 h48 h49 sp0 lw0)), (h18, .inr (0, mX0 h19 h20 h21 h22 v18)), (h4, .inr (10, mX10 h5 h6 h7 h8 h9 h10 v4)), (h23, .inr (6, mX6 h24 h25 h26 h27 h28 h29 h30 h31 v23)), (h11, .inr (10, mX10 h12 h13 h14 h15 h16 h17 v11)), (h1, .inr (9, mX9 h2 h3 v1))] H1 := hP.sub [0, 1, 2, 5, 3, 4] rfl
            have hD : va_D A [(h0, .inr (11, mX11 h1 h4 h11 h18 h23 h32 h33 h40 h48 h49 sp0 lw0)), (h18, .inr (0, mX0 h19 h20 h21 h22 v18)), (h4, .inr (10, mX10 h5 h6 h7 h8 h9 h10 v4)), (h23, .inr (6, mX6 h24 h25 h26 h27 h28 h29 h30 h31 v23)), (h11, .inr (10, mX10 h12 h13 h14 h15 h16 h17 v11)), (h1, .inr (9, mX9 h2 h3 v1))] := hD.sub [0, 1, 2, 5, 3, 4] (by decide) rfl
            generalize H1 = H at hP hS ⊢
            clear hz1
            refine W.widen (k := 0) (n := 0) (by decide) (by decide) ?_
            have b_ : -2147483648 ≤ r80_.toInt ∧ r80_.toInt ≤ 2147483647 := ⟨zlo _, zhi _⟩
            have hpost : True := trivial
            have hP9 : va_P (dC, dI) vwCl [(h0, .inr (11, mX11 h1 h4 h11 h18 h23 h32 h33 h40 h48 h49 sp0 lw0)), (h18, .inr (0, mX0 h19 h20 h21 h22 v18)), (h4, .inr (10, mX10 h5 h6 h7 h8 h9 h10 v4)), (h23, .inr (6, mX6 h24 h25 h26 h27 h28 h29 h30 h31 v23)), (h11, .inr (10, mX10 h12 h13 h14 h15 h16 h17 v11)), (h1, .inr (9, mX9 h2 h3 v1))] H := hP
            have hD9 : va_D A [(h0, .inr (11, mX11 h1 h4 h11 h18 h23 h32 h33 h40 h48 h49 sp0 lw0)), (h18, .inr (0, mX0 h19 h20 h21 h22 v18)), (h4, .inr (10, mX10 h5 h6 h7 h8 h9 h10 v4)), (h23, .inr (6, mX6 h24 h25 h26 h27 h28 h29 h30 h31 v23)), (h11, .inr (10, mX10 h12 h13 h14 h15 h16 h17 v11)), (h1, .inr (9, mX9 h2 h3 v1))] := hD
            exact W.iret (v := r80_) hx hb hr (fun t ht hW => ⟨⟨r80_, (fun _ => 0), rfl, hpost, (fun _ => 0), (fun _ => (fun _ => 0)), (fun _ => (fun _ => 0)), by rw [ht]; exact hP9, va_K.moved hW.alike hK, hD9⟩, hS.F ht⟩) hS.2.2 dX11_count_83
          · skip
            have b_ : x1.toInt ≠ 4 := fun h => c_ (zeqi.mpr (h.trans zk_4.symm))
            rcases Classical.em (x1 = (5 : Int32)) with c_ | c_
            · skip
              have b_ : x1.toInt = 5 := by rw [c_]; exact zk_5
              refine lv_tableIn (off := 83) (tgt := 84) hx hb dX11_count_1 (by omega) (by omega) (by rw [b_]; decide) (by decide) ?_
              refine lv_aload_n hx hb dX11_count_84 rfl (lv_at hl 0 rfl) ?_
              refine va_get (D := (dC, dI)) (ci := 11) (v := .ref h11) (C := RX11) (T := TX11) (N := 12) hx hb hG zuX11 hown hK hP 0 rfl rfl 2 (by decide) (hG _ zv559) (fun _ h9 => h9) rfl dX11_count_85 ?_
              have hPc := hP.sub (ws' := [(h11, .inr (10, mX10 h12 h13 h14 h15 h16 h17 v11))]) [4] rfl
              have hDc := hD.sub (ws' := [(h11, .inr (10, mX10 h12 h13 h14 h15 h16 h17 v11))]) [4] (by decide) rfl
              have hKc := hK.sub (tys' := []) [] rfl
              have hFc := va_free (wc := [(h11, .inr (10, mX10 h12 h13 h14 h15 h16 h17 v11))]) hD hS hA [4] rfl
              refine va_calli (va_runV (As := []) (rest := []) ⟨hx, hb, hml, hown, hG⟩ (sX10_size_1 l dC dI adK adV h11 h12 h13 h14 h15 h16 h17 s.heap.size v11 hv11) (cwV 0 hG (zgV zv626 zv627 zv628 zv131 zv629) rfl rfl rfl (by decide +kernel) ⟨Nat.le_of_ble_eq_true rfl, Nat.le_of_ble_eq_true rfl⟩) ⟨zPc_blind, va_recv hKc hPc (ci := 10) (q0 := 0) rfl rfl, zPc_pre hPc hKc hDc hE hS hFc hZ⟩ rfl rfl hl.1 rfl (lv_room (Nat.le_of_ble_eq_true rfl)) dX11_count_88 ⟨Nat.le_of_ble_eq_true rfl, Nat.le_of_ble_eq_true rfl⟩) hS (fun q _ h => hFc q h) hFc (fun r88_ u88_ t H1 locs ht hvm hw hB hz1 hk1 hS => ?_)
              replace hw : (0 ≤ r88_.toInt ∧ r88_.toInt ≤ 10) ∧ (r88_.toInt = (v11 7).toInt) ∧ (r88_.toInt = (v11 7).toInt) := hw
              obtain ⟨b_, hX88_0, hX88_1⟩ := hw
              obtain ⟨w88_, a88_, b88_, hP1, hK1, hD1⟩ := hB
              rw [ht] at hP1
              obtain ⟨hP, hD⟩ := va_join (wr := [(h0, .inr (11, mX11 h1 h4 h11 h18 h23 h32 h33 h40 h48 h49 sp0 lw0)), (h18, .inr (0, mX0 h19 h20 h21 h22 v18)), (h4, .inr (10, mX10 h5 h6 h7 h8 h9 h10 v4)), (h23, .inr (6, mX6 h24 h25 h26 h27 h28 h29 h30 h31 v23)), (h1, .inr (9, mX9 h2 h3 v1))]) (w1 := [(h11, .inr (10, mX10 h12 h13 h14 h15 h16 h17 v11))]) hP hD [4] [0, 1, 2, 3, 5] rfl rfl (by decide) (by decide) hk1 hFc hP1 hD1
              have hP : va_P (dC, dI) vwCl [(h0, .inr (11, mX11 h1 h4 h11 h18 h23 h32 h33 h40 h48 h49 sp0 lw0)), (h18, .inr (0, mX0 h19 h20 h21 h22 v18)), (h4, .inr (10, mX10 h5 h6 h7 h8 h9 h10 v4)), (h23, .inr (6, mX6 h24 h25 h26 h27 h28 h29 h30 h31 v23)), (h11, .inr (10, mX10 h12 h13 h14 h15 h16 h17 v11)), (h1, .inr (9, mX9 h2 h3 v1))] H1 := hP.sub [0, 1, 2, 3, 5, 4] rfl
              have hD : va_D A [(h0, .inr (11, mX11 h1 h4 h11 h18 h23 h32 h33 h40 h48 h49 sp0 lw0)), (h18, .inr (0, mX0 h19 h20 h21 h22 v18)), (h4, .inr (10, mX10 h5 h6 h7 h8 h9 h10 v4)), (h23, .inr (6, mX6 h24 h25 h26 h27 h28 h29 h30 h31 v23)), (h11, .inr (10, mX10 h12 h13 h14 h15 h16 h17 v11)), (h1, .inr (9, mX9 h2 h3 v1))] := hD.sub [0, 1, 2, 3, 5, 4] (by decide) rfl
              generalize H1 = H at hP hS ⊢
              clear hz1
              refine W.widen (k := 0) (n := 0) (by decide) (by decide) ?_
              have hpost : True := trivial
              have hP9 : va_P (dC, dI) vwCl [(h0, .inr (11, mX11 h1 h4 h11 h18 h23 h32 h33 h40 h48 h49 sp0 lw0)), (h18, .inr (0, mX0 h19 h20 h21 h22 v18)), (h4, .inr (10, mX10 h5 h6 h7 h8 h9 h10 v4)), (h23, .inr (6, mX6 h24 h25 h26 h27 h28 h29 h30 h31 v23)), (h11, .inr (10, mX10 h12 h13 h14 h15 h16 h17 v11)), (h1, .inr (9, mX9 h2 h3 v1))] H := hP
              have hD9 : va_D A [(h0, .inr (11, mX11 h1 h4 h11 h18 h23 h32 h33 h40 h48 h49 sp0 lw0)), (h18, .inr (0, mX0 h19 h20 h21 h22 v18)), (h4, .inr (10, mX10 h5 h6 h7 h8 h9 h10 v4)), (h23, .inr (6, mX6 h24 h25 h26 h27 h28 h29 h30 h31 v23)), (h11, .inr (10, mX10 h12 h13 h14 h15 h16 h17 v11)), (h1, .inr (9, mX9 h2 h3 v1))] := hD
              exact W.iret (v := r88_) hx hb hr (fun t ht hW => ⟨⟨r88_, (fun _ => 0), rfl, hpost, (fun _ => 0), (fun _ => (fun _ => 0)), (fun _ => (fun _ => 0)), by rw [ht]; exact hP9, va_K.moved hW.alike hK, hD9⟩, hS.F ht⟩) hS.2.2 dX11_count_91
            · skip
              have b_ : x1.toInt ≠ 5 := fun h => c_ (zeqi.mpr (h.trans zk_5.symm))
              rcases Classical.em (x1 = (6 : Int32)) with c_ | c_
              · skip
                have b_ : x1.toInt = 6 := by rw [c_]; exact zk_6
                refine lv_tableIn (off := 91) (tgt := 92) hx hb dX11_count_1 (by omega) (by omega) (by rw [b_]; decide) (by decide) ?_
                refine lv_aload_n hx hb dX11_count_92 rfl (lv_at hl 0 rfl) ?_
                refine va_get (D := (dC, dI)) (ci := 11) (v := .ref h1) (C := RX11) (T := TX11) (N := 12) hx hb hG zuX11 hown hK hP 0 rfl rfl 0 (by decide) (hG _ zv557) (fun _ h9 => h9) rfl dX11_count_93 ?_
                have hPc := hP.sub (ws' := [(h1, .inr (9, mX9 h2 h3 v1))]) [5] rfl
                have hDc := hD.sub (ws' := [(h1, .inr (9, mX9 h2 h3 v1))]) [5] (by decide) rfl
                have hKc := hK.sub (tys' := []) [] rfl
                have hFc := va_free (wc := [(h1, .inr (9, mX9 h2 h3 v1))]) hD hS hA [5] rfl
                refine va_calli (va_runV (As := []) (rest := []) ⟨hx, hb, hml, hown, hG⟩ (sX9_size_0 l dC dI adK adV h1 h2 h3 s.heap.size v1 hv1) (cwV 0 hG (zgV zv606 zv607 zv608 zv130 zv609) rfl rfl rfl (by decide +kernel) ⟨Nat.le_of_ble_eq_true rfl, Nat.le_of_ble_eq_true rfl⟩) ⟨zPc_blind, va_recv hKc hPc (ci := 9) (q0 := 0) rfl rfl, zPc_pre hPc hKc hDc hE hS hFc hZ⟩ rfl rfl hl.1 rfl (lv_room (Nat.le_of_ble_eq_true rfl)) dX11_count_96 ⟨Nat.le_of_ble_eq_true rfl, Nat.le_of_ble_eq_true rfl⟩) hS (fun q _ h => hFc q h) hFc (fun r96_ u96_ t H1 locs ht hvm hw hB hz1 hk1 hS => ?_)
                replace hw : (0 ≤ r96_.toInt ∧ r96_.toInt ≤ 600) ∧ (r96_.toInt = (v1 2).toInt) := hw
                obtain ⟨b_, hX96_0⟩ := hw
                obtain ⟨w96_, a96_, b96_, hP1, hK1, hD1⟩ := hB
                rw [ht] at hP1
                obtain ⟨hP, hD⟩ := va_join (wr := [(h0, .inr (11, mX11 h1 h4 h11 h18 h23 h32 h33 h40 h48 h49 sp0 lw0)), (h18, .inr (0, mX0 h19 h20 h21 h22 v18)), (h4, .inr (10, mX10 h5 h6 h7 h8 h9 h10 v4)), (h23, .inr (6, mX6 h24 h25 h26 h27 h28 h29 h30 h31 v23)), (h11, .inr (10, mX10 h12 h13 h14 h15 h16 h17 v11))]) (w1 := [(h1, .inr (9, mX9 h2 h3 v1))]) hP hD [5] [0, 1, 2, 3, 4] rfl rfl (by decide) (by decide) hk1 hFc hP1 hD1
                have hP : va_P (dC, dI) vwCl [(h0, .inr (11, mX11 h1 h4 h11 h18 h23 h32 h33 h40 h48 h49 sp0 lw0)), (h18, .inr (0, mX0 h19 h20 h21 h22 v18)), (h4, .inr (10, mX10 h5 h6 h7 h8 h9 h10 v4)), (h23, .inr (6, mX6 h24 h25 h26 h27 h28 h29 h30 h31 v23)), (h11, .inr (10, mX10 h12 h13 h14 h15 h16 h17 v11)), (h1, .inr (9, mX9 h2 h3 v1))] H1 := hP.sub [0, 1, 2, 3, 4, 5] rfl
                have hD : va_D A [(h0, .inr (11, mX11 h1 h4 h11 h18 h23 h32 h33 h40 h48 h49 sp0 lw0)), (h18, .inr (0, mX0 h19 h20 h21 h22 v18)), (h4, .inr (10, mX10 h5 h6 h7 h8 h9 h10 v4)), (h23, .inr (6, mX6 h24 h25 h26 h27 h28 h29 h30 h31 v23)), (h11, .inr (10, mX10 h12 h13 h14 h15 h16 h17 v11)), (h1, .inr (9, mX9 h2 h3 v1))] := hD.sub [0, 1, 2, 3, 4, 5] (by decide) rfl
                generalize H1 = H at hP hS ⊢
                clear hz1
                refine W.widen (k := 0) (n := 0) (by decide) (by decide) ?_
                have hpost : True := trivial
                have hP9 : va_P (dC, dI) vwCl [(h0, .inr (11, mX11 h1 h4 h11 h18 h23 h32 h33 h40 h48 h49 sp0 lw0)), (h18, .inr (0, mX0 h19 h20 h21 h22 v18)), (h4, .inr (10, mX10 h5 h6 h7 h8 h9 h10 v4)), (h23, .inr (6, mX6 h24 h25 h26 h27 h28 h29 h30 h31 v23)), (h11, .inr (10, mX10 h12 h13 h14 h15 h16 h17 v11)), (h1, .inr (9, mX9 h2 h3 v1))] H := hP
                have hD9 : va_D A [(h0, .inr (11, mX11 h1 h4 h11 h18 h23 h32 h33 h40 h48 h49 sp0 lw0)), (h18, .inr (0, mX0 h19 h20 h21 h22 v18)), (h4, .inr (10, mX10 h5 h6 h7 h8 h9 h10 v4)), (h23, .inr (6, mX6 h24 h25 h26 h27 h28 h29 h30 h31 v23)), (h11, .inr (10, mX10 h12 h13 h14 h15 h16 h17 v11)), (h1, .inr (9, mX9 h2 h3 v1))] := hD
                exact W.iret (v := r96_) hx hb hr (fun t ht hW => ⟨⟨r96_, (fun _ => 0), rfl, hpost, (fun _ => 0), (fun _ => (fun _ => 0)), (fun _ => (fun _ => 0)), by rw [ht]; exact hP9, va_K.moved hW.alike hK, hD9⟩, hS.F ht⟩) hS.2.2 dX11_count_99
              · skip
                have b_ : x1.toInt ≠ 6 := fun h => c_ (zeqi.mpr (h.trans zk_6.symm))
                refine lv_tableOut (tgt := 100) hx hb dX11_count_1 (by omega) (by decide) ?_
                refine lv_iconst (v := (-1)) hx hb dX11_count_100 (by decide) ?_
                refine W.widen (k := 0) (n := 0) (by decide) (by decide) ?_
                have hpost : True := trivial
                have hP9 : va_P (dC, dI) vwCl [(h0, .inr (11, mX11 h1 h4 h11 h18 h23 h32 h33 h40 h48 h49 sp0 lw0)), (h18, .inr (0, mX0 h19 h20 h21 h22 v18)), (h4, .inr (10, mX10 h5 h6 h7 h8 h9 h10 v4)), (h23, .inr (6, mX6 h24 h25 h26 h27 h28 h29 h30 h31 v23)), (h11, .inr (10, mX10 h12 h13 h14 h15 h16 h17 v11)), (h1, .inr (9, mX9 h2 h3 v1))] s.heap := hP
                have hD9 : va_D A [(h0, .inr (11, mX11 h1 h4 h11 h18 h23 h32 h33 h40 h48 h49 sp0 lw0)), (h18, .inr (0, mX0 h19 h20 h21 h22 v18)), (h4, .inr (10, mX10 h5 h6 h7 h8 h9 h10 v4)), (h23, .inr (6, mX6 h24 h25 h26 h27 h28 h29 h30 h31 v23)), (h11, .inr (10, mX10 h12 h13 h14 h15 h16 h17 v11)), (h1, .inr (9, mX9 h2 h3 v1))] := hD
                exact W.iret (v := (-1)) hx hb hr (fun t ht hW => ⟨⟨(-1), (fun _ => 0), rfl, hpost, (fun _ => 0), (fun _ => (fun _ => 0)), (fun _ => (fun _ => 0)), by rw [ht]; exact hP9, va_K.moved hW.alike hK, hD9⟩, hS.F ht⟩) hS.2.2 dX11_count_101
set_option maxHeartbeats 8000000 in
set_option maxRecDepth 100000 in
theorem sX10_wordAt_0 (l : Launch) (dC : Nat → ClassId) (dI : Nat → Nat → Nat) (adK adV : Nat → Nat) (h0 : Nat) (h1 : Nat) (h2 : Nat) (h3 : Nat) (h4 : Nat) (h5 : Nat) (h6 : Nat) (k1 : ClassId) (sz : Nat) (v0 : Nat → Int32) (f1 : Nat → Int64) (x1 : Int32) (hv0 : zR rg_Words400 v0) : Met l yX10_wordAt (zw yX10_wordAt cX10_wordAt 2 (some .long)) { frames := 0, cells := 0, slots := 0, locals := 0 } (zPc dC dI adK adV [.ref h0, .int x1] sz [(h0, .inr (10, mX10 h1 h2 h3 h4 h5 h6 v0)), (h1, .inl (k1, 400, .inr (.inl f1)))] [(k1, .long)]) (va_Ql (fun (r : Int64) (u : Nat → Int32) => True) (fun (u : Nat → Int32) (t : State) => ∃ (ww : Nat → Int64) (aa : Nat → Nat → Int32) (bb : Nat → Nat → Int64), va_P (dC, dI) vwCl [(h0, .inr (10, mX10 h1 h2 h3 h4 h5 h6 v0)), (h1, .inl (k1, 400, .inr (.inl f1)))] t.heap ∧ va_K (dC, dI) vwCl [(k1, .long)] t ∧ va_D (va_A [(h0, .inr (10, mX10 h1 h2 h3 h4 h5 h6 v0)), (h1, .inl (k1, 400, .inr (.inl f1)))] sz) [(h0, .inr (10, mX10 h1 h2 h3 h4 h5 h6 v0)), (h1, .inl (k1, 400, .inr (.inl f1)))]) (va_A [(h0, .inr (10, mX10 h1 h2 h3 h4 h5 h6 v0)), (h1, .inl (k1, 400, .inr (.inl f1)))] sz)) 0 0 (va_A [(h0, .inr (10, mX10 h1 h2 h3 h4 h5 h6 v0)), (h1, .inl (k1, 400, .inr (.inl f1)))] sz) := by
  refine Met.ofW (cc := cX10_wordAt) (maxL := 2) (ret := (some .long)) (by decide) rfl ?_
  intro p e s m args below meth c s₁ B hml hv
  obtain ⟨rfl, hsz, hP, hK, hD0, hE, hZ⟩ := hv
  have hx := B.exec
  have hb := B.bytes
  have hr := B.returns
  have hG : ∀ w ∈ zG, w.before _ s = true := fun w h => atoms_spec (ws := (zw yX10_wordAt cX10_wordAt 2 (some .long))) B.pre w (List.mem_cons_of_mem _ h)
  have hown : s.vm.findClass RX10 = some m.cls := findClass_of_methodNamed B.named
  have hlocks := B.notSynchronized

  subst hsz
  have hD := hD0.self (sz := s.heap.size)
  generalize hAe : va_A [(h0, .inr (10, mX10 h1 h2 h3 h4 h5 h6 v0)), (h1, .inl (k1, 400, .inr (.inl f1)))] s.heap.size = A at hD hZ ⊢
  have hA : ∀ q : Nat, s.heap.size ≤ q → A q := fun q h => by rw [← hAe]; exact Or.inr h
  have hS : va_S A s.heap s.heap [] := va_S.rf
  have hl := lv_entry ([.ref h0, .int x1]) (n := 2) (Nat.le_of_ble_eq_true rfl)
  rw [lg_entry_eq]
  generalize (lg_sl ([.ref h0, .int x1]) ++ List.replicate (2 - (lg_sl ([.ref h0, .int x1])).length) Slot.unset).toArray = ls at hl ⊢
  have hl : lv_has ls 2 [(0, .ref h0), (1, .int x1)] := hl
  refine lv_iload_n hx hb dX10_wordAt_0 rfl (lv_at hl 1 rfl) ?_
  have b_ : -2147483648 ≤ x1.toInt ∧ x1.toInt ≤ 2147483647 := ⟨zlo _, zhi _⟩
  refine lv_if_lt (tgt := 21) hx hb dX10_wordAt_1 (by decide) (fun c_ => ?_) (fun c_ => ?_)
  · skip
    have b_ := zT_lt rfl zk_0 c_
    refine lv_lconst (v := 0) hx hb dX10_wordAt_21 (by decide) ?_
    refine W.widen (k := 0) (n := 0) (by decide) (by decide) ?_
    have hpost : True := trivial
    have hP9 : va_P (dC, dI) vwCl [(h0, .inr (10, mX10 h1 h2 h3 h4 h5 h6 v0)), (h1, .inl (k1, 400, .inr (.inl f1)))] s.heap := hP
    have hD9 : va_D A [(h0, .inr (10, mX10 h1 h2 h3 h4 h5 h6 v0)), (h1, .inl (k1, 400, .inr (.inl f1)))] := hD
    exact W.lret (v := 0) hx hb hr (fun t ht hW => ⟨⟨0, (fun _ => 0), rfl, hpost, (fun _ => 0), (fun _ => (fun _ => 0)), (fun _ => (fun _ => 0)), by rw [ht]; exact hP9, va_K.moved hW.alike hK, hD9⟩, hS.F ht⟩) hS.2.2 dX10_wordAt_22
  · skip
    have b_ := zF_lt rfl zk_0 c_
    refine lv_iload_n hx hb dX10_wordAt_4 rfl (lv_at hl 1 rfl) ?_
    refine lv_aload_n hx hb dX10_wordAt_5 rfl (lv_at hl 0 rfl) ?_
    have b_ : 0 ≤ (v0 7).toInt ∧ (v0 7).toInt ≤ 400 := hv0 7
    refine va_get (D := (dC, dI)) (ci := 10) (v := .int (v0 7)) (C := RX10) (T := TX10) (N := 8) hx hb hG zuX10 hown hK hP 0 rfl rfl 7 (by decide) (hG _ zv196) (fun _ h9 => h9) rfl dX10_wordAt_6 ?_
    refine lv_icmp_ge (tgt := 21) hx hb dX10_wordAt_9 (by decide) (fun c_ => ?_) (fun c_ => ?_)
    · skip
      have b_ := zT_ge rfl rfl c_
      refine lv_lconst (v := 0) hx hb dX10_wordAt_21 (by decide) ?_
      refine W.widen (k := 0) (n := 0) (by decide) (by decide) ?_
      have hpost : True := trivial
      have hP9 : va_P (dC, dI) vwCl [(h0, .inr (10, mX10 h1 h2 h3 h4 h5 h6 v0)), (h1, .inl (k1, 400, .inr (.inl f1)))] s.heap := hP
      have hD9 : va_D A [(h0, .inr (10, mX10 h1 h2 h3 h4 h5 h6 v0)), (h1, .inl (k1, 400, .inr (.inl f1)))] := hD
      exact W.lret (v := 0) hx hb hr (fun t ht hW => ⟨⟨0, (fun _ => 0), rfl, hpost, (fun _ => 0), (fun _ => (fun _ => 0)), (fun _ => (fun _ => 0)), by rw [ht]; exact hP9, va_K.moved hW.alike hK, hD9⟩, hS.F ht⟩) hS.2.2 dX10_wordAt_22
    · skip
      have b_ := zF_ge rfl rfl c_
      refine lv_aload_n hx hb dX10_wordAt_12 rfl (lv_at hl 0 rfl) ?_
      refine va_get (D := (dC, dI)) (ci := 10) (v := .ref h1) (C := RX10) (T := TX10) (N := 8) hx hb hG zuX10 hown hK hP 0 rfl rfl 1 (by decide) (hG _ zv190) (fun _ h9 => h9) rfl dX10_wordAt_13 ?_
      refine lv_iload_n hx hb dX10_wordAt_16 rfl (lv_at hl 1 rfl) ?_
      refine va_lald hx hb hK hP 1 0 rfl rfl (zin_lit ⟨by omega, by omega⟩) dX10_wordAt_17 ?_
      refine lv_topl (fun y_17 e_y_17 => ?_)
      refine lv_goto (tgt := 22) hx hb dX10_wordAt_18 (by decide) ?_
      refine W.widen (k := 0) (n := 0) (by decide) (by decide) ?_
      have hpost : True := trivial
      have hP9 : va_P (dC, dI) vwCl [(h0, .inr (10, mX10 h1 h2 h3 h4 h5 h6 v0)), (h1, .inl (k1, 400, .inr (.inl f1)))] s.heap := hP
      have hD9 : va_D A [(h0, .inr (10, mX10 h1 h2 h3 h4 h5 h6 v0)), (h1, .inl (k1, 400, .inr (.inl f1)))] := hD
      exact W.lret (v := y_17) hx hb hr (fun t ht hW => ⟨⟨y_17, (fun _ => 0), rfl, hpost, (fun _ => 0), (fun _ => (fun _ => 0)), (fun _ => (fun _ => 0)), by rw [ht]; exact hP9, va_K.moved hW.alike hK, hD9⟩, hS.F ht⟩) hS.2.2 dX10_wordAt_22
set_option maxHeartbeats 8000000 in
set_option maxRecDepth 100000 in
theorem sX10_byteOf_0 (l : Launch) (dC : Nat → ClassId) (dI : Nat → Nat → Nat) (adK adV : Nat → Nat) (sz : Nat) (y0 : Int64) (x1 : Int32) : Met l yX10_byteOf (zw yX10_byteOf cX10_byteOf 6 (some .int)) { frames := 0, cells := 0, slots := 0, locals := 0 } (zPc dC dI adK adV [.long y0, .int x1] sz [] []) (va_Qi (fun (r : Int32) (u : Nat → Int32) => True) (fun (u : Nat → Int32) (t : State) => ∃ (ww : Nat → Int64) (aa : Nat → Nat → Int32) (bb : Nat → Nat → Int64), va_P (dC, dI) vwCl [] t.heap ∧ va_K (dC, dI) vwCl [] t ∧ va_D (va_A [] sz) []) (va_A [] sz)) 0 0 (va_A [] sz) := by
  refine Met.ofW (cc := cX10_byteOf) (maxL := 6) (ret := (some .int)) (by decide) rfl ?_
  intro p e s m args below meth c s₁ B hml hv
  obtain ⟨rfl, hsz, hP, hK, hD0, hE, hZ⟩ := hv
  have hx := B.exec
  have hb := B.bytes
  have hr := B.returns
  have hG : ∀ w ∈ zG, w.before _ s = true := fun w h => atoms_spec (ws := (zw yX10_byteOf cX10_byteOf 6 (some .int))) B.pre w (List.mem_cons_of_mem _ h)
  have hown : s.vm.findClass RX10 = some m.cls := findClass_of_methodNamed B.named
  have hlocks := B.notSynchronized

  subst hsz
  have hD := hD0.self (sz := s.heap.size)
  generalize hAe : va_A [] s.heap.size = A at hD hZ ⊢
  have hA : ∀ q : Nat, s.heap.size ≤ q → A q := fun q h => by rw [← hAe]; exact Or.inr h
  have hS : va_S A s.heap s.heap [] := va_S.rf
  have hl := lv_entry ([.long y0, .int x1]) (n := 6) (Nat.le_of_ble_eq_true rfl)
  rw [lg_entry_eq]
  generalize (lg_sl ([.long y0, .int x1]) ++ List.replicate (6 - (lg_sl ([.long y0, .int x1])).length) Slot.unset).toArray = ls at hl ⊢
  have hl : lv_has ls 6 [(0, .long y0), (2, .int x1)] := hl
  have b_ := zk_11
  refine lv_iload_n hx hb dX10_byteOf_0 rfl (lv_at hl 1 rfl) ?_
  have b_ : -2147483648 ≤ x1.toInt ∧ x1.toInt ≤ 2147483647 := ⟨zlo _, zhi _⟩
  refine lv_if_lt (tgt := 10) hx hb dX10_byteOf_1 (by decide) (fun c_ => ?_) (fun c_ => ?_)
  · skip
    have b_ := zT_lt rfl zk_0 c_
    refine lv_iconst (v := 0) hx hb dX10_byteOf_10 (by decide) ?_
    refine W.widen (k := 0) (n := 0) (by decide) (by decide) ?_
    have hpost : True := trivial
    have hP9 : va_P (dC, dI) vwCl [] s.heap := hP
    have hD9 : va_D A [] := hD
    exact W.iret (v := 0) hx hb hr (fun t ht hW => ⟨⟨0, (fun _ => 0), rfl, hpost, (fun _ => 0), (fun _ => (fun _ => 0)), (fun _ => (fun _ => 0)), by rw [ht]; exact hP9, va_K.moved hW.alike hK, hD9⟩, hS.F ht⟩) hS.2.2 dX10_byteOf_11
  · skip
    have b_ := zF_lt rfl zk_0 c_
    refine lv_iload_n hx hb dX10_byteOf_4 rfl (lv_at hl 1 rfl) ?_
    refine lv_bipush (v := 12) hx hb dX10_byteOf_5 (by decide) ?_
    refine lv_icmp_lt (tgt := 12) hx hb dX10_byteOf_7 (by decide) (fun c_ => ?_) (fun c_ => ?_)
    · skip
      have b_ := zT_lt rfl zk_12 c_
      refine lv_lload_n hx hb dX10_byteOf_12 rfl (lv_at hl 0 rfl) ?_
      refine lv_lstore_n (lv' := [(3, .long y0), (0, .long y0), (2, .int x1)]) hx hb dX10_byteOf_13 rfl hl (by decide) rfl (fun ls hl => ?_)
      refine lv_bipush (v := 11) hx hb dX10_byteOf_14 (by decide) ?_
      refine lv_istore (lv' := [(5, .int 11), (3, .long y0), (0, .long y0), (2, .int x1)]) hx hb dX10_byteOf_16 hl (by decide) rfl (fun ls hl => ?_)
      refine zcutL (fun u18_ => ((u18_ 0).toInt - 0).toNat) (fun H locs ls u18_ w18_ a18_ b18_ => va_P (dC, dI) vwCl [] H ∧ va_D A [] ∧ va_S A s.heap H locs ∧ lv_has ls 6 [(0, .long y0), (2, .int x1), (3, .long (w18_ 0)), (5, .int (u18_ 0))] ∧ (0 ≤ (u18_ 0).toInt ∧ (u18_ 0).toInt ≤ 11)) (fun ls u18_ w18_ => F0 m 18 ls []) 0 0 ?_ (fun hJ18 => ?_)
      · skip
        intro H locs ls u18_ w18_ a18_ b18_ hc hJ18
        obtain ⟨hP, hD, hS, hl, b_⟩ := hc
        refine lv_iload hx hb dX10_byteOf_18 (lv_at hl 3 rfl) ?_
        refine lv_iload_n hx hb dX10_byteOf_20 rfl (lv_at hl 1 rfl) ?_
        refine lv_icmp_le (tgt := 36) hx hb dX10_byteOf_21 (by decide) (fun c_ => ?_) (fun c_ => ?_)
        · skip
          have b_ := zT_le rfl rfl c_
          refine lv_lload_n hx hb dX10_byteOf_36 rfl (lv_at hl 2 rfl) ?_
          refine lv_ldc2 hx hb hown (hG _ zv734) dX10_byteOf_37 ?_
          refine lv_lrem hx hb dX10_byteOf_40 (by decide) ?_
          refine lv_topl (fun y_40 e_y_40 => ?_)
          refine lv_l2i hx hb dX10_byteOf_41 rfl ?_
          refine lv_topi (fun z41 e_z41 => ?_)
          refine lv_istore (lv' := [(5, .int z41), (0, .long y0), (2, .int x1), (3, .long (w18_ 0))]) hx hb dX10_byteOf_42 hl (by decide) rfl (fun ls hl => ?_)
          refine lv_iload hx hb dX10_byteOf_44 (lv_at hl 0 rfl) ?_
          have b_ : -2147483648 ≤ z41.toInt ∧ z41.toInt ≤ 2147483647 := ⟨zlo _, zhi _⟩
          refine lv_if_ne (tgt := 51) hx hb dX10_byteOf_46 (by decide) (fun c_ => ?_) (fun c_ => ?_)
          · skip
            have b_ := zT_ne rfl zk_0 c_
            refine lv_iload hx hb dX10_byteOf_51 (lv_at hl 0 rfl) ?_
            refine lv_bipush (v := 10) hx hb dX10_byteOf_53 (by decide) ?_
            refine lv_icmp_le (tgt := 69) hx hb dX10_byteOf_55 (by decide) (fun c_ => ?_) (fun c_ => ?_)
            · skip
              have b_ := zT_le rfl zk_10 c_
              refine lv_iload hx hb dX10_byteOf_69 (lv_at hl 0 rfl) ?_
              refine lv_iconst (v := 1) hx hb dX10_byteOf_71 (by decide) ?_
              refine lv_isub hx hb dX10_byteOf_72 ?_
              refine lv_topi (fun z72 e_z72 => ?_)
              refine lv_bipush (v := 48) hx hb dX10_byteOf_73 (by decide) ?_
              have b_ : -2147483648 ≤ z72.toInt ∧ z72.toInt ≤ 2147483647 := ⟨zlo _, zhi _⟩
              refine lv_iadd hx hb dX10_byteOf_75 ?_
              refine lv_topi (fun z75 e_z75 => ?_)
              refine W.widen (k := 0) (n := 0) (by decide) (by decide) ?_
              have b_ : -2147483648 ≤ z75.toInt ∧ z75.toInt ≤ 2147483647 := ⟨zlo _, zhi _⟩
              have hpost : True := trivial
              have hP9 : va_P (dC, dI) vwCl [] H := hP
              have hD9 : va_D A [] := hD
              exact W.iret (v := z75) hx hb hr (fun t ht hW => ⟨⟨z75, (fun _ => 0), rfl, hpost, (fun _ => 0), (fun _ => (fun _ => 0)), (fun _ => (fun _ => 0)), by rw [ht]; exact hP9, va_K.moved hW.alike hK, hD9⟩, hS.F ht⟩) hS.2.2 dX10_byteOf_76
            · skip
              have b_ := zF_le rfl zk_10 c_
              refine lv_iload hx hb dX10_byteOf_58 (lv_at hl 0 rfl) ?_
              refine lv_bipush (v := 11) hx hb dX10_byteOf_60 (by decide) ?_
              refine lv_isub hx hb dX10_byteOf_62 ?_
              refine lv_topi (fun z62 e_z62 => ?_)
              have b_ := zsub rfl zk_11 e_z62 (by omega) (by omega)
              refine lv_bipush (v := 97) hx hb dX10_byteOf_63 (by decide) ?_
              refine lv_iadd hx hb dX10_byteOf_65 ?_
              refine lv_topi (fun z65 e_z65 => ?_)
              refine lv_goto (tgt := 76) hx hb dX10_byteOf_66 (by decide) ?_
              refine W.widen (k := 0) (n := 0) (by decide) (by decide) ?_
              have b_ : -2147483648 ≤ z65.toInt ∧ z65.toInt ≤ 2147483647 := ⟨zlo _, zhi _⟩
              have hpost : True := trivial
              have hP9 : va_P (dC, dI) vwCl [] H := hP
              have hD9 : va_D A [] := hD
              exact W.iret (v := z65) hx hb hr (fun t ht hW => ⟨⟨z65, (fun _ => 0), rfl, hpost, (fun _ => 0), (fun _ => (fun _ => 0)), (fun _ => (fun _ => 0)), by rw [ht]; exact hP9, va_K.moved hW.alike hK, hD9⟩, hS.F ht⟩) hS.2.2 dX10_byteOf_76
          · skip
            have b_ := zF_ne rfl zk_0 c_
            refine lv_iconst (v := 0) hx hb dX10_byteOf_49 (by decide) ?_
            refine W.widen (k := 0) (n := 0) (by decide) (by decide) ?_
            have hpost : True := trivial
            have hP9 : va_P (dC, dI) vwCl [] H := hP
            have hD9 : va_D A [] := hD
            exact W.iret (v := 0) hx hb hr (fun t ht hW => ⟨⟨0, (fun _ => 0), rfl, hpost, (fun _ => 0), (fun _ => (fun _ => 0)), (fun _ => (fun _ => 0)), by rw [ht]; exact hP9, va_K.moved hW.alike hK, hD9⟩, hS.F ht⟩) hS.2.2 dX10_byteOf_50
        · skip
          have b_ := zF_le rfl rfl c_
          refine lv_lload_n hx hb dX10_byteOf_24 rfl (lv_at hl 2 rfl) ?_
          refine lv_ldc2 hx hb hown (hG _ zv734) dX10_byteOf_25 ?_
          refine lv_ldiv hx hb dX10_byteOf_28 (by decide) ?_
          refine lv_topl (fun y_28 e_y_28 => ?_)
          refine lv_lstore_n (lv' := [(3, .long y_28), (0, .long y0), (2, .int x1), (5, .int (u18_ 0))]) hx hb dX10_byteOf_29 rfl hl (by decide) rfl (fun ls hl => ?_)
          obtain ⟨z30, e_z30⟩ : ∃ z : Int32, z = (u18_ 0) + Int32.ofInt (-1) := ⟨_, rfl⟩
          have b_ := zadd (x := (u18_ 0)) (y := Int32.ofInt (-1)) rfl (show (Int32.ofInt (-1)).toInt = (-1) from by decide) e_z30 (by omega) (by omega)
          refine lv_iinc (v := z30) (lv' := [(5, .int z30), (3, .long y_28), (0, .long y0), (2, .int x1)]) hx hb dX10_byteOf_30 hl (k := 3) rfl e_z30.symm (by decide) rfl (fun ls hl => ?_)
          refine lv_goto (tgt := 18) hx hb dX10_byteOf_33 (by decide) ?_
          have hc : va_P (dC, dI) vwCl [] H ∧ va_D A [] ∧ va_S A s.heap H locs ∧ lv_has ls 6 [(0, .long y0), (2, .int x1), (3, .long y_28), (5, .int z30)] ∧ (0 ≤ z30.toInt ∧ z30.toInt ≤ 11) := ⟨hP, hD, hS, lv_sub hl [2, 3, 1, 0] rfl, (by first | with_reducible assumption | exact ⟨by omega, by omega⟩)⟩
          exact hJ18 H locs ls (fun i => ([z30] : List (Int32)).getD i 0) (fun i => ([y_28] : List (Int64)).getD i 0) (fun _ => (fun _ => 0)) (fun _ => (fun _ => 0)) hc (show (z30.toInt - 0).toNat < ((u18_ 0).toInt - 0).toNat from by omega)
      · skip
        have hc : va_P (dC, dI) vwCl [] s.heap ∧ va_D A [] ∧ va_S A s.heap s.heap [] ∧ lv_has ls 6 [(0, .long y0), (2, .int x1), (3, .long y0), (5, .int 11)] ∧ (0 ≤ (11 : Int32).toInt ∧ (11 : Int32).toInt ≤ 11) := ⟨hP, hD, hS, lv_sub hl [2, 3, 1, 0] rfl, (by first | with_reducible assumption | exact ⟨by omega, by omega⟩)⟩
        exact hJ18 s.heap [] ls (fun i => ([11] : List (Int32)).getD i 0) (fun i => ([y0] : List (Int64)).getD i 0) (fun _ => (fun _ => 0)) (fun _ => (fun _ => 0)) hc
    · skip
      have b_ := zF_lt rfl zk_12 c_
      refine lv_iconst (v := 0) hx hb dX10_byteOf_10 (by decide) ?_
      refine W.widen (k := 0) (n := 0) (by decide) (by decide) ?_
      have hpost : True := trivial
      have hP9 : va_P (dC, dI) vwCl [] s.heap := hP
      have hD9 : va_D A [] := hD
      exact W.iret (v := 0) hx hb hr (fun t ht hW => ⟨⟨0, (fun _ => 0), rfl, hpost, (fun _ => 0), (fun _ => (fun _ => 0)), (fun _ => (fun _ => 0)), by rw [ht]; exact hP9, va_K.moved hW.alike hK, hD9⟩, hS.F ht⟩) hS.2.2 dX10_byteOf_11
set_option maxHeartbeats 8000000 in
set_option maxRecDepth 100000 in
theorem sX11_letter_0 (l : Launch) (hl0 : l.stackTraces = false) (dC : Nat → ClassId) (dI : Nat → Nat → Nat) (adK adV : Nat → Nat) (h0 : Nat) (h4 : Nat) (h5 : Nat) (h1 : Nat) (h11 : Nat) (h18 : Nat) (h23 : Nat) (h32 : Nat) (h33 : Nat) (h40 : Nat) (h48 : Nat) (h49 : Nat) (h6 : Nat) (h7 : Nat) (h8 : Nat) (h9 : Nat) (h10 : Nat) (k5 : ClassId) (sz : Nat) (sp0 : Value) (lw0 : Int64) (v4 : Nat → Int32) (f5 : Nat → Int64) (x1 : Int32) (x2 : Int32) (hv4 : zR rg_Words400 v4) : vx_Met l yX11_letter (zw yX11_letter cX11_letter 3 (some .int)) { frames := 8, cells := 1, slots := 6, locals := 120 } (zPc dC dI adK adV [.ref h0, .int x1, .int x2] sz [(h0, .inr (11, mX11 h1 h4 h11 h18 h23 h32 h33 h40 h48 h49 sp0 lw0)), (h4, .inr (10, mX10 h5 h6 h7 h8 h9 h10 v4)), (h5, .inl (k5, 400, .inr (.inl f5)))] [(k5, .long)]) (va_Qi (fun (r : Int32) (u : Nat → Int32) => True) (fun (u : Nat → Int32) (t : State) => ∃ (ww : Nat → Int64) (aa : Nat → Nat → Int32) (bb : Nat → Nat → Int64), va_P (dC, dI) vwCl [(h0, .inr (11, mX11 h1 h4 h11 h18 h23 h32 h33 h40 h48 h49 sp0 lw0)), (h4, .inr (10, mX10 h5 h6 h7 h8 h9 h10 v4)), (h5, .inl (k5, 400, .inr (.inl f5)))] t.heap ∧ va_K (dC, dI) vwCl [(k5, .long)] t ∧ va_D (va_A [(h0, .inr (11, mX11 h1 h4 h11 h18 h23 h32 h33 h40 h48 h49 sp0 lw0)), (h4, .inr (10, mX10 h5 h6 h7 h8 h9 h10 v4)), (h5, .inl (k5, 400, .inr (.inl f5)))] sz) [(h0, .inr (11, mX11 h1 h4 h11 h18 h23 h32 h33 h40 h48 h49 sp0 lw0)), (h4, .inr (10, mX10 h5 h6 h7 h8 h9 h10 v4)), (h5, .inl (k5, 400, .inr (.inl f5)))]) (va_A [(h0, .inr (11, mX11 h1 h4 h11 h18 h23 h32 h33 h40 h48 h49 sp0 lw0)), (h4, .inr (10, mX10 h5 h6 h7 h8 h9 h10 v4)), (h5, .inl (k5, 400, .inr (.inl f5)))] sz)) (vx_X (fun (u : Nat → Int32) => True) (fun (E : String) (u : Nat → Int32) (t : State) => E = "java/lang/IndexOutOfBoundsException" ∧ ∃ (ww : Nat → Int64) (aa : Nat → Nat → Int32) (bb : Nat → Nat → Int64), va_P (dC, dI) vwCl [(h0, .inr (11, mX11 h1 h4 h11 h18 h23 h32 h33 h40 h48 h49 sp0 lw0)), (h4, .inr (10, mX10 h5 h6 h7 h8 h9 h10 v4)), (h5, .inl (k5, 400, .inr (.inl f5)))] t.heap ∧ va_K (dC, dI) vwCl [(k5, .long)] t ∧ va_D (va_A [(h0, .inr (11, mX11 h1 h4 h11 h18 h23 h32 h33 h40 h48 h49 sp0 lw0)), (h4, .inr (10, mX10 h5 h6 h7 h8 h9 h10 v4)), (h5, .inl (k5, 400, .inr (.inl f5)))] sz) [(h0, .inr (11, mX11 h1 h4 h11 h18 h23 h32 h33 h40 h48 h49 sp0 lw0)), (h4, .inr (10, mX10 h5 h6 h7 h8 h9 h10 v4)), (h5, .inl (k5, 400, .inr (.inl f5)))]) (va_A [(h0, .inr (11, mX11 h1 h4 h11 h18 h23 h32 h33 h40 h48 h49 sp0 lw0)), (h4, .inr (10, mX10 h5 h6 h7 h8 h9 h10 v4)), (h5, .inl (k5, 400, .inr (.inl f5)))] sz)) 1 6 (va_A [(h0, .inr (11, mX11 h1 h4 h11 h18 h23 h32 h33 h40 h48 h49 sp0 lw0)), (h4, .inr (10, mX10 h5 h6 h7 h8 h9 h10 v4)), (h5, .inl (k5, 400, .inr (.inl f5)))] sz) := by
  refine vx_ofW (cc := cX11_letter) (maxL := 3) (ret := (some .int)) (by decide) rfl ?_
  intro p e s m args below meth c s₁ B hml hout hv
  obtain ⟨rfl, hsz, hP, hK, hD0, hE, hZ⟩ := hv
  have hx := B.exec
  have hb := B.bytes
  have hr := B.returns
  have hG : ∀ w ∈ zG, w.before _ s = true := fun w h => atoms_spec (ws := (zw yX11_letter cX11_letter 3 (some .int))) B.pre w (List.mem_cons_of_mem _ h)
  have hown : s.vm.findClass RX11 = some m.cls := findClass_of_methodNamed B.named
  have hlocks := B.notSynchronized

  subst hsz
  have hD := hD0.self (sz := s.heap.size)
  generalize hAe : va_A [(h0, .inr (11, mX11 h1 h4 h11 h18 h23 h32 h33 h40 h48 h49 sp0 lw0)), (h4, .inr (10, mX10 h5 h6 h7 h8 h9 h10 v4)), (h5, .inl (k5, 400, .inr (.inl f5)))] s.heap.size = A at hD hZ ⊢
  have hA : ∀ q : Nat, s.heap.size ≤ q → A q := fun q h => by rw [← hAe]; exact Or.inr h
  have hS : va_S A s.heap s.heap [] := va_S.rf
  have hl := lv_entry ([.ref h0, .int x1, .int x2]) (n := 3) (Nat.le_of_ble_eq_true rfl)
  rw [lg_entry_eq]
  generalize (lg_sl ([.ref h0, .int x1, .int x2]) ++ List.replicate (3 - (lg_sl ([.ref h0, .int x1, .int x2])).length) Slot.unset).toArray = ls at hl ⊢
  have hl : lv_has ls 3 [(0, .ref h0), (1, .int x1), (2, .int x2)] := hl
  refine lv_iload_n hx hb dX11_letter_0 rfl (lv_at hl 1 rfl) ?_
  refine zcutW (fun H locs ls u19_ w19_ a19_ b19_ => va_P (dC, dI) vwCl [(h0, .inr (11, mX11 h1 h4 h11 h18 h23 h32 h33 h40 h48 h49 sp0 lw0)), (h4, .inr (10, mX10 h5 h6 h7 h8 h9 h10 v4)), (h5, .inl (k5, 400, .inr (.inl f5)))] H ∧ va_D A [(h0, .inr (11, mX11 h1 h4 h11 h18 h23 h32 h33 h40 h48 h49 sp0 lw0)), (h4, .inr (10, mX10 h5 h6 h7 h8 h9 h10 v4)), (h5, .inl (k5, 400, .inr (.inl f5)))] ∧ va_S A s.heap H locs ∧ lv_has ls 3 [(0, .ref h0), (1, .int x1), (2, .int x2)]) (fun ls u19_ w19_ => F0 m 19 ls []) 0 0 ?_ (fun hJ19 => ?_)
  · skip
    intro H locs ls u19_ w19_ a19_ b19_ hc
    obtain ⟨hP, hD, hS, hl⟩ := hc
    have hpost : True := trivial
    have hP9 : va_P (dC, dI) vwCl [(h0, .inr (11, mX11 h1 h4 h11 h18 h23 h32 h33 h40 h48 h49 sp0 lw0)), (h4, .inr (10, mX10 h5 h6 h7 h8 h9 h10 v4)), (h5, .inl (k5, 400, .inr (.inl f5)))] H := hP
    have hD9 : va_D A [(h0, .inr (11, mX11 h1 h4 h11 h18 h23 h32 h33 h40 h48 h49 sp0 lw0)), (h4, .inr (10, mX10 h5 h6 h7 h8 h9 h10 v4)), (h5, .inl (k5, 400, .inr (.inl f5)))] := hD
    obtain ⟨sa, hstr⟩ := zE_S232 hE
    exact vx_throwS (names := ["java/lang/RuntimeException", "java/lang/Exception"]) (A := A) hx hb hl0 hown (by decide +kernel) (by decide +kernel) (hG _ zv1411) (hG _ zv154) hstr (zhat hG hE) zAT_ot hZ.1 hZ.2.1 hS (hl.1.trans hml.symm) dX11_letter_19 dX11_letter_22 dX11_letter_23 dX11_letter_25 dX11_letter_28 (fun x h => (hout x h).elim) (by decide) (by decide +kernel) (Nat.le_of_ble_eq_true rfl) (Nat.le_of_ble_eq_true rfl) hlocks (fun t hvm hz hk => ⟨(fun _ => 0), hpost, ⟨rfl, (fun _ => 0), (fun _ => (fun _ => 0)), (fun _ => (fun _ => 0)), zkeepP hP9 hk, va_K.moved hvm hK, hD9⟩, zkeepF hS hz hk⟩) hS.2.2 (Nat.le_of_ble_eq_true rfl) (Nat.le_of_ble_eq_true rfl)
  · skip
    have b_ : -2147483648 ≤ x1.toInt ∧ x1.toInt ≤ 2147483647 := ⟨zlo _, zhi _⟩
    refine lv_if_lt (tgt := 19) hx hb dX11_letter_1 (by decide) (fun c_ => ?_) (fun c_ => ?_)
    · skip
      have b_ := zT_lt rfl zk_0 c_
      have hc : va_P (dC, dI) vwCl [(h0, .inr (11, mX11 h1 h4 h11 h18 h23 h32 h33 h40 h48 h49 sp0 lw0)), (h4, .inr (10, mX10 h5 h6 h7 h8 h9 h10 v4)), (h5, .inl (k5, 400, .inr (.inl f5)))] s.heap ∧ va_D A [(h0, .inr (11, mX11 h1 h4 h11 h18 h23 h32 h33 h40 h48 h49 sp0 lw0)), (h4, .inr (10, mX10 h5 h6 h7 h8 h9 h10 v4)), (h5, .inl (k5, 400, .inr (.inl f5)))] ∧ va_S A s.heap s.heap [] ∧ lv_has ls 3 [(0, .ref h0), (1, .int x1), (2, .int x2)] := ⟨hP, hD, hS, lv_sub hl [0, 1, 2] rfl⟩
      exact hJ19 s.heap [] ls (fun _ => 0) (fun _ => 0) (fun _ => (fun _ => 0)) (fun _ => (fun _ => 0)) hc
    · skip
      have b_ := zF_lt rfl zk_0 c_
      refine lv_iload_n hx hb dX11_letter_4 rfl (lv_at hl 1 rfl) ?_
      refine lv_aload_n hx hb dX11_letter_5 rfl (lv_at hl 0 rfl) ?_
      refine va_get (D := (dC, dI)) (ci := 11) (v := .ref h4) (C := RX11) (T := TX11) (N := 12) hx hb hG zuX11 hown hK hP 0 rfl rfl 1 (by decide) (hG _ zv558) (fun _ h9 => h9) rfl dX11_letter_6 ?_
      have hPc := hP.sub (ws' := [(h4, .inr (10, mX10 h5 h6 h7 h8 h9 h10 v4))]) [1] rfl
      have hDc := hD.sub (ws' := [(h4, .inr (10, mX10 h5 h6 h7 h8 h9 h10 v4))]) [1] (by decide) rfl
      have hKc := hK.sub (tys' := []) [] rfl
      have hFc := va_free (wc := [(h4, .inr (10, mX10 h5 h6 h7 h8 h9 h10 v4))]) hD hS hA [1] rfl
      refine va_calli (va_runV (As := []) (rest := [.int x1]) ⟨hx, hb, hml, hown, hG⟩ (sX10_size_0 l dC dI adK adV h4 h5 h6 h7 h8 h9 h10 s.heap.size v4 hv4) (cwV 0 hG (zgV zv626 zv627 zv628 zv131 zv629) rfl rfl rfl (by decide +kernel) ⟨Nat.le_of_ble_eq_true rfl, Nat.le_of_ble_eq_true rfl⟩) ⟨zPc_blind, va_recv hKc hPc (ci := 10) (q0 := 0) rfl rfl, zPc_pre hPc hKc hDc hE hS hFc hZ⟩ rfl rfl hl.1 rfl (lv_room (Nat.le_of_ble_eq_true rfl)) dX11_letter_9 ⟨Nat.le_of_ble_eq_true rfl, Nat.le_of_ble_eq_true rfl⟩) hS (fun q _ h => hFc q h) hFc (fun r9_ u9_ t H1 locs ht hvm hw hB hz1 hk1 hS => ?_)
      replace hw : (0 ≤ r9_.toInt ∧ r9_.toInt ≤ 400) ∧ (r9_.toInt = (v4 7).toInt) ∧ (r9_.toInt = (v4 7).toInt) := hw
      obtain ⟨b_, hX9_0, hX9_1⟩ := hw
      obtain ⟨w9_, a9_, b9_, hP1, hK1, hD1⟩ := hB
      rw [ht] at hP1
      obtain ⟨hP, hD⟩ := va_join (wr := [(h0, .inr (11, mX11 h1 h4 h11 h18 h23 h32 h33 h40 h48 h49 sp0 lw0)), (h5, .inl (k5, 400, .inr (.inl f5)))]) (w1 := [(h4, .inr (10, mX10 h5 h6 h7 h8 h9 h10 v4))]) hP hD [1] [0, 2] rfl rfl (by decide) (by decide) hk1 hFc hP1 hD1
      have hP : va_P (dC, dI) vwCl [(h0, .inr (11, mX11 h1 h4 h11 h18 h23 h32 h33 h40 h48 h49 sp0 lw0)), (h4, .inr (10, mX10 h5 h6 h7 h8 h9 h10 v4)), (h5, .inl (k5, 400, .inr (.inl f5)))] H1 := hP.sub [0, 2, 1] rfl
      have hD : va_D A [(h0, .inr (11, mX11 h1 h4 h11 h18 h23 h32 h33 h40 h48 h49 sp0 lw0)), (h4, .inr (10, mX10 h5 h6 h7 h8 h9 h10 v4)), (h5, .inl (k5, 400, .inr (.inl f5)))] := hD.sub [0, 2, 1] (by decide) rfl
      generalize H1 = H at hP hS ⊢
      clear hz1
      refine lv_icmp_ge (tgt := 19) hx hb dX11_letter_12 (by decide) (fun c_ => ?_) (fun c_ => ?_)
      · skip
        have b_ := zT_ge rfl rfl c_
        have hc : va_P (dC, dI) vwCl [(h0, .inr (11, mX11 h1 h4 h11 h18 h23 h32 h33 h40 h48 h49 sp0 lw0)), (h4, .inr (10, mX10 h5 h6 h7 h8 h9 h10 v4)), (h5, .inl (k5, 400, .inr (.inl f5)))] H ∧ va_D A [(h0, .inr (11, mX11 h1 h4 h11 h18 h23 h32 h33 h40 h48 h49 sp0 lw0)), (h4, .inr (10, mX10 h5 h6 h7 h8 h9 h10 v4)), (h5, .inl (k5, 400, .inr (.inl f5)))] ∧ va_S A s.heap H locs ∧ lv_has ls 3 [(0, .ref h0), (1, .int x1), (2, .int x2)] := ⟨hP, hD, hS, lv_sub hl [0, 1, 2] rfl⟩
        exact hJ19 H locs ls (fun _ => 0) (fun _ => 0) (fun _ => (fun _ => 0)) (fun _ => (fun _ => 0)) hc
      · skip
        have b_ := zF_ge rfl rfl c_
        refine lv_iload_n hx hb dX11_letter_15 rfl (lv_at hl 2 rfl) ?_
        have b_ : -2147483648 ≤ x2.toInt ∧ x2.toInt ≤ 2147483647 := ⟨zlo _, zhi _⟩
        refine lv_if_ge (tgt := 29) hx hb dX11_letter_16 (by decide) (fun c_ => ?_) (fun c_ => ?_)
        · skip
          have b_ := zT_ge rfl zk_0 c_
          refine lv_aload_n hx hb dX11_letter_29 rfl (lv_at hl 0 rfl) ?_
          refine va_get (D := (dC, dI)) (ci := 11) (v := .ref h4) (C := RX11) (T := TX11) (N := 12) hx hb hG zuX11 hown hK hP 0 rfl rfl 1 (by decide) (hG _ zv558) (fun _ h9 => h9) rfl dX11_letter_30 ?_
          refine lv_iload_n hx hb dX11_letter_33 rfl (lv_at hl 1 rfl) ?_
          have hPc := hP.sub (ws' := [(h4, .inr (10, mX10 h5 h6 h7 h8 h9 h10 v4)), (h5, .inl (k5, 400, .inr (.inl f5)))]) [1, 2] rfl
          have hDc := hD.sub (ws' := [(h4, .inr (10, mX10 h5 h6 h7 h8 h9 h10 v4)), (h5, .inl (k5, 400, .inr (.inl f5)))]) [1, 2] (by decide) rfl
          have hKc := hK.sub (tys' := [(k5, .long)]) [0] rfl
          have hFc := va_free (wc := [(h4, .inr (10, mX10 h5 h6 h7 h8 h9 h10 v4)), (h5, .inl (k5, 400, .inr (.inl f5)))]) hD hS hA [1, 2] rfl
          refine va_calll (va_runV (As := [.int x1]) (rest := []) ⟨hx, hb, hml, hown, hG⟩ (sX10_wordAt_0 l dC dI adK adV h4 h5 h6 h7 h8 h9 h10 k5 H.size v4 f5 x1 hv4) (cwV 1 hG (zgV zv1380 zv1381 zv1382 zv131 zv1383) rfl rfl rfl (by decide +kernel) ⟨Nat.le_of_ble_eq_true rfl, Nat.le_of_ble_eq_true rfl⟩) ⟨zPc_blind, va_recv hKc hPc (ci := 10) (q0 := 0) rfl rfl, zPc_pre hPc hKc hDc hE hS hFc hZ⟩ rfl rfl hl.1 rfl (lv_room (Nat.le_of_ble_eq_true rfl)) dX11_letter_34 ⟨Nat.le_of_ble_eq_true rfl, Nat.le_of_ble_eq_true rfl⟩) hS (fun q _ h => hFc q h) hFc (fun r34_ u34_ t H1 locs ht hvm hw hB hz1 hk1 hS => ?_)
          obtain ⟨w34_, a34_, b34_, hP1, hK1, hD1⟩ := hB
          rw [ht] at hP1
          obtain ⟨hP, hD⟩ := va_join (wr := [(h0, .inr (11, mX11 h1 h4 h11 h18 h23 h32 h33 h40 h48 h49 sp0 lw0))]) (w1 := [(h4, .inr (10, mX10 h5 h6 h7 h8 h9 h10 v4)), (h5, .inl (k5, 400, .inr (.inl f5)))]) hP hD [1, 2] [0] rfl rfl (by decide) (by decide) hk1 hFc hP1 hD1
          have hP : va_P (dC, dI) vwCl [(h0, .inr (11, mX11 h1 h4 h11 h18 h23 h32 h33 h40 h48 h49 sp0 lw0)), (h4, .inr (10, mX10 h5 h6 h7 h8 h9 h10 v4)), (h5, .inl (k5, 400, .inr (.inl f5)))] H1 := hP.sub [0, 1, 2] rfl
          have hD : va_D A [(h0, .inr (11, mX11 h1 h4 h11 h18 h23 h32 h33 h40 h48 h49 sp0 lw0)), (h4, .inr (10, mX10 h5 h6 h7 h8 h9 h10 v4)), (h5, .inl (k5, 400, .inr (.inl f5)))] := hD.sub [0, 1, 2] (by decide) rfl
          generalize H1 = H at hP hS ⊢
          clear hz1
          refine lv_iload_n hx hb dX11_letter_37 rfl (lv_at hl 2 rfl) ?_
          have hPc := hP.sub (ws' := []) [] rfl
          have hDc := hD.sub (ws' := []) [] (by decide) rfl
          have hKc := hK.sub (tys' := []) [] rfl
          have hFc := va_free (wc := []) hD hS hA [] rfl
          refine va_calli (va_runS (As := [.long r34_, .int x2]) (rest := []) ⟨hx, hb, hml, hown, hG⟩ (sX10_byteOf_0 l dC dI adK adV H.size r34_ x2) (va_cwS 2 hG (zgS zv1507 zv1508 zv131 zv1509) rfl rfl rfl (by decide +kernel) ⟨Nat.le_of_ble_eq_true rfl, Nat.le_of_ble_eq_true rfl⟩) ⟨zPc_blind, zPc_pre hPc hKc hDc hE hS hFc hZ⟩ rfl rfl hl.1 rfl (lv_room (Nat.le_of_ble_eq_true rfl)) dX11_letter_38 ⟨Nat.le_of_ble_eq_true rfl, Nat.le_of_ble_eq_true rfl⟩) hS (fun q _ h => hFc q h) hFc (fun r38_ u38_ t H1 locs ht hvm hw hB hz1 hk1 hS => ?_)
          obtain ⟨w38_, a38_, b38_, hP1, hK1, hD1⟩ := hB
          rw [ht] at hP1
          obtain ⟨hP, hD⟩ := va_join (wr := [(h0, .inr (11, mX11 h1 h4 h11 h18 h23 h32 h33 h40 h48 h49 sp0 lw0)), (h4, .inr (10, mX10 h5 h6 h7 h8 h9 h10 v4)), (h5, .inl (k5, 400, .inr (.inl f5)))]) (w1 := []) hP hD [] [0, 1, 2] rfl rfl (by decide) (by decide) hk1 hFc hP1 hD1
          have hP : va_P (dC, dI) vwCl [(h0, .inr (11, mX11 h1 h4 h11 h18 h23 h32 h33 h40 h48 h49 sp0 lw0)), (h4, .inr (10, mX10 h5 h6 h7 h8 h9 h10 v4)), (h5, .inl (k5, 400, .inr (.inl f5)))] H1 := hP.sub [0, 1, 2] rfl
          have hD : va_D A [(h0, .inr (11, mX11 h1 h4 h11 h18 h23 h32 h33 h40 h48 h49 sp0 lw0)), (h4, .inr (10, mX10 h5 h6 h7 h8 h9 h10 v4)), (h5, .inl (k5, 400, .inr (.inl f5)))] := hD.sub [0, 1, 2] (by decide) rfl
          generalize H1 = H at hP hS ⊢
          clear hz1
          refine W.widen (k := 1) (n := 6) (by decide) (by decide) ?_
          have b_ : -2147483648 ≤ r38_.toInt ∧ r38_.toInt ≤ 2147483647 := ⟨zlo _, zhi _⟩
          have hpost : True := trivial
          have hP9 : va_P (dC, dI) vwCl [(h0, .inr (11, mX11 h1 h4 h11 h18 h23 h32 h33 h40 h48 h49 sp0 lw0)), (h4, .inr (10, mX10 h5 h6 h7 h8 h9 h10 v4)), (h5, .inl (k5, 400, .inr (.inl f5)))] H := hP
          have hD9 : va_D A [(h0, .inr (11, mX11 h1 h4 h11 h18 h23 h32 h33 h40 h48 h49 sp0 lw0)), (h4, .inr (10, mX10 h5 h6 h7 h8 h9 h10 v4)), (h5, .inl (k5, 400, .inr (.inl f5)))] := hD
          exact vx_ret (W.iret (v := r38_) hx hb hr (fun t ht hW => ⟨⟨r38_, (fun _ => 0), rfl, hpost, (fun _ => 0), (fun _ => (fun _ => 0)), (fun _ => (fun _ => 0)), by rw [ht]; exact hP9, va_K.moved hW.alike hK, hD9⟩, hS.F ht⟩) hS.2.2 dX11_letter_41)
        · skip
          have b_ := zF_ge rfl zk_0 c_
          have hc : va_P (dC, dI) vwCl [(h0, .inr (11, mX11 h1 h4 h11 h18 h23 h32 h33 h40 h48 h49 sp0 lw0)), (h4, .inr (10, mX10 h5 h6 h7 h8 h9 h10 v4)), (h5, .inl (k5, 400, .inr (.inl f5)))] H ∧ va_D A [(h0, .inr (11, mX11 h1 h4 h11 h18 h23 h32 h33 h40 h48 h49 sp0 lw0)), (h4, .inr (10, mX10 h5 h6 h7 h8 h9 h10 v4)), (h5, .inl (k5, 400, .inr (.inl f5)))] ∧ va_S A s.heap H locs ∧ lv_has ls 3 [(0, .ref h0), (1, .int x1), (2, .int x2)] := ⟨hP, hD, hS, lv_sub hl [0, 1, 2] rfl⟩
          exact hJ19 H locs ls (fun _ => 0) (fun _ => 0) (fun _ => (fun _ => 0)) (fun _ => (fun _ => 0)) hc
set_option maxHeartbeats 8000000 in
set_option maxRecDepth 100000 in
theorem sX7_clear_0 (l : Launch) (dC : Nat → ClassId) (dI : Nat → Nat → Nat) (adK adV : Nat → Nat) (h0 : Nat) (h1 : Nat) (h2 : Nat) (h3 : Nat) (h4 : Nat) (h5 : Nat) (h6 : Nat) (h7 : Nat) (sz : Nat) (v0 : Nat → Int32) (hv0 : zR rg_Query v0) : Met l yX7_clear (zw yX7_clear cX7_clear 1 none) { frames := 0, cells := 0, slots := 0, locals := 0 } (zPc dC dI adK adV [.ref h0] sz [(h0, .inr (7, mX7 h1 h2 h3 h4 h5 h6 h7 v0))] []) (va_Qv (fun (u : Nat → Int32) => (0 ≤ (u 0).toInt ∧ (u 0).toInt ≤ 0) ∧ (0 ≤ (u 1).toInt ∧ (u 1).toInt ≤ 0) ∧ (0 ≤ (u 2).toInt ∧ (u 2).toInt ≤ 0) ∧ (0 ≤ (u 3).toInt ∧ (u 3).toInt ≤ 0) ∧ (0 ≤ (u 4).toInt ∧ (u 4).toInt ≤ 0)) (fun (u : Nat → Int32) (t : State) => ∃ (ww : Nat → Int64) (aa : Nat → Nat → Int32) (bb : Nat → Nat → Int64), va_P (dC, dI) vwCl [(h0, .inr (7, mX7 h1 h2 h3 h4 h5 h6 h7 (upd (upd (upd (upd (upd v0 7 (u 0)) 8 (u 1)) 9 (u 2)) 10 (u 3)) 11 (u 4))))] t.heap ∧ va_K (dC, dI) vwCl [] t ∧ va_D (va_A [(h0, .inr (7, mX7 h1 h2 h3 h4 h5 h6 h7 v0))] sz) [(h0, .inr (7, mX7 h1 h2 h3 h4 h5 h6 h7 (upd (upd (upd (upd (upd v0 7 (u 0)) 8 (u 1)) 9 (u 2)) 10 (u 3)) 11 (u 4))))]) (va_A [(h0, .inr (7, mX7 h1 h2 h3 h4 h5 h6 h7 v0))] sz)) 0 0 (va_A [(h0, .inr (7, mX7 h1 h2 h3 h4 h5 h6 h7 v0))] sz) := by
  refine Met.ofW (cc := cX7_clear) (maxL := 1) (ret := none) (by decide) rfl ?_
  intro p e s m args below meth c s₁ B hml hv
  obtain ⟨rfl, hsz, hP, hK, hD0, hE, hZ⟩ := hv
  have hx := B.exec
  have hb := B.bytes
  have hr := B.returns
  have hG : ∀ w ∈ zG, w.before _ s = true := fun w h => atoms_spec (ws := (zw yX7_clear cX7_clear 1 none)) B.pre w (List.mem_cons_of_mem _ h)
  have hown : s.vm.findClass RX7 = some m.cls := findClass_of_methodNamed B.named
  have hlocks := B.notSynchronized

  subst hsz
  have hD := hD0.self (sz := s.heap.size)
  generalize hAe : va_A [(h0, .inr (7, mX7 h1 h2 h3 h4 h5 h6 h7 v0))] s.heap.size = A at hD hZ ⊢
  have hA : ∀ q : Nat, s.heap.size ≤ q → A q := fun q h => by rw [← hAe]; exact Or.inr h
  have hS : va_S A s.heap s.heap [] := va_S.rf
  have hl := lv_entry ([.ref h0]) (n := 1) (Nat.le_of_ble_eq_true rfl)
  rw [lg_entry_eq]
  generalize (lg_sl ([.ref h0]) ++ List.replicate (1 - (lg_sl ([.ref h0])).length) Slot.unset).toArray = ls at hl ⊢
  have hl : lv_has ls 1 [(0, .ref h0)] := hl
  have b_ := zk_0
  refine lv_aload_n hx hb dX7_clear_0 rfl (lv_at hl 0 rfl) ?_
  refine lv_iconst (v := 0) hx hb dX7_clear_1 (by decide) ?_
  refine va_put (D := (dC, dI)) (ci := 7) (v := .int 0) (ty := .int) (C := RX7) (T := TX7) (N := 12) hx hb hG zuX7 tyX7 tyX7_ok nmX7 hown hK hP hD hS 0 rfl rfl 7 (by decide) (hG _ zv372) (fun _ h9 => h9) rfl (by decide +kernel) rfl rfl (Nat.le_of_ble_eq_true rfl) dX7_clear_2 (fun H locs hP hD hS => ?_)
  have hP : va_P (dC, dI) vwCl [(h0, .inr (7, mX7 h1 h2 h3 h4 h5 h6 h7 (upd v0 7 0)))] H := hP
  have hD : va_D A [(h0, .inr (7, mX7 h1 h2 h3 h4 h5 h6 h7 (upd v0 7 0)))] := hD
  refine lv_aload_n hx hb dX7_clear_5 rfl (lv_at hl 0 rfl) ?_
  refine lv_iconst (v := 0) hx hb dX7_clear_6 (by decide) ?_
  refine va_put (D := (dC, dI)) (ci := 7) (v := .int 0) (ty := .int) (C := RX7) (T := TX7) (N := 12) hx hb hG zuX7 tyX7 tyX7_ok nmX7 hown hK hP hD hS 0 rfl rfl 8 (by decide) (hG _ zv373) (fun _ h9 => h9) rfl (by decide +kernel) rfl rfl (Nat.le_of_ble_eq_true rfl) dX7_clear_7 (fun H locs hP hD hS => ?_)
  have hP : va_P (dC, dI) vwCl [(h0, .inr (7, mX7 h1 h2 h3 h4 h5 h6 h7 (upd (upd v0 7 0) 8 0)))] H := hP
  have hD : va_D A [(h0, .inr (7, mX7 h1 h2 h3 h4 h5 h6 h7 (upd (upd v0 7 0) 8 0)))] := hD
  refine lv_aload_n hx hb dX7_clear_10 rfl (lv_at hl 0 rfl) ?_
  refine lv_iconst (v := 0) hx hb dX7_clear_11 (by decide) ?_
  refine va_put (D := (dC, dI)) (ci := 7) (v := .int 0) (ty := .int) (C := RX7) (T := TX7) (N := 12) hx hb hG zuX7 tyX7 tyX7_ok nmX7 hown hK hP hD hS 0 rfl rfl 9 (by decide) (hG _ zv374) (fun _ h9 => h9) rfl (by decide +kernel) rfl rfl (Nat.le_of_ble_eq_true rfl) dX7_clear_12 (fun H locs hP hD hS => ?_)
  have hP : va_P (dC, dI) vwCl [(h0, .inr (7, mX7 h1 h2 h3 h4 h5 h6 h7 (upd (upd (upd v0 7 0) 8 0) 9 0)))] H := hP
  have hD : va_D A [(h0, .inr (7, mX7 h1 h2 h3 h4 h5 h6 h7 (upd (upd (upd v0 7 0) 8 0) 9 0)))] := hD
  refine lv_aload_n hx hb dX7_clear_15 rfl (lv_at hl 0 rfl) ?_
  refine lv_iconst (v := 0) hx hb dX7_clear_16 (by decide) ?_
  refine va_put (D := (dC, dI)) (ci := 7) (v := .int 0) (ty := .int) (C := RX7) (T := TX7) (N := 12) hx hb hG zuX7 tyX7 tyX7_ok nmX7 hown hK hP hD hS 0 rfl rfl 10 (by decide) (hG _ zv375) (fun _ h9 => h9) rfl (by decide +kernel) rfl rfl (Nat.le_of_ble_eq_true rfl) dX7_clear_17 (fun H locs hP hD hS => ?_)
  have hP : va_P (dC, dI) vwCl [(h0, .inr (7, mX7 h1 h2 h3 h4 h5 h6 h7 (upd (upd (upd (upd v0 7 0) 8 0) 9 0) 10 0)))] H := hP
  have hD : va_D A [(h0, .inr (7, mX7 h1 h2 h3 h4 h5 h6 h7 (upd (upd (upd (upd v0 7 0) 8 0) 9 0) 10 0)))] := hD
  refine lv_aload_n hx hb dX7_clear_20 rfl (lv_at hl 0 rfl) ?_
  refine lv_iconst (v := 0) hx hb dX7_clear_21 (by decide) ?_
  refine va_put (D := (dC, dI)) (ci := 7) (v := .int 0) (ty := .int) (C := RX7) (T := TX7) (N := 12) hx hb hG zuX7 tyX7 tyX7_ok nmX7 hown hK hP hD hS 0 rfl rfl 11 (by decide) (hG _ zv376) (fun _ h9 => h9) rfl (by decide +kernel) rfl rfl (Nat.le_of_ble_eq_true rfl) dX7_clear_22 (fun H locs hP hD hS => ?_)
  have hP : va_P (dC, dI) vwCl [(h0, .inr (7, mX7 h1 h2 h3 h4 h5 h6 h7 (upd (upd (upd (upd (upd v0 7 0) 8 0) 9 0) 10 0) 11 0)))] H := hP
  have hD : va_D A [(h0, .inr (7, mX7 h1 h2 h3 h4 h5 h6 h7 (upd (upd (upd (upd (upd v0 7 0) 8 0) 9 0) 10 0) 11 0)))] := hD
  refine W.widen (k := 0) (n := 0) (by decide) (by decide) ?_
  have hpost : (0 ≤ (0 : Int32).toInt ∧ (0 : Int32).toInt ≤ 0) ∧ (0 ≤ (0 : Int32).toInt ∧ (0 : Int32).toInt ≤ 0) ∧ (0 ≤ (0 : Int32).toInt ∧ (0 : Int32).toInt ≤ 0) ∧ (0 ≤ (0 : Int32).toInt ∧ (0 : Int32).toInt ≤ 0) ∧ (0 ≤ (0 : Int32).toInt ∧ (0 : Int32).toInt ≤ 0) := ⟨(by first | with_reducible assumption | exact ⟨by omega, by omega⟩), (by first | with_reducible assumption | exact ⟨by omega, by omega⟩), (by first | with_reducible assumption | exact ⟨by omega, by omega⟩), (by first | with_reducible assumption | exact ⟨by omega, by omega⟩), (by first | with_reducible assumption | exact ⟨by omega, by omega⟩)⟩
  have hP9 : va_P (dC, dI) vwCl [(h0, .inr (7, mX7 h1 h2 h3 h4 h5 h6 h7 (upd (upd (upd (upd (upd v0 7 0) 8 0) 9 0) 10 0) 11 0)))] H := hP
  have hD9 : va_D A [(h0, .inr (7, mX7 h1 h2 h3 h4 h5 h6 h7 (upd (upd (upd (upd (upd v0 7 0) 8 0) 9 0) 10 0) 11 0)))] := hD
  exact W.vret hx hb hr (fun t ht hW => ⟨⟨(fun i => ([0, 0, 0, 0, 0] : List (Int32)).getD i 0), rfl, hpost, (fun _ => 0), (fun _ => (fun _ => 0)), (fun _ => (fun _ => 0)), by rw [ht]; exact hP9, va_K.moved hW.alike hK, hD9⟩, hS.F ht⟩) hS.2.2 dX7_clear_25
set_option maxHeartbeats 8000000 in
set_option maxRecDepth 100000 in
theorem sX4_fail_0 (l : Launch) (dC : Nat → ClassId) (dI : Nat → Nat → Nat) (adK adV : Nat → Nat) (h0 : Nat) (h1 : Nat) (h4 : Nat) (h11 : Nat) (h18 : Nat) (sz : Nat) (v0 : Nat → Int32) (x1 : Int32) (x2 : Int32) (hv0 : zR rg_Parser v0) : Met l yX4_fail (zw yX4_fail cX4_fail 3 none) { frames := 0, cells := 0, slots := 0, locals := 0 } (zPc dC dI adK adV [.ref h0, .int x1, .int x2] sz [(h0, .inr (4, mX4 h1 h4 h11 h18 v0))] []) (va_Qv (fun (u : Nat → Int32) => (265 ≤ (u 0).toInt ∧ (u 0).toInt ≤ 265) ∧ ((u 0).toInt = 265) ∧ ((v0 7).toInt ≠ 0 → (u 1).toInt = (v0 7).toInt) ∧ ((v0 7).toInt = 0 → 1 ≤ x1.toInt → x1.toInt ≤ 4 → 0 ≤ x2.toInt → x2.toInt ≤ 700 → (u 1).toInt ≠ 0)) (fun (u : Nat → Int32) (t : State) => ∃ (ww : Nat → Int64) (aa : Nat → Nat → Int32) (bb : Nat → Nat → Int64), va_P (dC, dI) vwCl [(h0, .inr (4, mX4 h1 h4 h11 h18 (upd (upd v0 4 (u 0)) 7 (u 1))))] t.heap ∧ va_K (dC, dI) vwCl [] t ∧ va_D (va_A [(h0, .inr (4, mX4 h1 h4 h11 h18 v0))] sz) [(h0, .inr (4, mX4 h1 h4 h11 h18 (upd (upd v0 4 (u 0)) 7 (u 1))))]) (va_A [(h0, .inr (4, mX4 h1 h4 h11 h18 v0))] sz)) 0 0 (va_A [(h0, .inr (4, mX4 h1 h4 h11 h18 v0))] sz) := by
  refine Met.ofW (cc := cX4_fail) (maxL := 3) (ret := none) (by decide) rfl ?_
  intro p e s m args below meth c s₁ B hml hv
  obtain ⟨rfl, hsz, hP, hK, hD0, hE, hZ⟩ := hv
  have hx := B.exec
  have hb := B.bytes
  have hr := B.returns
  have hG : ∀ w ∈ zG, w.before _ s = true := fun w h => atoms_spec (ws := (zw yX4_fail cX4_fail 3 none)) B.pre w (List.mem_cons_of_mem _ h)
  have hown : s.vm.findClass RX4 = some m.cls := findClass_of_methodNamed B.named
  have hlocks := B.notSynchronized

  subst hsz
  have hD := hD0.self (sz := s.heap.size)
  generalize hAe : va_A [(h0, .inr (4, mX4 h1 h4 h11 h18 v0))] s.heap.size = A at hD hZ ⊢
  have hA : ∀ q : Nat, s.heap.size ≤ q → A q := fun q h => by rw [← hAe]; exact Or.inr h
  have hS : va_S A s.heap s.heap [] := va_S.rf
  have hl := lv_entry ([.ref h0, .int x1, .int x2]) (n := 3) (Nat.le_of_ble_eq_true rfl)
  rw [lg_entry_eq]
  generalize (lg_sl ([.ref h0, .int x1, .int x2]) ++ List.replicate (3 - (lg_sl ([.ref h0, .int x1, .int x2])).length) Slot.unset).toArray = ls at hl ⊢
  have hl : lv_has ls 3 [(0, .ref h0), (1, .int x1), (2, .int x2)] := hl
  have b_ := zk_265
  have b_ : -2147483648 ≤ (v0 4).toInt ∧ (v0 4).toInt ≤ 2147483647 := ⟨zlo _, zhi _⟩
  have b_ : -2147483648 ≤ (v0 7).toInt ∧ (v0 7).toInt ≤ 2147483647 := ⟨zlo _, zhi _⟩
  refine lv_aload_n hx hb dX4_fail_0 rfl (lv_at hl 0 rfl) ?_
  refine va_get (D := (dC, dI)) (ci := 4) (v := .int (v0 7)) (C := RX4) (T := TX4) (N := 12) hx hb hG zuX4 hown hK hP 0 rfl rfl 7 (by decide) (hG _ zv415) (fun _ h9 => h9) rfl dX4_fail_1 ?_
  refine lv_if_ne (tgt := 20) hx hb dX4_fail_4 (by decide) (fun c_ => ?_) (fun c_ => ?_)
  · skip
    have b_ := zT_ne rfl zk_0 c_
    refine lv_aload_n hx hb dX4_fail_20 rfl (lv_at hl 0 rfl) ?_
    refine lv_sipush (v := 265) hx hb dX4_fail_21 (by decide) ?_
    refine va_put (D := (dC, dI)) (ci := 4) (v := .int 265) (ty := .int) (C := RX4) (T := TX4) (N := 12) hx hb hG zuX4 tyX4 tyX4_ok nmX4 hown hK hP hD hS 0 rfl rfl 4 (by decide) (hG _ zv412) (fun _ h9 => h9) rfl (by decide +kernel) rfl rfl (Nat.le_of_ble_eq_true rfl) dX4_fail_24 (fun H locs hP hD hS => ?_)
    have hP : va_P (dC, dI) vwCl [(h0, .inr (4, mX4 h1 h4 h11 h18 (upd v0 4 265)))] H := hP
    have hD : va_D A [(h0, .inr (4, mX4 h1 h4 h11 h18 (upd v0 4 265)))] := hD
    refine W.widen (k := 0) (n := 0) (by decide) (by decide) ?_
    have hpost : (265 ≤ (265 : Int32).toInt ∧ (265 : Int32).toInt ≤ 265) ∧ ((265 : Int32).toInt = 265) ∧ ((v0 7).toInt ≠ 0 → (v0 7).toInt = (v0 7).toInt) ∧ ((v0 7).toInt = 0 → 1 ≤ x1.toInt → x1.toInt ≤ 4 → 0 ≤ x2.toInt → x2.toInt ≤ 700 → (v0 7).toInt ≠ 0) := ⟨(by first | with_reducible assumption | exact ⟨by omega, by omega⟩), by omega, by omega, by first | omega | exact fun _ h1 h2 h3 h4 => zqfl e_z12 e_z14 e_z16 h1 h2 h3 h4⟩
    have hP9 : va_P (dC, dI) vwCl [(h0, .inr (4, mX4 h1 h4 h11 h18 (upd (upd v0 4 265) 7 (v0 7))))] H := hP
    have hD9 : va_D A [(h0, .inr (4, mX4 h1 h4 h11 h18 (upd (upd v0 4 265) 7 (v0 7))))] := hD
    exact W.vret hx hb hr (fun t ht hW => ⟨⟨(fun i => ([265, (v0 7)] : List (Int32)).getD i 0), rfl, hpost, (fun _ => 0), (fun _ => (fun _ => 0)), (fun _ => (fun _ => 0)), by rw [ht]; exact hP9, va_K.moved hW.alike hK, hD9⟩, hS.F ht⟩) hS.2.2 dX4_fail_27
  · skip
    have b_ := zF_ne rfl zk_0 c_
    refine lv_aload_n hx hb dX4_fail_7 rfl (lv_at hl 0 rfl) ?_
    refine lv_sipush (v := 1000) hx hb dX4_fail_8 (by decide) ?_
    refine lv_iload_n hx hb dX4_fail_11 rfl (lv_at hl 1 rfl) ?_
    have b_ : -2147483648 ≤ x1.toInt ∧ x1.toInt ≤ 2147483647 := ⟨zlo _, zhi _⟩
    refine lv_imul hx hb dX4_fail_12 ?_
    refine lv_topi (fun z12 e_z12 => ?_)
    refine lv_iload_n hx hb dX4_fail_13 rfl (lv_at hl 2 rfl) ?_
    have b_ : -2147483648 ≤ z12.toInt ∧ z12.toInt ≤ 2147483647 := ⟨zlo _, zhi _⟩
    have b_ : -2147483648 ≤ x2.toInt ∧ x2.toInt ≤ 2147483647 := ⟨zlo _, zhi _⟩
    refine lv_iadd hx hb dX4_fail_14 ?_
    refine lv_topi (fun z14 e_z14 => ?_)
    refine lv_iconst (v := 1) hx hb dX4_fail_15 (by decide) ?_
    have b_ : -2147483648 ≤ z14.toInt ∧ z14.toInt ≤ 2147483647 := ⟨zlo _, zhi _⟩
    refine lv_iadd hx hb dX4_fail_16 ?_
    refine lv_topi (fun z16 e_z16 => ?_)
    refine va_put (D := (dC, dI)) (ci := 4) (v := .int z16) (ty := .int) (C := RX4) (T := TX4) (N := 12) hx hb hG zuX4 tyX4 tyX4_ok nmX4 hown hK hP hD hS 0 rfl rfl 7 (by decide) (hG _ zv415) (fun _ h9 => h9) rfl (by decide +kernel) rfl rfl (Nat.le_of_ble_eq_true rfl) dX4_fail_17 (fun H locs hP hD hS => ?_)
    have hP : va_P (dC, dI) vwCl [(h0, .inr (4, mX4 h1 h4 h11 h18 (upd v0 7 z16)))] H := hP
    have hD : va_D A [(h0, .inr (4, mX4 h1 h4 h11 h18 (upd v0 7 z16)))] := hD
    refine lv_aload_n hx hb dX4_fail_20 rfl (lv_at hl 0 rfl) ?_
    refine lv_sipush (v := 265) hx hb dX4_fail_21 (by decide) ?_
    refine va_put (D := (dC, dI)) (ci := 4) (v := .int 265) (ty := .int) (C := RX4) (T := TX4) (N := 12) hx hb hG zuX4 tyX4 tyX4_ok nmX4 hown hK hP hD hS 0 rfl rfl 4 (by decide) (hG _ zv412) (fun _ h9 => h9) rfl (by decide +kernel) rfl rfl (Nat.le_of_ble_eq_true rfl) dX4_fail_24 (fun H locs hP hD hS => ?_)
    have hP : va_P (dC, dI) vwCl [(h0, .inr (4, mX4 h1 h4 h11 h18 (upd (upd v0 4 265) 7 z16)))] H := hP
    have hD : va_D A [(h0, .inr (4, mX4 h1 h4 h11 h18 (upd (upd v0 4 265) 7 z16)))] := hD
    refine W.widen (k := 0) (n := 0) (by decide) (by decide) ?_
    have b_ : -2147483648 ≤ z16.toInt ∧ z16.toInt ≤ 2147483647 := ⟨zlo _, zhi _⟩
    have hpost : (265 ≤ (265 : Int32).toInt ∧ (265 : Int32).toInt ≤ 265) ∧ ((265 : Int32).toInt = 265) ∧ ((v0 7).toInt ≠ 0 → z16.toInt = (v0 7).toInt) ∧ ((v0 7).toInt = 0 → 1 ≤ x1.toInt → x1.toInt ≤ 4 → 0 ≤ x2.toInt → x2.toInt ≤ 700 → z16.toInt ≠ 0) := ⟨(by first | with_reducible assumption | exact ⟨by omega, by omega⟩), by omega, by omega, by first | omega | exact fun _ h1 h2 h3 h4 => zqfl e_z12 e_z14 e_z16 h1 h2 h3 h4⟩
    have hP9 : va_P (dC, dI) vwCl [(h0, .inr (4, mX4 h1 h4 h11 h18 (upd (upd v0 4 265) 7 z16)))] H := hP
    have hD9 : va_D A [(h0, .inr (4, mX4 h1 h4 h11 h18 (upd (upd v0 4 265) 7 z16)))] := hD
    exact W.vret hx hb hr (fun t ht hW => ⟨⟨(fun i => ([265, z16] : List (Int32)).getD i 0), rfl, hpost, (fun _ => 0), (fun _ => (fun _ => 0)), (fun _ => (fun _ => 0)), by rw [ht]; exact hP9, va_K.moved hW.alike hK, hD9⟩, hS.F ht⟩) hS.2.2 dX4_fail_27
set_option maxHeartbeats 8000000 in
set_option maxRecDepth 100000 in
theorem sX4_settleNear_0 (l : Launch) (dC : Nat → ClassId) (dI : Nat → Nat → Nat) (adK adV : Nat → Nat) (h0 : Nat) (h1 : Nat) (h4 : Nat) (h11 : Nat) (h18 : Nat) (sz : Nat) (v0 : Nat → Int32) (hv0 : zR rg_Parser v0) : Met l yX4_settleNear (zw yX4_settleNear cX4_settleNear 1 none) { frames := 1, cells := 0, slots := 0, locals := 22 } (zPc dC dI adK adV [.ref h0] sz [(h0, .inr (4, mX4 h1 h4 h11 h18 v0))] []) (va_Qv (fun (u : Nat → Int32) => ((v0 8).toInt = -1 → (u 0).toInt = (v0 4).toInt ∧ (u 1).toInt = (v0 7).toInt) ∧ ((v0 8).toInt ≠ -1 → (u 0).toInt = 265) ∧ ((v0 7).toInt ≠ 0 → (u 1).toInt = (v0 7).toInt) ∧ ((v0 8).toInt ≠ -1 → (v0 7).toInt = 0 → 0 ≤ (v0 8).toInt → (v0 8).toInt ≤ 700 → (u 1).toInt ≠ 0)) (fun (u : Nat → Int32) (t : State) => ∃ (ww : Nat → Int64) (aa : Nat → Nat → Int32) (bb : Nat → Nat → Int64), va_P (dC, dI) vwCl [(h0, .inr (4, mX4 h1 h4 h11 h18 (upd (upd v0 4 (u 0)) 7 (u 1))))] t.heap ∧ va_K (dC, dI) vwCl [] t ∧ va_D (va_A [(h0, .inr (4, mX4 h1 h4 h11 h18 v0))] sz) [(h0, .inr (4, mX4 h1 h4 h11 h18 (upd (upd v0 4 (u 0)) 7 (u 1))))]) (va_A [(h0, .inr (4, mX4 h1 h4 h11 h18 v0))] sz)) 0 0 (va_A [(h0, .inr (4, mX4 h1 h4 h11 h18 v0))] sz) := by
  refine Met.ofW (cc := cX4_settleNear) (maxL := 1) (ret := none) (by decide) rfl ?_
  intro p e s m args below meth c s₁ B hml hv
  obtain ⟨rfl, hsz, hP, hK, hD0, hE, hZ⟩ := hv
  have hx := B.exec
  have hb := B.bytes
  have hr := B.returns
  have hG : ∀ w ∈ zG, w.before _ s = true := fun w h => atoms_spec (ws := (zw yX4_settleNear cX4_settleNear 1 none)) B.pre w (List.mem_cons_of_mem _ h)
  have hown : s.vm.findClass RX4 = some m.cls := findClass_of_methodNamed B.named
  have hlocks := B.notSynchronized

  subst hsz
  have hD := hD0.self (sz := s.heap.size)
  generalize hAe : va_A [(h0, .inr (4, mX4 h1 h4 h11 h18 v0))] s.heap.size = A at hD hZ ⊢
  have hA : ∀ q : Nat, s.heap.size ≤ q → A q := fun q h => by rw [← hAe]; exact Or.inr h
  have hS : va_S A s.heap s.heap [] := va_S.rf
  have hl := lv_entry ([.ref h0]) (n := 1) (Nat.le_of_ble_eq_true rfl)
  rw [lg_entry_eq]
  generalize (lg_sl ([.ref h0]) ++ List.replicate (1 - (lg_sl ([.ref h0])).length) Slot.unset).toArray = ls at hl ⊢
  have hl : lv_has ls 1 [(0, .ref h0)] := hl
  have b_ := zk_4
  have b_ : -2147483648 ≤ (v0 8).toInt ∧ (v0 8).toInt ≤ 2147483647 := ⟨zlo _, zhi _⟩
  have b_ : -2147483648 ≤ (v0 4).toInt ∧ (v0 4).toInt ≤ 2147483647 := ⟨zlo _, zhi _⟩
  have b_ : -2147483648 ≤ (v0 7).toInt ∧ (v0 7).toInt ≤ 2147483647 := ⟨zlo _, zhi _⟩
  refine lv_aload_n hx hb dX4_settleNear_0 rfl (lv_at hl 0 rfl) ?_
  refine va_get (D := (dC, dI)) (ci := 4) (v := .int (v0 8)) (C := RX4) (T := TX4) (N := 12) hx hb hG zuX4 hown hK hP 0 rfl rfl 8 (by decide) (hG _ zv416) (fun _ h9 => h9) rfl dX4_settleNear_1 ?_
  refine lv_iconst (v := (-1)) hx hb dX4_settleNear_4 (by decide) ?_
  refine lv_icmp_eq (tgt := 17) hx hb dX4_settleNear_5 (by decide) (fun c_ => ?_) (fun c_ => ?_)
  · skip
    have b_ := zT_eq rfl zk_m1 c_
    refine W.widen (k := 0) (n := 0) (by decide) (by decide) ?_
    have hpost : ((v0 8).toInt = -1 → (v0 4).toInt = (v0 4).toInt ∧ (v0 7).toInt = (v0 7).toInt) ∧ ((v0 8).toInt ≠ -1 → (v0 4).toInt = 265) ∧ ((v0 7).toInt ≠ 0 → (v0 7).toInt = (v0 7).toInt) ∧ ((v0 8).toInt ≠ -1 → (v0 7).toInt = 0 → 0 ≤ (v0 8).toInt → (v0 8).toInt ≤ 700 → (v0 7).toInt ≠ 0) := ⟨by omega, by omega, by omega, by first | omega | exact fun _ h1 h2 h3 => hX14_2 h1 (by decide) (by decide) h2 h3⟩
    have hP9 : va_P (dC, dI) vwCl [(h0, .inr (4, mX4 h1 h4 h11 h18 (upd (upd v0 4 (v0 4)) 7 (v0 7))))] s.heap := hP
    have hD9 : va_D A [(h0, .inr (4, mX4 h1 h4 h11 h18 (upd (upd v0 4 (v0 4)) 7 (v0 7))))] := hD
    exact W.vret hx hb hr (fun t ht hW => ⟨⟨(fun i => ([(v0 4), (v0 7)] : List (Int32)).getD i 0), rfl, hpost, (fun _ => 0), (fun _ => (fun _ => 0)), (fun _ => (fun _ => 0)), by rw [ht]; exact hP9, va_K.moved hW.alike hK, hD9⟩, hS.F ht⟩) hS.2.2 dX4_settleNear_17
  · skip
    have b_ := zF_eq rfl zk_m1 c_
    refine lv_aload_n hx hb dX4_settleNear_8 rfl (lv_at hl 0 rfl) ?_
    refine lv_iconst (v := 4) hx hb dX4_settleNear_9 (by decide) ?_
    refine lv_aload_n hx hb dX4_settleNear_10 rfl (lv_at hl 0 rfl) ?_
    refine va_get (D := (dC, dI)) (ci := 4) (v := .int (v0 8)) (C := RX4) (T := TX4) (N := 12) hx hb hG zuX4 hown hK hP 0 rfl rfl 8 (by decide) (hG _ zv416) (fun _ h9 => h9) rfl dX4_settleNear_11 ?_
    have hPc := hP.sub (ws' := [(h0, .inr (4, mX4 h1 h4 h11 h18 v0))]) [0] rfl
    have hDc := hD.sub (ws' := [(h0, .inr (4, mX4 h1 h4 h11 h18 v0))]) [0] (by decide) rfl
    have hKc := hK.sub (tys' := []) [] rfl
    have hFc := va_free (wc := [(h0, .inr (4, mX4 h1 h4 h11 h18 v0))]) hD hS hA [0] rfl
    refine va_callv (va_runV (As := [.int 4, .int (v0 8)]) (rest := []) ⟨hx, hb, hml, hown, hG⟩ (sX4_fail_0 l dC dI adK adV h0 h1 h4 h11 h18 s.heap.size v0 4 (v0 8) hv0) (cwV 2 hG (zgV zv1021 zv1023 zv13 zv137 zv1024) rfl rfl rfl (by decide +kernel) ⟨Nat.le_of_ble_eq_true rfl, Nat.le_of_ble_eq_true rfl⟩) ⟨zPc_blind, va_recv hKc hPc (ci := 4) (q0 := 0) rfl rfl, zPc_pre hPc hKc hDc hE hS hFc hZ⟩ rfl rfl hl.1 rfl (lv_room (Nat.le_of_ble_eq_true rfl)) dX4_settleNear_14 ⟨Nat.le_of_ble_eq_true rfl, Nat.le_of_ble_eq_true rfl⟩) hS (fun q _ h => hFc q h) hFc (fun u14_ t H1 locs ht hvm hw hB hz1 hk1 hS => ?_)
    replace hw : (265 ≤ (u14_ 0).toInt ∧ (u14_ 0).toInt ≤ 265) ∧ ((u14_ 0).toInt = 265) ∧ ((v0 7).toInt ≠ 0 → (u14_ 1).toInt = (v0 7).toInt) ∧ ((v0 7).toInt = 0 → 1 ≤ (4 : Int32).toInt → (4 : Int32).toInt ≤ 4 → 0 ≤ (v0 8).toInt → (v0 8).toInt ≤ 700 → (u14_ 1).toInt ≠ 0) := hw
    obtain ⟨b_, hX14_0, hX14_1, hX14_2⟩ := hw
    obtain ⟨w14_, a14_, b14_, hP1, hK1, hD1⟩ := hB
    rw [ht] at hP1
    obtain ⟨hP, hD⟩ := va_join (wr := []) (w1 := [(h0, .inr (4, mX4 h1 h4 h11 h18 (upd (upd v0 4 (u14_ 0)) 7 (u14_ 1))))]) hP hD [0] [] rfl rfl (by decide) (by decide) hk1 hFc hP1 hD1
    have hP : va_P (dC, dI) vwCl [(h0, .inr (4, mX4 h1 h4 h11 h18 (upd (upd v0 4 (u14_ 0)) 7 (u14_ 1))))] H1 := hP.sub [0] rfl
    have hD : va_D A [(h0, .inr (4, mX4 h1 h4 h11 h18 (upd (upd v0 4 (u14_ 0)) 7 (u14_ 1))))] := hD.sub [0] (by decide) rfl
    generalize H1 = H at hP hS ⊢
    clear hz1
    refine W.widen (k := 0) (n := 0) (by decide) (by decide) ?_
    have b_ : -2147483648 ≤ (u14_ 1).toInt ∧ (u14_ 1).toInt ≤ 2147483647 := ⟨zlo _, zhi _⟩
    have hpost : ((v0 8).toInt = -1 → (u14_ 0).toInt = (v0 4).toInt ∧ (u14_ 1).toInt = (v0 7).toInt) ∧ ((v0 8).toInt ≠ -1 → (u14_ 0).toInt = 265) ∧ ((v0 7).toInt ≠ 0 → (u14_ 1).toInt = (v0 7).toInt) ∧ ((v0 8).toInt ≠ -1 → (v0 7).toInt = 0 → 0 ≤ (v0 8).toInt → (v0 8).toInt ≤ 700 → (u14_ 1).toInt ≠ 0) := ⟨by omega, by omega, by omega, by first | omega | exact fun _ h1 h2 h3 => hX14_2 h1 (by decide) (by decide) h2 h3⟩
    have hP9 : va_P (dC, dI) vwCl [(h0, .inr (4, mX4 h1 h4 h11 h18 (upd (upd v0 4 (u14_ 0)) 7 (u14_ 1))))] H := hP
    have hD9 : va_D A [(h0, .inr (4, mX4 h1 h4 h11 h18 (upd (upd v0 4 (u14_ 0)) 7 (u14_ 1))))] := hD
    exact W.vret hx hb hr (fun t ht hW => ⟨⟨(fun i => ([(u14_ 0), (u14_ 1)] : List (Int32)).getD i 0), rfl, hpost, (fun _ => 0), (fun _ => (fun _ => 0)), (fun _ => (fun _ => 0)), by rw [ht]; exact hP9, va_K.moved hW.alike hK, hD9⟩, hS.F ht⟩) hS.2.2 dX4_settleNear_17
set_option maxHeartbeats 8000000 in
set_option maxRecDepth 100000 in
theorem sX9_behindBlanks_0 (l : Launch) (dC : Nat → ClassId) (dI : Nat → Nat → Nat) (adK adV : Nat → Nat) (h0 : Nat) (h1 : Nat) (h2 : Nat) (k1 : ClassId) (sz : Nat) (v0 : Nat → Int32) (f1 : Nat → Int32) (x1 : Int32) (hv0 : zR rg_Tape v0) : Met l yX9_behindBlanks (zw yX9_behindBlanks cX9_behindBlanks 3 (some .int)) { frames := 1, cells := 0, slots := 0, locals := 40 } (zPc dC dI adK adV [.ref h0, .int x1] sz [(h0, .inr (9, mX9 h1 h2 v0)), (h1, zi k1 600 f1)] [(k1, .byte)]) (va_Qi (fun (r : Int32) (u : Nat → Int32) => (0 ≤ r.toInt ∧ r.toInt ≤ 2147483647) ∧ (0 ≤ x1.toInt → zBl f1 (v0 2).toInt x1.toInt r.toInt)) (fun (u : Nat → Int32) (t : State) => ∃ (ww : Nat → Int64) (aa : Nat → Nat → Int32) (bb : Nat → Nat → Int64), va_P (dC, dI) vwCl [(h0, .inr (9, mX9 h1 h2 v0)), (h1, zi k1 600 f1)] t.heap ∧ va_K (dC, dI) vwCl [(k1, .byte)] t ∧ va_D (va_A [(h0, .inr (9, mX9 h1 h2 v0)), (h1, zi k1 600 f1)] sz) [(h0, .inr (9, mX9 h1 h2 v0)), (h1, zi k1 600 f1)]) (va_A [(h0, .inr (9, mX9 h1 h2 v0)), (h1, zi k1 600 f1)] sz)) 0 0 (va_A [(h0, .inr (9, mX9 h1 h2 v0)), (h1, zi k1 600 f1)] sz) := by
  refine Met.ofW (cc := cX9_behindBlanks) (maxL := 3) (ret := (some .int)) (by decide) rfl ?_
  intro p e s m args below meth c s₁ B hml hv
  obtain ⟨rfl, hsz, hP, hK, hD0, hE, hZ⟩ := hv
  have hx := B.exec
  have hb := B.bytes
  have hr := B.returns
  have hG : ∀ w ∈ zG, w.before _ s = true := fun w h => atoms_spec (ws := (zw yX9_behindBlanks cX9_behindBlanks 3 (some .int))) B.pre w (List.mem_cons_of_mem _ h)
  have hown : s.vm.findClass RX9 = some m.cls := findClass_of_methodNamed B.named
  have hlocks := B.notSynchronized

  subst hsz
  have hD := hD0.self (sz := s.heap.size)
  generalize hAe : va_A [(h0, .inr (9, mX9 h1 h2 v0)), (h1, zi k1 600 f1)] s.heap.size = A at hD hZ ⊢
  have hA : ∀ q : Nat, s.heap.size ≤ q → A q := fun q h => by rw [← hAe]; exact Or.inr h
  have hS : va_S A s.heap s.heap [] := va_S.rf
  have hl := lv_entry ([.ref h0, .int x1]) (n := 3) (Nat.le_of_ble_eq_true rfl)
  rw [lg_entry_eq]
  generalize (lg_sl ([.ref h0, .int x1]) ++ List.replicate (3 - (lg_sl ([.ref h0, .int x1])).length) Slot.unset).toArray = ls at hl ⊢
  have hl : lv_has ls 3 [(0, .ref h0), (1, .int x1)] := hl
  have b_ : 0 ≤ (v0 2).toInt ∧ (v0 2).toInt ≤ 600 := hv0 2
  refine lv_iload_n hx hb dX9_behindBlanks_0 rfl (lv_at hl 1 rfl) ?_
  refine lv_iconst (v := 0) hx hb dX9_behindBlanks_1 (by decide) ?_
  have b_ : -2147483648 ≤ x1.toInt ∧ x1.toInt ≤ 2147483647 := ⟨zlo _, zhi _⟩
  refine va_mmax hx hb (by rw [hml]; exact hl.1.symm) hown (hG _ zv1029) (hG _ zv1030) (hG _ zv152) (hG _ zv1031) (Nat.le_of_ble_eq_true rfl) (Nat.le_of_ble_eq_true rfl) (Nat.le_of_ble_eq_true rfl) (Nat.le_of_ble_eq_true rfl) dX9_behindBlanks_2 ?_
  refine lv_topi (fun z2 e_z2 => ?_)
  have b_ := zmax rfl zk_0 e_z2
  refine lv_istore_n (lv' := [(2, .int z2), (0, .ref h0), (1, .int x1)]) hx hb dX9_behindBlanks_5 rfl hl (by decide) rfl (fun ls hl => ?_)
  refine zcutL (fun u6_ => (2147483647 - (u6_ 0).toInt).toNat) (fun H locs ls u6_ w6_ a6_ b6_ => va_P (dC, dI) vwCl [(h0, .inr (9, mX9 h1 h2 v0)), (h1, zi k1 600 f1)] H ∧ va_D A [(h0, .inr (9, mX9 h1 h2 v0)), (h1, zi k1 600 f1)] ∧ va_S A s.heap H locs ∧ lv_has ls 3 [(0, .ref h0), (1, .int x1), (2, .int (u6_ 0))] ∧ (0 ≤ (u6_ 0).toInt ∧ (u6_ 0).toInt ≤ 2147483647) ∧ (0 ≤ x1.toInt → x1.toInt ≤ (u6_ 0).toInt) ∧ (0 ≤ x1.toInt → (u6_ 0).toInt ≤ (v0 2).toInt ∨ (u6_ 0).toInt = x1.toInt) ∧ (0 ≤ x1.toInt → zBq f1 x1.toInt (u6_ 0).toInt)) (fun ls u6_ w6_ => F0 m 6 ls []) 0 0 ?_ (fun hJ6 => ?_)
  · skip
    intro H locs ls u6_ w6_ a6_ b6_ hc hJ6
    obtain ⟨hP, hD, hS, hl, b_, b_, b_, hI6_2⟩ := hc
    refine lv_iload_n hx hb dX9_behindBlanks_6 rfl (lv_at hl 2 rfl) ?_
    refine lv_aload_n hx hb dX9_behindBlanks_7 rfl (lv_at hl 0 rfl) ?_
    refine va_get (D := (dC, dI)) (ci := 9) (v := .int (v0 2)) (C := RX9) (T := TX9) (N := 4) hx hb hG zuX9 hown hK hP 0 rfl rfl 2 (by decide) (hG _ zv171) (fun _ h9 => h9) rfl dX9_behindBlanks_8 ?_
    refine lv_icmp_ge (tgt := 42) hx hb dX9_behindBlanks_11 (by decide) (fun c_ => ?_) (fun c_ => ?_)
    · skip
      have b_ := zT_ge rfl rfl c_
      refine lv_iload_n hx hb dX9_behindBlanks_42 rfl (lv_at hl 2 rfl) ?_
      refine W.widen (k := 0) (n := 0) (by decide) (by decide) ?_
      have hpost : (0 ≤ (u6_ 0).toInt ∧ (u6_ 0).toInt ≤ 2147483647) ∧ (0 ≤ x1.toInt → zBl f1 (v0 2).toInt x1.toInt (u6_ 0).toInt) := ⟨(by first | with_reducible assumption | exact ⟨by omega, by omega⟩), by first | exact fun q_ => zBl_i (hI6_2 q_) (by omega) (by omega) (fun _ => zBk_n e_z19 e_z30 (by omega) (by omega)) | exact fun q_ => zBl_i (hI6_2 q_) (by omega) (by omega) (fun h_ => by omega)⟩
      have hP9 : va_P (dC, dI) vwCl [(h0, .inr (9, mX9 h1 h2 v0)), (h1, zi k1 600 f1)] H := hP
      have hD9 : va_D A [(h0, .inr (9, mX9 h1 h2 v0)), (h1, zi k1 600 f1)] := hD
      exact W.iret (v := (u6_ 0)) hx hb hr (fun t ht hW => ⟨⟨(u6_ 0), (fun _ => 0), rfl, hpost, (fun _ => 0), (fun _ => (fun _ => 0)), (fun _ => (fun _ => 0)), by rw [ht]; exact hP9, va_K.moved hW.alike hK, hD9⟩, hS.F ht⟩) hS.2.2 dX9_behindBlanks_43
    · skip
      have b_ := zF_ge rfl rfl c_
      refine lv_aload_n hx hb dX9_behindBlanks_14 rfl (lv_at hl 0 rfl) ?_
      refine va_get (D := (dC, dI)) (ci := 9) (v := .ref h1) (C := RX9) (T := TX9) (N := 4) hx hb hG zuX9 hown hK hP 0 rfl rfl 0 (by decide) (hG _ zv169) (fun _ h9 => h9) rfl dX9_behindBlanks_15 ?_
      refine lv_iload_n hx hb dX9_behindBlanks_18 rfl (lv_at hl 2 rfl) ?_
      refine va_bald hx hb hK hP 1 0 rfl rfl (zin_lit ⟨by omega, by omega⟩) dX9_behindBlanks_19 ?_
      refine lv_topi (fun z19 e_z19 => ?_)
      refine lv_bipush (v := 32) hx hb dX9_behindBlanks_20 (by decide) ?_
      have b_ : -2147483648 ≤ z19.toInt ∧ z19.toInt ≤ 2147483647 := ⟨zlo _, zhi _⟩
      refine lv_icmp_eq (tgt := 36) hx hb dX9_behindBlanks_22 (by decide) (fun c_ => ?_) (fun c_ => ?_)
      · skip
        have b_ := zT_eq rfl zk_32 c_
        obtain ⟨z36, e_z36⟩ : ∃ z : Int32, z = (u6_ 0) + Int32.ofInt 1 := ⟨_, rfl⟩
        have b_ := zadd (x := (u6_ 0)) (y := Int32.ofInt 1) rfl (show (Int32.ofInt 1).toInt = 1 from by decide) e_z36 (by omega) (by omega)
        refine lv_iinc (v := z36) (lv' := [(2, .int z36), (0, .ref h0), (1, .int x1)]) hx hb dX9_behindBlanks_36 hl (k := 2) rfl e_z36.symm (by decide) rfl (fun ls hl => ?_)
        refine lv_goto (tgt := 6) hx hb dX9_behindBlanks_39 (by decide) ?_
        have hc : va_P (dC, dI) vwCl [(h0, .inr (9, mX9 h1 h2 v0)), (h1, zi k1 600 f1)] H ∧ va_D A [(h0, .inr (9, mX9 h1 h2 v0)), (h1, zi k1 600 f1)] ∧ va_S A s.heap H locs ∧ lv_has ls 3 [(0, .ref h0), (1, .int x1), (2, .int z36)] ∧ (0 ≤ z36.toInt ∧ z36.toInt ≤ 2147483647) ∧ (0 ≤ x1.toInt → x1.toInt ≤ z36.toInt) ∧ (0 ≤ x1.toInt → z36.toInt ≤ (v0 2).toInt ∨ z36.toInt = x1.toInt) ∧ (0 ≤ x1.toInt → zBq f1 x1.toInt z36.toInt) := ⟨hP, hD, hS, lv_sub hl [1, 2, 0] rfl, (by first | with_reducible assumption | exact ⟨by omega, by omega⟩), by omega, by omega, by first | exact fun _ => zBq_0 (by omega) | exact fun q_ => zBq_s (hI6_2 q_) e_z19 (by unfold zqBk; omega) (by omega) (by omega) | exact fun q_ => zBq_s (hI6_2 q_) e_z30 (by unfold zqBk; omega) (by omega) (by omega)⟩
        exact hJ6 H locs ls (fun i => ([z36] : List (Int32)).getD i 0) (fun _ => 0) (fun _ => (fun _ => 0)) (fun _ => (fun _ => 0)) hc (show (2147483647 - z36.toInt).toNat < (2147483647 - (u6_ 0).toInt).toNat from by omega)
      · skip
        have b_ := zF_eq rfl zk_32 c_
        refine lv_aload_n hx hb dX9_behindBlanks_25 rfl (lv_at hl 0 rfl) ?_
        refine va_get (D := (dC, dI)) (ci := 9) (v := .ref h1) (C := RX9) (T := TX9) (N := 4) hx hb hG zuX9 hown hK hP 0 rfl rfl 0 (by decide) (hG _ zv169) (fun _ h9 => h9) rfl dX9_behindBlanks_26 ?_
        refine lv_iload_n hx hb dX9_behindBlanks_29 rfl (lv_at hl 2 rfl) ?_
        refine va_bald hx hb hK hP 1 0 rfl rfl (zin_lit ⟨by omega, by omega⟩) dX9_behindBlanks_30 ?_
        refine lv_topi (fun z30 e_z30 => ?_)
        refine lv_bipush (v := 10) hx hb dX9_behindBlanks_31 (by decide) ?_
        have b_ : -2147483648 ≤ z30.toInt ∧ z30.toInt ≤ 2147483647 := ⟨zlo _, zhi _⟩
        refine lv_icmp_ne (tgt := 42) hx hb dX9_behindBlanks_33 (by decide) (fun c_ => ?_) (fun c_ => ?_)
        · skip
          have b_ := zT_ne rfl zk_10 c_
          refine lv_iload_n hx hb dX9_behindBlanks_42 rfl (lv_at hl 2 rfl) ?_
          refine W.widen (k := 0) (n := 0) (by decide) (by decide) ?_
          have hpost : (0 ≤ (u6_ 0).toInt ∧ (u6_ 0).toInt ≤ 2147483647) ∧ (0 ≤ x1.toInt → zBl f1 (v0 2).toInt x1.toInt (u6_ 0).toInt) := ⟨(by first | with_reducible assumption | exact ⟨by omega, by omega⟩), by first | exact fun q_ => zBl_i (hI6_2 q_) (by omega) (by omega) (fun _ => zBk_n e_z19 e_z30 (by omega) (by omega)) | exact fun q_ => zBl_i (hI6_2 q_) (by omega) (by omega) (fun h_ => by omega)⟩
          have hP9 : va_P (dC, dI) vwCl [(h0, .inr (9, mX9 h1 h2 v0)), (h1, zi k1 600 f1)] H := hP
          have hD9 : va_D A [(h0, .inr (9, mX9 h1 h2 v0)), (h1, zi k1 600 f1)] := hD
          exact W.iret (v := (u6_ 0)) hx hb hr (fun t ht hW => ⟨⟨(u6_ 0), (fun _ => 0), rfl, hpost, (fun _ => 0), (fun _ => (fun _ => 0)), (fun _ => (fun _ => 0)), by rw [ht]; exact hP9, va_K.moved hW.alike hK, hD9⟩, hS.F ht⟩) hS.2.2 dX9_behindBlanks_43
        · skip
          have b_ := zF_ne rfl zk_10 c_
          obtain ⟨z36, e_z36⟩ : ∃ z : Int32, z = (u6_ 0) + Int32.ofInt 1 := ⟨_, rfl⟩
          have b_ := zadd (x := (u6_ 0)) (y := Int32.ofInt 1) rfl (show (Int32.ofInt 1).toInt = 1 from by decide) e_z36 (by omega) (by omega)
          refine lv_iinc (v := z36) (lv' := [(2, .int z36), (0, .ref h0), (1, .int x1)]) hx hb dX9_behindBlanks_36 hl (k := 2) rfl e_z36.symm (by decide) rfl (fun ls hl => ?_)
          refine lv_goto (tgt := 6) hx hb dX9_behindBlanks_39 (by decide) ?_
          have hc : va_P (dC, dI) vwCl [(h0, .inr (9, mX9 h1 h2 v0)), (h1, zi k1 600 f1)] H ∧ va_D A [(h0, .inr (9, mX9 h1 h2 v0)), (h1, zi k1 600 f1)] ∧ va_S A s.heap H locs ∧ lv_has ls 3 [(0, .ref h0), (1, .int x1), (2, .int z36)] ∧ (0 ≤ z36.toInt ∧ z36.toInt ≤ 2147483647) ∧ (0 ≤ x1.toInt → x1.toInt ≤ z36.toInt) ∧ (0 ≤ x1.toInt → z36.toInt ≤ (v0 2).toInt ∨ z36.toInt = x1.toInt) ∧ (0 ≤ x1.toInt → zBq f1 x1.toInt z36.toInt) := ⟨hP, hD, hS, lv_sub hl [1, 2, 0] rfl, (by first | with_reducible assumption | exact ⟨by omega, by omega⟩), by omega, by omega, by first | exact fun _ => zBq_0 (by omega) | exact fun q_ => zBq_s (hI6_2 q_) e_z19 (by unfold zqBk; omega) (by omega) (by omega) | exact fun q_ => zBq_s (hI6_2 q_) e_z30 (by unfold zqBk; omega) (by omega) (by omega)⟩
          exact hJ6 H locs ls (fun i => ([z36] : List (Int32)).getD i 0) (fun _ => 0) (fun _ => (fun _ => 0)) (fun _ => (fun _ => 0)) hc (show (2147483647 - z36.toInt).toNat < (2147483647 - (u6_ 0).toInt).toNat from by omega)
  · skip
    have hc : va_P (dC, dI) vwCl [(h0, .inr (9, mX9 h1 h2 v0)), (h1, zi k1 600 f1)] s.heap ∧ va_D A [(h0, .inr (9, mX9 h1 h2 v0)), (h1, zi k1 600 f1)] ∧ va_S A s.heap s.heap [] ∧ lv_has ls 3 [(0, .ref h0), (1, .int x1), (2, .int z2)] ∧ (0 ≤ z2.toInt ∧ z2.toInt ≤ 2147483647) ∧ (0 ≤ x1.toInt → x1.toInt ≤ z2.toInt) ∧ (0 ≤ x1.toInt → z2.toInt ≤ (v0 2).toInt ∨ z2.toInt = x1.toInt) ∧ (0 ≤ x1.toInt → zBq f1 x1.toInt z2.toInt) := ⟨hP, hD, hS, lv_sub hl [1, 2, 0] rfl, (by first | with_reducible assumption | exact ⟨by omega, by omega⟩), by omega, by omega, by first | exact fun _ => zBq_0 (by omega) | exact fun q_ => zBq_s (hI6_2 q_) e_z19 (by unfold zqBk; omega) (by omega) (by omega) | exact fun q_ => zBq_s (hI6_2 q_) e_z30 (by unfold zqBk; omega) (by omega) (by omega)⟩
    exact hJ6 s.heap [] ls (fun i => ([z2] : List (Int32)).getD i 0) (fun _ => 0) (fun _ => (fun _ => 0)) (fun _ => (fun _ => 0)) hc
set_option maxHeartbeats 8000000 in
set_option maxRecDepth 100000 in
theorem sX9_tokenEnd_0 (l : Launch) (dC : Nat → ClassId) (dI : Nat → Nat → Nat) (adK adV : Nat → Nat) (h0 : Nat) (h1 : Nat) (h2 : Nat) (k1 : ClassId) (sz : Nat) (v0 : Nat → Int32) (f1 : Nat → Int32) (x1 : Int32) (hv0 : zR rg_Tape v0) : Met l yX9_tokenEnd (zw yX9_tokenEnd cX9_tokenEnd 3 (some .int)) { frames := 1, cells := 0, slots := 0, locals := 22 } (zPc dC dI adK adV [.ref h0, .int x1] sz [(h0, .inr (9, mX9 h1 h2 v0)), (h1, zi k1 600 f1)] [(k1, .byte)]) (va_Qi (fun (r : Int32) (u : Nat → Int32) => (x1.toInt ≤ r.toInt) ∧ (x1.toInt ≤ 600 → r.toInt ≤ 600) ∧ (0 ≤ x1.toInt → zqRe f1 (v0 2).toInt x1.toInt r.toInt)) (fun (u : Nat → Int32) (t : State) => ∃ (ww : Nat → Int64) (aa : Nat → Nat → Int32) (bb : Nat → Nat → Int64), va_P (dC, dI) vwCl [(h0, .inr (9, mX9 h1 h2 v0)), (h1, zi k1 600 f1)] t.heap ∧ va_K (dC, dI) vwCl [(k1, .byte)] t ∧ va_D (va_A [(h0, .inr (9, mX9 h1 h2 v0)), (h1, zi k1 600 f1)] sz) [(h0, .inr (9, mX9 h1 h2 v0)), (h1, zi k1 600 f1)]) (va_A [(h0, .inr (9, mX9 h1 h2 v0)), (h1, zi k1 600 f1)] sz)) 0 0 (va_A [(h0, .inr (9, mX9 h1 h2 v0)), (h1, zi k1 600 f1)] sz) := by
  refine Met.ofW (cc := cX9_tokenEnd) (maxL := 3) (ret := (some .int)) (by decide) rfl ?_
  intro p e s m args below meth c s₁ B hml hv
  obtain ⟨rfl, hsz, hP, hK, hD0, hE, hZ⟩ := hv
  have hx := B.exec
  have hb := B.bytes
  have hr := B.returns
  have hG : ∀ w ∈ zG, w.before _ s = true := fun w h => atoms_spec (ws := (zw yX9_tokenEnd cX9_tokenEnd 3 (some .int))) B.pre w (List.mem_cons_of_mem _ h)
  have hown : s.vm.findClass RX9 = some m.cls := findClass_of_methodNamed B.named
  have hlocks := B.notSynchronized

  subst hsz
  have hD := hD0.self (sz := s.heap.size)
  generalize hAe : va_A [(h0, .inr (9, mX9 h1 h2 v0)), (h1, zi k1 600 f1)] s.heap.size = A at hD hZ ⊢
  have hA : ∀ q : Nat, s.heap.size ≤ q → A q := fun q h => by rw [← hAe]; exact Or.inr h
  have hS : va_S A s.heap s.heap [] := va_S.rf
  have hl := lv_entry ([.ref h0, .int x1]) (n := 3) (Nat.le_of_ble_eq_true rfl)
  rw [lg_entry_eq]
  generalize (lg_sl ([.ref h0, .int x1]) ++ List.replicate (3 - (lg_sl ([.ref h0, .int x1])).length) Slot.unset).toArray = ls at hl ⊢
  have hl : lv_has ls 3 [(0, .ref h0), (1, .int x1)] := hl
  have b_ : 0 ≤ (v0 2).toInt ∧ (v0 2).toInt ≤ 600 := hv0 2
  refine lv_iload_n hx hb dX9_tokenEnd_0 rfl (lv_at hl 1 rfl) ?_
  refine lv_istore_n (lv' := [(2, .int x1), (0, .ref h0), (1, .int x1)]) hx hb dX9_tokenEnd_1 rfl hl (by decide) rfl (fun ls hl => ?_)
  refine zcutL (fun u2_ => (2147483647 - (u2_ 0).toInt).toNat) (fun H locs ls u2_ w2_ a2_ b2_ => va_P (dC, dI) vwCl [(h0, .inr (9, mX9 h1 h2 v0)), (h1, zi k1 600 f1)] H ∧ va_D A [(h0, .inr (9, mX9 h1 h2 v0)), (h1, zi k1 600 f1)] ∧ va_S A s.heap H locs ∧ lv_has ls 3 [(0, .ref h0), (1, .int x1), (2, .int (u2_ 0))] ∧ (x1.toInt ≤ (u2_ 0).toInt) ∧ ((u2_ 0).toInt ≤ 600 ∨ (u2_ 0).toInt = x1.toInt) ∧ ((u2_ 0).toInt ≤ (v0 2).toInt ∨ (u2_ 0).toInt = x1.toInt) ∧ (0 ≤ x1.toInt → zAt f1 x1.toInt (u2_ 0).toInt)) (fun ls u2_ w2_ => F0 m 2 ls []) 0 0 ?_ (fun hJ2 => ?_)
  · skip
    intro H locs ls u2_ w2_ a2_ b2_ hc hJ2
    obtain ⟨hP, hD, hS, hl, b_, b_, b_, hI2_3⟩ := hc
    refine lv_iload_n hx hb dX9_tokenEnd_2 rfl (lv_at hl 2 rfl) ?_
    refine lv_aload_n hx hb dX9_tokenEnd_3 rfl (lv_at hl 0 rfl) ?_
    refine va_get (D := (dC, dI)) (ci := 9) (v := .int (v0 2)) (C := RX9) (T := TX9) (N := 4) hx hb hG zuX9 hown hK hP 0 rfl rfl 2 (by decide) (hG _ zv171) (fun _ h9 => h9) rfl dX9_tokenEnd_4 ?_
    have b_ : -2147483648 ≤ (u2_ 0).toInt ∧ (u2_ 0).toInt ≤ 2147483647 := ⟨zlo _, zhi _⟩
    refine lv_icmp_ge (tgt := 24) hx hb dX9_tokenEnd_7 (by decide) (fun c_ => ?_) (fun c_ => ?_)
    · skip
      have b_ := zT_ge rfl rfl c_
      refine lv_iload_n hx hb dX9_tokenEnd_24 rfl (lv_at hl 2 rfl) ?_
      refine W.widen (k := 0) (n := 0) (by decide) (by decide) ?_
      have hpost : (x1.toInt ≤ (u2_ 0).toInt) ∧ (x1.toInt ≤ 600 → (u2_ 0).toInt ≤ 600) ∧ (0 ≤ x1.toInt → zqRe f1 (v0 2).toInt x1.toInt (u2_ 0).toInt) := ⟨by omega, by omega, by first | exact fun q_ => ⟨by omega, hI2_3 q_, fun h_ => by omega, by omega⟩ | exact fun q_ => ⟨by omega, hI2_3 q_, fun h_ t_ => hX12_3 (by omega) ⟨by omega, h_, t_⟩, by omega⟩⟩
      have hP9 : va_P (dC, dI) vwCl [(h0, .inr (9, mX9 h1 h2 v0)), (h1, zi k1 600 f1)] H := hP
      have hD9 : va_D A [(h0, .inr (9, mX9 h1 h2 v0)), (h1, zi k1 600 f1)] := hD
      exact W.iret (v := (u2_ 0)) hx hb hr (fun t ht hW => ⟨⟨(u2_ 0), (fun _ => 0), rfl, hpost, (fun _ => 0), (fun _ => (fun _ => 0)), (fun _ => (fun _ => 0)), by rw [ht]; exact hP9, va_K.moved hW.alike hK, hD9⟩, hS.F ht⟩) hS.2.2 dX9_tokenEnd_25
    · skip
      have b_ := zF_ge rfl rfl c_
      refine lv_aload_n hx hb dX9_tokenEnd_10 rfl (lv_at hl 0 rfl) ?_
      refine lv_iload_n hx hb dX9_tokenEnd_11 rfl (lv_at hl 2 rfl) ?_
      have hPc := hP.sub (ws' := [(h0, .inr (9, mX9 h1 h2 v0)), (h1, zi k1 600 f1)]) [0, 1] rfl
      have hDc := hD.sub (ws' := [(h0, .inr (9, mX9 h1 h2 v0)), (h1, zi k1 600 f1)]) [0, 1] (by decide) rfl
      have hKc := hK.sub (tys' := [(k1, .byte)]) [0] rfl
      have hFc := va_free (wc := [(h0, .inr (9, mX9 h1 h2 v0)), (h1, zi k1 600 f1)]) hD hS hA [0, 1] rfl
      refine va_calli (va_runV (As := [.int (u2_ 0)]) (rest := []) ⟨hx, hb, hml, hown, hG⟩ (sX9_inToken_0 l dC dI adK adV h0 h1 h2 k1 H.size v0 f1 (u2_ 0) hv0) (cwV 1 hG (zgV zv648 zv649 zv650 zv130 zv651) rfl rfl rfl (by decide +kernel) ⟨Nat.le_of_ble_eq_true rfl, Nat.le_of_ble_eq_true rfl⟩) ⟨zPc_blind, va_recv hKc hPc (ci := 9) (q0 := 0) rfl rfl, zPc_pre hPc hKc hDc hE hS hFc hZ⟩ rfl rfl hl.1 rfl (lv_room (Nat.le_of_ble_eq_true rfl)) dX9_tokenEnd_12 ⟨Nat.le_of_ble_eq_true rfl, Nat.le_of_ble_eq_true rfl⟩) hS (fun q _ h => hFc q h) hFc (fun r12_ u12_ t H1 locs ht hvm hw hB hz1 hk1 hS => ?_)
      replace hw : (0 ≤ r12_.toInt ∧ r12_.toInt ≤ 1) ∧ (r12_.toInt = 1 → (0 ≤ (u2_ 0).toInt ∧ (u2_ 0).toInt ≤ 599)) ∧ (r12_.toInt = 1 → (u2_ 0).toInt < (v0 2).toInt) ∧ (r12_.toInt = 1 → zIn f1 (v0 2).toInt (u2_ 0).toInt) ∧ (r12_.toInt = 0 → ¬ zIn f1 (v0 2).toInt (u2_ 0).toInt) := hw
      obtain ⟨b_, hX12_0, hX12_1, hX12_2, hX12_3⟩ := hw
      obtain ⟨w12_, a12_, b12_, hP1, hK1, hD1⟩ := hB
      rw [ht] at hP1
      obtain ⟨hP, hD⟩ := va_join (wr := []) (w1 := [(h0, .inr (9, mX9 h1 h2 v0)), (h1, zi k1 600 f1)]) hP hD [0, 1] [] rfl rfl (by decide) (by decide) hk1 hFc hP1 hD1
      have hP : va_P (dC, dI) vwCl [(h0, .inr (9, mX9 h1 h2 v0)), (h1, zi k1 600 f1)] H1 := hP.sub [0, 1] rfl
      have hD : va_D A [(h0, .inr (9, mX9 h1 h2 v0)), (h1, zi k1 600 f1)] := hD.sub [0, 1] (by decide) rfl
      generalize H1 = H at hP hS ⊢
      clear hz1
      refine lv_if_eq (tgt := 24) hx hb dX9_tokenEnd_15 (by decide) (fun c_ => ?_) (fun c_ => ?_)
      · skip
        have b_ := zT_eq rfl zk_0 c_
        refine lv_iload_n hx hb dX9_tokenEnd_24 rfl (lv_at hl 2 rfl) ?_
        refine W.widen (k := 0) (n := 0) (by decide) (by decide) ?_
        have hpost : (x1.toInt ≤ (u2_ 0).toInt) ∧ (x1.toInt ≤ 600 → (u2_ 0).toInt ≤ 600) ∧ (0 ≤ x1.toInt → zqRe f1 (v0 2).toInt x1.toInt (u2_ 0).toInt) := ⟨by omega, by omega, by first | exact fun q_ => ⟨by omega, hI2_3 q_, fun h_ => by omega, by omega⟩ | exact fun q_ => ⟨by omega, hI2_3 q_, fun h_ t_ => hX12_3 (by omega) ⟨by omega, h_, t_⟩, by omega⟩⟩
        have hP9 : va_P (dC, dI) vwCl [(h0, .inr (9, mX9 h1 h2 v0)), (h1, zi k1 600 f1)] H := hP
        have hD9 : va_D A [(h0, .inr (9, mX9 h1 h2 v0)), (h1, zi k1 600 f1)] := hD
        exact W.iret (v := (u2_ 0)) hx hb hr (fun t ht hW => ⟨⟨(u2_ 0), (fun _ => 0), rfl, hpost, (fun _ => 0), (fun _ => (fun _ => 0)), (fun _ => (fun _ => 0)), by rw [ht]; exact hP9, va_K.moved hW.alike hK, hD9⟩, hS.F ht⟩) hS.2.2 dX9_tokenEnd_25
      · skip
        have b_ := zF_eq rfl zk_0 c_
        obtain ⟨z18, e_z18⟩ : ∃ z : Int32, z = (u2_ 0) + Int32.ofInt 1 := ⟨_, rfl⟩
        have b_ := zadd (x := (u2_ 0)) (y := Int32.ofInt 1) rfl (show (Int32.ofInt 1).toInt = 1 from by decide) e_z18 (by omega) (by omega)
        refine lv_iinc (v := z18) (lv' := [(2, .int z18), (0, .ref h0), (1, .int x1)]) hx hb dX9_tokenEnd_18 hl (k := 2) rfl e_z18.symm (by decide) rfl (fun ls hl => ?_)
        refine lv_goto (tgt := 2) hx hb dX9_tokenEnd_21 (by decide) ?_
        have b_ : -2147483648 ≤ x1.toInt ∧ x1.toInt ≤ 2147483647 := ⟨zlo _, zhi _⟩
        have hc : va_P (dC, dI) vwCl [(h0, .inr (9, mX9 h1 h2 v0)), (h1, zi k1 600 f1)] H ∧ va_D A [(h0, .inr (9, mX9 h1 h2 v0)), (h1, zi k1 600 f1)] ∧ va_S A s.heap H locs ∧ lv_has ls 3 [(0, .ref h0), (1, .int x1), (2, .int z18)] ∧ (x1.toInt ≤ z18.toInt) ∧ (z18.toInt ≤ 600 ∨ z18.toInt = x1.toInt) ∧ (z18.toInt ≤ (v0 2).toInt ∨ z18.toInt = x1.toInt) ∧ (0 ≤ x1.toInt → zAt f1 x1.toInt z18.toInt) := ⟨hP, hD, hS, lv_sub hl [1, 2, 0] rfl, by omega, by omega, by omega, by first | exact fun _ => zAt_0 (by omega) | exact fun q_ => zAt_e (hI2_3 q_) (hX12_2 (by omega)) (by omega)⟩
        exact hJ2 H locs ls (fun i => ([z18] : List (Int32)).getD i 0) (fun _ => 0) (fun _ => (fun _ => 0)) (fun _ => (fun _ => 0)) hc (show (2147483647 - z18.toInt).toNat < (2147483647 - (u2_ 0).toInt).toNat from by omega)
  · skip
    have b_ : -2147483648 ≤ x1.toInt ∧ x1.toInt ≤ 2147483647 := ⟨zlo _, zhi _⟩
    have hc : va_P (dC, dI) vwCl [(h0, .inr (9, mX9 h1 h2 v0)), (h1, zi k1 600 f1)] s.heap ∧ va_D A [(h0, .inr (9, mX9 h1 h2 v0)), (h1, zi k1 600 f1)] ∧ va_S A s.heap s.heap [] ∧ lv_has ls 3 [(0, .ref h0), (1, .int x1), (2, .int x1)] ∧ (x1.toInt ≤ x1.toInt) ∧ (x1.toInt ≤ 600 ∨ x1.toInt = x1.toInt) ∧ (x1.toInt ≤ (v0 2).toInt ∨ x1.toInt = x1.toInt) ∧ (0 ≤ x1.toInt → zAt f1 x1.toInt x1.toInt) := ⟨hP, hD, hS, lv_sub hl [1, 2, 0] rfl, by omega, by omega, by omega, by first | exact fun _ => zAt_0 (by omega) | exact fun q_ => zAt_e (hI2_3 q_) (hX12_2 (by omega)) (by omega)⟩
    exact hJ2 s.heap [] ls (fun i => ([x1] : List (Int32)).getD i 0) (fun _ => 0) (fun _ => (fun _ => 0)) (fun _ => (fun _ => 0)) hc
set_option maxHeartbeats 8000000 in
set_option maxRecDepth 100000 in
theorem sJ0_coder_7d493_7 (l : Launch) (dC : Nat → ClassId) (dI : Nat → Nat → Nat) (adK adV : Nat → Nat) (sz : Nat) : Met l yJ0_coder_7d493 (zw yJ0_coder_7d493 cJ0_coder_7d493 1 (some .byte)) { frames := 0, cells := 0, slots := 0, locals := 0 } (zPc dC dI adK adV [.ref (adK 7)] sz [] []) (va_Qi (fun (r : Int32) (u : Nat → Int32) => (0 ≤ r.toInt ∧ r.toInt ≤ 0)) (fun (u : Nat → Int32) (t : State) => ∃ (ww : Nat → Int64) (aa : Nat → Nat → Int32) (bb : Nat → Nat → Int64), va_P (dC, dI) vwCl [] t.heap ∧ va_K (dC, dI) vwCl [] t ∧ va_D (va_A [] sz) []) (va_A [] sz)) 0 0 (va_A [] sz) := by
  refine Met.ofW (cc := cJ0_coder_7d493) (maxL := 1) (ret := (some .byte)) (by decide) rfl ?_
  intro p e s m args below meth c s₁ B hml hv
  obtain ⟨rfl, hsz, hP, hK, hD0, hE, hZ⟩ := hv
  have hx := B.exec
  have hb := B.bytes
  have hr := B.returns
  have hG : ∀ w ∈ zG, w.before _ s = true := fun w h => atoms_spec (ws := (zw yJ0_coder_7d493 cJ0_coder_7d493 1 (some .byte))) B.pre w (List.mem_cons_of_mem _ h)
  have hown : s.vm.findClass RJ0 = some m.cls := findClass_of_methodNamed B.named
  have hlocks := B.notSynchronized

  subst hsz
  have hD := hD0.self (sz := s.heap.size)
  generalize hAe : va_A [] s.heap.size = A at hD hZ ⊢
  have hA : ∀ q : Nat, s.heap.size ≤ q → A q := fun q h => by rw [← hAe]; exact Or.inr h
  have hS : va_S A s.heap s.heap [] := va_S.rf
  have hl := lv_entry ([.ref (adK 7)]) (n := 1) (Nat.le_of_ble_eq_true rfl)
  rw [lg_entry_eq]
  generalize (lg_sl ([.ref (adK 7)]) ++ List.replicate (1 - (lg_sl ([.ref (adK 7)])).length) Slot.unset).toArray = ls at hl ⊢
  have hl : lv_has ls 1 [(0, .ref (adK 7))] := hl
  have b_ := zk_0
  refine va_gets hx hb hZ.2.2.1 hS hown (hG _ zv685) (fun _ h => h) dJ0_coder_7d493_0 ?_
  refine lv_if_eq (tgt := 13) hx hb dJ0_coder_7d493_3 (by decide) (fun c_ => absurd c_ (by decide)) (fun c_ => ?_)
  refine lv_aload_n hx hb dJ0_coder_7d493_6 rfl (lv_at hl 0 rfl) ?_
  refine vk_getf hx hb (hZ.2.2.2.1.1 7 (by decide)).2.1 hS hown (hG _ zv2258) (fun _ h => h) dJ0_coder_7d493_7 ?_
  refine lv_goto (tgt := 14) hx hb dJ0_coder_7d493_10 (by decide) ?_
  refine W.widen (k := 0) (n := 0) (by decide) (by decide) ?_
  have hpost : (0 ≤ (0 : Int32).toInt ∧ (0 : Int32).toInt ≤ 0) := (by first | with_reducible assumption | exact ⟨by omega, by omega⟩)
  have hP9 : va_P (dC, dI) vwCl [] s.heap := hP
  have hD9 : va_D A [] := hD
  exact W.zret (v := 0) hx hb hr rfl (fun t ht hW => ⟨⟨0, (fun _ => 0), rfl, hpost, (fun _ => 0), (fun _ => (fun _ => 0)), (fun _ => (fun _ => 0)), by rw [ht]; exact hP9, va_K.moved hW.alike hK, hD9⟩, hS.F ht⟩) hS.2.2 dJ0_coder_7d493_14
set_option maxHeartbeats 8000000 in
set_option maxRecDepth 100000 in
theorem sJ0_length_8abf5_7 (l : Launch) (dC : Nat → ClassId) (dI : Nat → Nat → Nat) (adK adV : Nat → Nat) (sz : Nat) : Met l yJ0_length_8abf5 (zw yJ0_length_8abf5 cJ0_length_8abf5 1 (some .int)) { frames := 1, cells := 0, slots := 0, locals := 20 } (zPc dC dI adK adV [.ref (adK 7)] sz [] []) (va_Qi (fun (r : Int32) (u : Nat → Int32) => (2 ≤ r.toInt ∧ r.toInt ≤ 2)) (fun (u : Nat → Int32) (t : State) => ∃ (ww : Nat → Int64) (aa : Nat → Nat → Int32) (bb : Nat → Nat → Int64), va_P (dC, dI) vwCl [] t.heap ∧ va_K (dC, dI) vwCl [] t ∧ va_D (va_A [] sz) []) (va_A [] sz)) 0 0 (va_A [] sz) := by
  refine Met.ofW (cc := cJ0_length_8abf5) (maxL := 1) (ret := (some .int)) (by decide) rfl ?_
  intro p e s m args below meth c s₁ B hml hv
  obtain ⟨rfl, hsz, hP, hK, hD0, hE, hZ⟩ := hv
  have hx := B.exec
  have hb := B.bytes
  have hr := B.returns
  have hG : ∀ w ∈ zG, w.before _ s = true := fun w h => atoms_spec (ws := (zw yJ0_length_8abf5 cJ0_length_8abf5 1 (some .int))) B.pre w (List.mem_cons_of_mem _ h)
  have hown : s.vm.findClass RJ0 = some m.cls := findClass_of_methodNamed B.named
  have hlocks := B.notSynchronized

  subst hsz
  have hD := hD0.self (sz := s.heap.size)
  generalize hAe : va_A [] s.heap.size = A at hD hZ ⊢
  have hA : ∀ q : Nat, s.heap.size ≤ q → A q := fun q h => by rw [← hAe]; exact Or.inr h
  have hS : va_S A s.heap s.heap [] := va_S.rf
  have hl := lv_entry ([.ref (adK 7)]) (n := 1) (Nat.le_of_ble_eq_true rfl)
  rw [lg_entry_eq]
  generalize (lg_sl ([.ref (adK 7)]) ++ List.replicate (1 - (lg_sl ([.ref (adK 7)])).length) Slot.unset).toArray = ls at hl ⊢
  have hl : lv_has ls 1 [(0, .ref (adK 7))] := hl
  have b_ := zk_2
  refine lv_aload_n hx hb dJ0_length_8abf5_0 rfl (lv_at hl 0 rfl) ?_
  refine vk_getf hx hb (hZ.2.2.2.1.1 7 (by decide)).2.2.1 hS hown (hG _ zv2257) (fun _ h => h) dJ0_length_8abf5_1 ?_
  refine va_tlen (v := 2) hx hb (hZ.2.2.2.1.1 7 (by decide)).2.2.2 hS (by decide) dJ0_length_8abf5_4 ?_
  refine lv_aload_n hx hb dJ0_length_8abf5_5 rfl (lv_at hl 0 rfl) ?_
  have hPc := hP.sub (ws' := []) [] rfl
  have hDc := hD.sub (ws' := []) [] (by decide) rfl
  have hKc := hK.sub (tys' := []) [] rfl
  have hFc := va_free (wc := []) hD hS hA [] rfl
  refine va_calli (va_runV (As := []) (rest := [.int 2]) ⟨hx, hb, hml, hown, hG⟩ (sJ0_coder_7d493_7 l dC dI adK adV s.heap.size) (cwV 0 hG (zgV zv681 zv682 zv683 zv146 zv684) rfl rfl rfl (by decide +kernel) ⟨Nat.le_of_ble_eq_true rfl, Nat.le_of_ble_eq_true rfl⟩) ⟨zPc_blind, vk_recv hZ.2.2.2.1 (i := 7) (by decide) hS, zPc_pre hPc hKc hDc hE hS hFc hZ⟩ rfl rfl hl.1 rfl (lv_room (Nat.le_of_ble_eq_true rfl)) dJ0_length_8abf5_6 ⟨Nat.le_of_ble_eq_true rfl, Nat.le_of_ble_eq_true rfl⟩) hS (fun q _ h => hFc q h) hFc (fun r6_ u6_ t H1 locs ht hvm hw hB hz1 hk1 hS => ?_)
  replace hw : (0 ≤ r6_.toInt ∧ r6_.toInt ≤ 0) := hw
  have b_ := hw
  obtain rfl : r6_ = (0 : Int32) := zeqi.mpr ((show r6_.toInt = 0 from by omega).trans zk_0.symm)
  obtain ⟨w6_, a6_, b6_, hP1, hK1, hD1⟩ := hB
  rw [ht] at hP1
  obtain ⟨hP, hD⟩ := va_join (wr := []) (w1 := []) hP hD [] [] rfl rfl (by decide) (by decide) hk1 hFc hP1 hD1
  have hP : va_P (dC, dI) vwCl [] H1 := hP.sub [] rfl
  have hD : va_D A [] := hD.sub [] (by decide) rfl
  generalize H1 = H at hP hS ⊢
  clear hz1
  refine lv_ishr hx hb dJ0_length_8abf5_9 ?_
  refine lv_topi (fun z9 e_z9 => ?_)
  obtain rfl : z9 = (2 : Int32) := e_z9.trans (by decide)
  refine W.widen (k := 0) (n := 0) (by decide) (by decide) ?_
  have hpost : (2 ≤ (2 : Int32).toInt ∧ (2 : Int32).toInt ≤ 2) := (by first | with_reducible assumption | exact ⟨by omega, by omega⟩)
  have hP9 : va_P (dC, dI) vwCl [] H := hP
  have hD9 : va_D A [] := hD
  exact W.iret (v := 2) hx hb hr (fun t ht hW => ⟨⟨2, (fun _ => 0), rfl, hpost, (fun _ => 0), (fun _ => (fun _ => 0)), (fun _ => (fun _ => 0)), by rw [ht]; exact hP9, va_K.moved hW.alike hK, hD9⟩, hS.F ht⟩) hS.2.2 dJ0_length_8abf5_10
set_option maxHeartbeats 8000000 in
set_option maxRecDepth 100000 in
theorem sJ0_isLatin1_aae02_7 (l : Launch) (dC : Nat → ClassId) (dI : Nat → Nat → Nat) (adK adV : Nat → Nat) (sz : Nat) : Met l yJ0_isLatin1_aae02 (zw yJ0_isLatin1_aae02 cJ0_isLatin1_aae02 1 (some .boolean)) { frames := 0, cells := 0, slots := 0, locals := 0 } (zPc dC dI adK adV [.ref (adK 7)] sz [] []) (va_Qi (fun (r : Int32) (u : Nat → Int32) => (1 ≤ r.toInt ∧ r.toInt ≤ 1)) (fun (u : Nat → Int32) (t : State) => ∃ (ww : Nat → Int64) (aa : Nat → Nat → Int32) (bb : Nat → Nat → Int64), va_P (dC, dI) vwCl [] t.heap ∧ va_K (dC, dI) vwCl [] t ∧ va_D (va_A [] sz) []) (va_A [] sz)) 0 0 (va_A [] sz) := by
  refine Met.ofW (cc := cJ0_isLatin1_aae02) (maxL := 1) (ret := (some .boolean)) (by decide) rfl ?_
  intro p e s m args below meth c s₁ B hml hv
  obtain ⟨rfl, hsz, hP, hK, hD0, hE, hZ⟩ := hv
  have hx := B.exec
  have hb := B.bytes
  have hr := B.returns
  have hG : ∀ w ∈ zG, w.before _ s = true := fun w h => atoms_spec (ws := (zw yJ0_isLatin1_aae02 cJ0_isLatin1_aae02 1 (some .boolean))) B.pre w (List.mem_cons_of_mem _ h)
  have hown : s.vm.findClass RJ0 = some m.cls := findClass_of_methodNamed B.named
  have hlocks := B.notSynchronized

  subst hsz
  have hD := hD0.self (sz := s.heap.size)
  generalize hAe : va_A [] s.heap.size = A at hD hZ ⊢
  have hA : ∀ q : Nat, s.heap.size ≤ q → A q := fun q h => by rw [← hAe]; exact Or.inr h
  have hS : va_S A s.heap s.heap [] := va_S.rf
  have hl := lv_entry ([.ref (adK 7)]) (n := 1) (Nat.le_of_ble_eq_true rfl)
  rw [lg_entry_eq]
  generalize (lg_sl ([.ref (adK 7)]) ++ List.replicate (1 - (lg_sl ([.ref (adK 7)])).length) Slot.unset).toArray = ls at hl ⊢
  have hl : lv_has ls 1 [(0, .ref (adK 7))] := hl
  have b_ := zk_1
  refine va_gets hx hb hZ.2.2.1 hS hown (hG _ zv685) (fun _ h => h) dJ0_isLatin1_aae02_0 ?_
  refine lv_if_eq (tgt := 17) hx hb dJ0_isLatin1_aae02_3 (by decide) (fun c_ => absurd c_ (by decide)) (fun c_ => ?_)
  refine lv_aload_n hx hb dJ0_isLatin1_aae02_6 rfl (lv_at hl 0 rfl) ?_
  refine vk_getf hx hb (hZ.2.2.2.1.1 7 (by decide)).2.1 hS hown (hG _ zv2258) (fun _ h => h) dJ0_isLatin1_aae02_7 ?_
  refine lv_if_ne (tgt := 17) hx hb dJ0_isLatin1_aae02_10 (by decide) (fun c_ => absurd c_ (by decide)) (fun c_ => ?_)
  refine lv_iconst (v := 1) hx hb dJ0_isLatin1_aae02_13 (by decide) ?_
  refine lv_goto (tgt := 18) hx hb dJ0_isLatin1_aae02_14 (by decide) ?_
  refine W.widen (k := 0) (n := 0) (by decide) (by decide) ?_
  have hpost : (1 ≤ (1 : Int32).toInt ∧ (1 : Int32).toInt ≤ 1) := (by first | with_reducible assumption | exact ⟨by omega, by omega⟩)
  have hP9 : va_P (dC, dI) vwCl [] s.heap := hP
  have hD9 : va_D A [] := hD
  exact W.zret (v := 1) hx hb hr rfl (fun t ht hW => ⟨⟨1, (fun _ => 0), rfl, hpost, (fun _ => 0), (fun _ => (fun _ => 0)), (fun _ => (fun _ => 0)), by rw [ht]; exact hP9, va_K.moved hW.alike hK, hD9⟩, hS.F ht⟩) hS.2.2 dJ0_isLatin1_aae02_18
set_option maxHeartbeats 8000000 in
set_option maxRecDepth 100000 in
theorem sJ1_charAt_3b067_7 (l : Launch) (dC : Nat → ClassId) (dI : Nat → Nat → Nat) (adK adV : Nat → Nat) (sz : Nat) (x1 : Int32) (hx1 : 0 ≤ x1.toInt ∧ x1.toInt ≤ 1) : Met l yJ1_charAt_3b067 (zw yJ1_charAt_3b067 cJ1_charAt_3b067 2 (some .char)) { frames := 2, cells := 0, slots := 0, locals := 43 } (zPc dC dI adK adV [.ref (adV 7), .int x1] sz [] []) (va_Qi (fun (r : Int32) (u : Nat → Int32) => (0 ≤ r.toInt ∧ r.toInt ≤ 255) ∧ (r.toInt = zqCs 7 x1.toInt)) (fun (u : Nat → Int32) (t : State) => ∃ (ww : Nat → Int64) (aa : Nat → Nat → Int32) (bb : Nat → Nat → Int64), va_P (dC, dI) vwCl [] t.heap ∧ va_K (dC, dI) vwCl [] t ∧ va_D (va_A [] sz) []) (va_A [] sz)) 0 0 (va_A [] sz) := by
  refine Met.ofW (cc := cJ1_charAt_3b067) (maxL := 2) (ret := (some .char)) (by decide) rfl ?_
  intro p e s m args below meth c s₁ B hml hv
  obtain ⟨rfl, hsz, hP, hK, hD0, hE, hZ⟩ := hv
  have hx := B.exec
  have hb := B.bytes
  have hr := B.returns
  have hG : ∀ w ∈ zG, w.before _ s = true := fun w h => atoms_spec (ws := (zw yJ1_charAt_3b067 cJ1_charAt_3b067 2 (some .char))) B.pre w (List.mem_cons_of_mem _ h)
  have hown : s.vm.findClass RJ1 = some m.cls := findClass_of_methodNamed B.named
  have hlocks := B.notSynchronized

  subst hsz
  have hD := hD0.self (sz := s.heap.size)
  generalize hAe : va_A [] s.heap.size = A at hD hZ ⊢
  have hA : ∀ q : Nat, s.heap.size ≤ q → A q := fun q h => by rw [← hAe]; exact Or.inr h
  have hS : va_S A s.heap s.heap [] := va_S.rf
  have hl := lv_entry ([.ref (adV 7), .int x1]) (n := 2) (Nat.le_of_ble_eq_true rfl)
  rw [lg_entry_eq]
  generalize (lg_sl ([.ref (adV 7), .int x1]) ++ List.replicate (2 - (lg_sl ([.ref (adV 7), .int x1])).length) Slot.unset).toArray = ls at hl ⊢
  have hl : lv_has ls 2 [(0, .ref (adV 7)), (1, .int x1)] := hl
  have b_ := zk_2
  refine lv_iload_n hx hb dJ1_charAt_3b067_0 rfl (lv_at hl 1 rfl) ?_
  refine lv_aload_n hx hb dJ1_charAt_3b067_1 rfl (lv_at hl 0 rfl) ?_
  refine va_tlen (v := 2) hx hb (hZ.2.2.2.1.1 7 (by decide)).2.2.2 hS (by decide) dJ1_charAt_3b067_2 ?_
  have hPc := hP.sub (ws' := []) [] rfl
  have hDc := hD.sub (ws' := []) [] (by decide) rfl
  have hKc := hK.sub (tys' := []) [] rfl
  have hFc := va_free (wc := []) hD hS hA [] rfl
  refine va_callv (va_runS (As := [.int x1, .int 2]) (rest := []) ⟨hx, hb, hml, hown, hG⟩ (sJ0_checkIndex_df160_0 l dC dI adK adV s.heap.size x1 2 (show (0 : Int) ≤ (x1 : Int32).toInt ∧ (x1 : Int32).toInt ≤ (4 : Int) from (by first | with_reducible assumption | exact ⟨by omega, by omega⟩)) ⟨show (1 : Int) ≤ (2 : Int32).toInt from by decide, show (2 : Int32).toInt ≤ (5 : Int) from by decide⟩ (show x1.toInt < (2 : Int32).toInt from by omega)) (va_cwS 2 hG (zgS zv698 zv699 zv146 zv700) rfl rfl rfl (by decide +kernel) ⟨Nat.le_of_ble_eq_true rfl, Nat.le_of_ble_eq_true rfl⟩) ⟨zPc_blind, zPc_pre hPc hKc hDc hE hS hFc hZ⟩ rfl rfl hl.1 rfl (lv_room (Nat.le_of_ble_eq_true rfl)) dJ1_charAt_3b067_3 ⟨Nat.le_of_ble_eq_true rfl, Nat.le_of_ble_eq_true rfl⟩) hS (fun q _ h => hFc q h) hFc (fun u3_ t H1 locs ht hvm hw hB hz1 hk1 hS => ?_)
  obtain ⟨w3_, a3_, b3_, hP1, hK1, hD1⟩ := hB
  rw [ht] at hP1
  obtain ⟨hP, hD⟩ := va_join (wr := []) (w1 := []) hP hD [] [] rfl rfl (by decide) (by decide) hk1 hFc hP1 hD1
  have hP : va_P (dC, dI) vwCl [] H1 := hP.sub [] rfl
  have hD : va_D A [] := hD.sub [] (by decide) rfl
  generalize H1 = H at hP hS ⊢
  clear hz1
  refine lv_aload_n hx hb dJ1_charAt_3b067_6 rfl (lv_at hl 0 rfl) ?_
  refine lv_iload_n hx hb dJ1_charAt_3b067_7 rfl (lv_at hl 1 rfl) ?_
  refine va_tb (N := 2) hx hb (hZ.2.2.2.1.1 7 (by decide)).2.2.2 hS (zin_lit (n := 2) ⟨by omega, by omega⟩) rfl dJ1_charAt_3b067_8 ?_
  refine lv_topi (fun z8 e_z8 => ?_)
  refine lv_sipush (v := 255) hx hb dJ1_charAt_3b067_9 (by decide) ?_
  have b_ : -2147483648 ≤ z8.toInt ∧ z8.toInt ≤ 2147483647 := ⟨zlo _, zhi _⟩
  refine lv_iand hx hb dJ1_charAt_3b067_12 ?_
  refine lv_topi (fun z12 e_z12 => ?_)
  have b_ := zand (x := z8) zk_255 e_z12 (by decide)
  refine lv_i2c hx hb dJ1_charAt_3b067_13 rfl ?_
  refine lv_topi (fun z13 e_z13 => ?_)
  have b_ := zi2c rfl e_z13 (by omega) (by omega)
  refine W.widen (k := 0) (n := 0) (by decide) (by decide) ?_
  have hpost : (0 ≤ z13.toInt ∧ z13.toInt ≤ 255) ∧ (z13.toInt = zqCs 7 x1.toInt) := ⟨(by first | with_reducible assumption | exact ⟨by omega, by omega⟩), by exact zcs9 (by decide) e_z8 e_z12 e_z13 (by have q : x1.toNatClampNeg = x1.toInt.toNat := rfl; omega)⟩
  have hP9 : va_P (dC, dI) vwCl [] H := hP
  have hD9 : va_D A [] := hD
  exact W.zret (v := z13) hx hb hr (zn_char ⟨by omega, by omega⟩) (fun t ht hW => ⟨⟨z13, (fun _ => 0), rfl, hpost, (fun _ => 0), (fun _ => (fun _ => 0)), (fun _ => (fun _ => 0)), by rw [ht]; exact hP9, va_K.moved hW.alike hK, hD9⟩, hS.F ht⟩) hS.2.2 dJ1_charAt_3b067_14
set_option maxHeartbeats 8000000 in
set_option maxRecDepth 100000 in
theorem sJ0_charAt_5068e_7 (l : Launch) (dC : Nat → ClassId) (dI : Nat → Nat → Nat) (adK adV : Nat → Nat) (sz : Nat) (x1 : Int32) (hx1 : 0 ≤ x1.toInt ∧ x1.toInt ≤ 1) : Met l yJ0_charAt_5068e (zw yJ0_charAt_5068e cJ0_charAt_5068e 2 (some .char)) { frames := 3, cells := 0, slots := 0, locals := 64 } (zPc dC dI adK adV [.ref (adK 7), .int x1] sz [] []) (va_Qi (fun (r : Int32) (u : Nat → Int32) => (0 ≤ r.toInt ∧ r.toInt ≤ 255) ∧ (r.toInt = zqCs 7 x1.toInt)) (fun (u : Nat → Int32) (t : State) => ∃ (ww : Nat → Int64) (aa : Nat → Nat → Int32) (bb : Nat → Nat → Int64), va_P (dC, dI) vwCl [] t.heap ∧ va_K (dC, dI) vwCl [] t ∧ va_D (va_A [] sz) []) (va_A [] sz)) 0 0 (va_A [] sz) := by
  refine Met.ofW (cc := cJ0_charAt_5068e) (maxL := 2) (ret := (some .char)) (by decide) rfl ?_
  intro p e s m args below meth c s₁ B hml hv
  obtain ⟨rfl, hsz, hP, hK, hD0, hE, hZ⟩ := hv
  have hx := B.exec
  have hb := B.bytes
  have hr := B.returns
  have hG : ∀ w ∈ zG, w.before _ s = true := fun w h => atoms_spec (ws := (zw yJ0_charAt_5068e cJ0_charAt_5068e 2 (some .char))) B.pre w (List.mem_cons_of_mem _ h)
  have hown : s.vm.findClass RJ0 = some m.cls := findClass_of_methodNamed B.named
  have hlocks := B.notSynchronized

  subst hsz
  have hD := hD0.self (sz := s.heap.size)
  generalize hAe : va_A [] s.heap.size = A at hD hZ ⊢
  have hA : ∀ q : Nat, s.heap.size ≤ q → A q := fun q h => by rw [← hAe]; exact Or.inr h
  have hS : va_S A s.heap s.heap [] := va_S.rf
  have hl := lv_entry ([.ref (adK 7), .int x1]) (n := 2) (Nat.le_of_ble_eq_true rfl)
  rw [lg_entry_eq]
  generalize (lg_sl ([.ref (adK 7), .int x1]) ++ List.replicate (2 - (lg_sl ([.ref (adK 7), .int x1])).length) Slot.unset).toArray = ls at hl ⊢
  have hl : lv_has ls 2 [(0, .ref (adK 7)), (1, .int x1)] := hl
  refine lv_aload_n hx hb dJ0_charAt_5068e_0 rfl (lv_at hl 0 rfl) ?_
  have hPc := hP.sub (ws' := []) [] rfl
  have hDc := hD.sub (ws' := []) [] (by decide) rfl
  have hKc := hK.sub (tys' := []) [] rfl
  have hFc := va_free (wc := []) hD hS hA [] rfl
  refine va_calli (va_runV (As := []) (rest := []) ⟨hx, hb, hml, hown, hG⟩ (sJ0_isLatin1_aae02_7 l dC dI adK adV s.heap.size) (cwV 0 hG (zgV zv691 zv692 zv693 zv146 zv694) rfl rfl rfl (by decide +kernel) ⟨Nat.le_of_ble_eq_true rfl, Nat.le_of_ble_eq_true rfl⟩) ⟨zPc_blind, vk_recv hZ.2.2.2.1 (i := 7) (by decide) hS, zPc_pre hPc hKc hDc hE hS hFc hZ⟩ rfl rfl hl.1 rfl (lv_room (Nat.le_of_ble_eq_true rfl)) dJ0_charAt_5068e_1 ⟨Nat.le_of_ble_eq_true rfl, Nat.le_of_ble_eq_true rfl⟩) hS (fun q _ h => hFc q h) hFc (fun r1_ u1_ t H1 locs ht hvm hw hB hz1 hk1 hS => ?_)
  replace hw : (1 ≤ r1_.toInt ∧ r1_.toInt ≤ 1) := hw
  have b_ := hw
  obtain rfl : r1_ = (1 : Int32) := zeqi.mpr ((show r1_.toInt = 1 from by omega).trans zk_1.symm)
  obtain ⟨w1_, a1_, b1_, hP1, hK1, hD1⟩ := hB
  rw [ht] at hP1
  obtain ⟨hP, hD⟩ := va_join (wr := []) (w1 := []) hP hD [] [] rfl rfl (by decide) (by decide) hk1 hFc hP1 hD1
  have hP : va_P (dC, dI) vwCl [] H1 := hP.sub [] rfl
  have hD : va_D A [] := hD.sub [] (by decide) rfl
  generalize H1 = H at hP hS ⊢
  clear hz1
  refine lv_if_eq (tgt := 16) hx hb dJ0_charAt_5068e_4 (by decide) (fun c_ => absurd c_ (by decide)) (fun c_ => ?_)
  refine lv_aload_n hx hb dJ0_charAt_5068e_7 rfl (lv_at hl 0 rfl) ?_
  refine vk_getf hx hb (hZ.2.2.2.1.1 7 (by decide)).2.2.1 hS hown (hG _ zv2257) (fun _ h => h) dJ0_charAt_5068e_8 ?_
  refine lv_iload_n hx hb dJ0_charAt_5068e_11 rfl (lv_at hl 1 rfl) ?_
  have hPc := hP.sub (ws' := []) [] rfl
  have hDc := hD.sub (ws' := []) [] (by decide) rfl
  have hKc := hK.sub (tys' := []) [] rfl
  have hFc := va_free (wc := []) hD hS hA [] rfl
  refine va_calli (va_runS (As := [.ref (adV 7), .int x1]) (rest := []) ⟨hx, hb, hml, hown, hG⟩ (sJ1_charAt_3b067_7 l dC dI adK adV H.size x1 (show (0 : Int) ≤ (x1 : Int32).toInt ∧ (x1 : Int32).toInt ≤ (1 : Int) from (by first | with_reducible assumption | exact ⟨by omega, by omega⟩))) (va_cwS 2 hG (zgS zv695 zv696 zv147 zv697) rfl rfl rfl (by decide +kernel) ⟨Nat.le_of_ble_eq_true rfl, Nat.le_of_ble_eq_true rfl⟩) ⟨zPc_blind, zPc_pre hPc hKc hDc hE hS hFc hZ⟩ rfl rfl hl.1 rfl (lv_room (Nat.le_of_ble_eq_true rfl)) dJ0_charAt_5068e_12 ⟨Nat.le_of_ble_eq_true rfl, Nat.le_of_ble_eq_true rfl⟩) hS (fun q _ h => hFc q h) hFc (fun r12_ u12_ t H1 locs ht hvm hw hB hz1 hk1 hS => ?_)
  replace hw : (0 ≤ r12_.toInt ∧ r12_.toInt ≤ 255) ∧ (r12_.toInt = zqCs 7 x1.toInt) := hw
  obtain ⟨b_, hX12_0⟩ := hw
  obtain ⟨w12_, a12_, b12_, hP1, hK1, hD1⟩ := hB
  rw [ht] at hP1
  obtain ⟨hP, hD⟩ := va_join (wr := []) (w1 := []) hP hD [] [] rfl rfl (by decide) (by decide) hk1 hFc hP1 hD1
  have hP : va_P (dC, dI) vwCl [] H1 := hP.sub [] rfl
  have hD : va_D A [] := hD.sub [] (by decide) rfl
  generalize H1 = H at hP hS ⊢
  clear hz1
  refine W.widen (k := 0) (n := 0) (by decide) (by decide) ?_
  have hpost : (0 ≤ r12_.toInt ∧ r12_.toInt ≤ 255) ∧ (r12_.toInt = zqCs 7 x1.toInt) := ⟨(by first | with_reducible assumption | exact ⟨by omega, by omega⟩), by assumption⟩
  have hP9 : va_P (dC, dI) vwCl [] H := hP
  have hD9 : va_D A [] := hD
  exact W.zret (v := r12_) hx hb hr (zn_char ⟨by omega, by omega⟩) (fun t ht hW => ⟨⟨r12_, (fun _ => 0), rfl, hpost, (fun _ => 0), (fun _ => (fun _ => 0)), (fun _ => (fun _ => 0)), by rw [ht]; exact hP9, va_K.moved hW.alike hK, hD9⟩, hS.F ht⟩) hS.2.2 dJ0_charAt_5068e_15
set_option maxHeartbeats 8000000 in
set_option maxRecDepth 100000 in
theorem sX9_spells_0 (l : Launch) (dC : Nat → ClassId) (dI : Nat → Nat → Nat) (adK adV : Nat → Nat) (h0 : Nat) (h1 : Nat) (h2 : Nat) (k1 : ClassId) (sz : Nat) (v0 : Nat → Int32) (f1 : Nat → Int32) (x1 : Int32) (x2 : Int32) (hv0 : zR rg_Tape v0) (hx1 : 0 ≤ x1.toInt ∧ x1.toInt ≤ 600) (hx2 : 0 ≤ x2.toInt ∧ x2.toInt ≤ 601) : Met l yX9_spells (zw yX9_spells cX9_spells 5 (some .boolean)) { frames := 4, cells := 0, slots := 0, locals := 85 } (zPc dC dI adK adV [.ref h0, .int x1, .int x2, .ref (adK 7)] sz [(h0, .inr (9, mX9 h1 h2 v0)), (h1, zi k1 600 f1)] [(k1, .byte)]) (va_Qi (fun (r : Int32) (u : Nat → Int32) => (0 ≤ r.toInt ∧ r.toInt ≤ 1) ∧ (0 ≤ x1.toInt → x1.toInt ≤ 600 → 0 ≤ x2.toInt → x2.toInt ≤ (v0 2).toInt → r.toInt = 1 → zSpl f1 x1.toInt x2.toInt 7 2) ∧ (0 ≤ x1.toInt → x1.toInt ≤ 600 → 0 ≤ x2.toInt → x2.toInt ≤ (v0 2).toInt → r.toInt = 0 → ¬ zSpl f1 x1.toInt x2.toInt 7 2)) (fun (u : Nat → Int32) (t : State) => ∃ (ww : Nat → Int64) (aa : Nat → Nat → Int32) (bb : Nat → Nat → Int64), va_P (dC, dI) vwCl [(h0, .inr (9, mX9 h1 h2 v0)), (h1, zi k1 600 f1)] t.heap ∧ va_K (dC, dI) vwCl [(k1, .byte)] t ∧ va_D (va_A [(h0, .inr (9, mX9 h1 h2 v0)), (h1, zi k1 600 f1)] sz) [(h0, .inr (9, mX9 h1 h2 v0)), (h1, zi k1 600 f1)]) (va_A [(h0, .inr (9, mX9 h1 h2 v0)), (h1, zi k1 600 f1)] sz)) 0 0 (va_A [(h0, .inr (9, mX9 h1 h2 v0)), (h1, zi k1 600 f1)] sz) := by
  refine Met.ofW (cc := cX9_spells) (maxL := 5) (ret := (some .boolean)) (by decide) rfl ?_
  intro p e s m args below meth c s₁ B hml hv
  obtain ⟨rfl, hsz, hP, hK, hD0, hE, hZ⟩ := hv
  have hx := B.exec
  have hb := B.bytes
  have hr := B.returns
  have hG : ∀ w ∈ zG, w.before _ s = true := fun w h => atoms_spec (ws := (zw yX9_spells cX9_spells 5 (some .boolean))) B.pre w (List.mem_cons_of_mem _ h)
  have hown : s.vm.findClass RX9 = some m.cls := findClass_of_methodNamed B.named
  have hlocks := B.notSynchronized

  subst hsz
  have hD := hD0.self (sz := s.heap.size)
  generalize hAe : va_A [(h0, .inr (9, mX9 h1 h2 v0)), (h1, zi k1 600 f1)] s.heap.size = A at hD hZ ⊢
  have hA : ∀ q : Nat, s.heap.size ≤ q → A q := fun q h => by rw [← hAe]; exact Or.inr h
  have hS : va_S A s.heap s.heap [] := va_S.rf
  have hl := lv_entry ([.ref h0, .int x1, .int x2, .ref (adK 7)]) (n := 5) (Nat.le_of_ble_eq_true rfl)
  rw [lg_entry_eq]
  generalize (lg_sl ([.ref h0, .int x1, .int x2, .ref (adK 7)]) ++ List.replicate (5 - (lg_sl ([.ref h0, .int x1, .int x2, .ref (adK 7)])).length) Slot.unset).toArray = ls at hl ⊢
  have hl : lv_has ls 5 [(0, .ref h0), (1, .int x1), (2, .int x2), (3, .ref (adK 7))] := hl
  have b_ := zk_0
  have b_ := zk_1
  have b_ : 0 ≤ (v0 2).toInt ∧ (v0 2).toInt ≤ 600 := hv0 2
  refine lv_iload_n hx hb dX9_spells_0 rfl (lv_at hl 2 rfl) ?_
  refine lv_iload_n hx hb dX9_spells_1 rfl (lv_at hl 1 rfl) ?_
  refine lv_isub hx hb dX9_spells_2 ?_
  refine lv_topi (fun z2 e_z2 => ?_)
  have b_ := zsub rfl rfl e_z2 (by omega) (by omega)
  have b_ : 0 ≤ x1.toInt → x1.toInt ≤ 600 → 0 ≤ x2.toInt → x2.toInt ≤ 600 → z2.toInt = x2.toInt - x1.toInt := fun h1 h2 h3 h4 => zsub rfl rfl e_z2 (by omega) (by omega)
  refine lv_aload_n hx hb dX9_spells_3 rfl (lv_at hl 3 rfl) ?_
  have hPc := hP.sub (ws' := []) [] rfl
  have hDc := hD.sub (ws' := []) [] (by decide) rfl
  have hKc := hK.sub (tys' := []) [] rfl
  have hFc := va_free (wc := []) hD hS hA [] rfl
  refine va_calli (va_runV (As := []) (rest := [.int z2]) ⟨hx, hb, hml, hown, hG⟩ (sJ0_length_8abf5_7 l dC dI adK adV s.heap.size) (cwV 0 hG (zgV zv677 zv678 zv679 zv146 zv680) rfl rfl rfl (by decide +kernel) ⟨Nat.le_of_ble_eq_true rfl, Nat.le_of_ble_eq_true rfl⟩) ⟨zPc_blind, vk_recv hZ.2.2.2.1 (i := 7) (by decide) hS, zPc_pre hPc hKc hDc hE hS hFc hZ⟩ rfl rfl hl.1 rfl (lv_room (Nat.le_of_ble_eq_true rfl)) dX9_spells_4 ⟨Nat.le_of_ble_eq_true rfl, Nat.le_of_ble_eq_true rfl⟩) hS (fun q _ h => hFc q h) hFc (fun r4_ u4_ t H1 locs ht hvm hw hB hz1 hk1 hS => ?_)
  replace hw : (2 ≤ r4_.toInt ∧ r4_.toInt ≤ 2) := hw
  have b_ := hw
  obtain rfl : r4_ = (2 : Int32) := zeqi.mpr ((show r4_.toInt = 2 from by omega).trans zk_2.symm)
  obtain ⟨w4_, a4_, b4_, hP1, hK1, hD1⟩ := hB
  rw [ht] at hP1
  obtain ⟨hP, hD⟩ := va_join (wr := [(h0, .inr (9, mX9 h1 h2 v0)), (h1, zi k1 600 f1)]) (w1 := []) hP hD [] [0, 1] rfl rfl (by decide) (by decide) hk1 hFc hP1 hD1
  have hP : va_P (dC, dI) vwCl [(h0, .inr (9, mX9 h1 h2 v0)), (h1, zi k1 600 f1)] H1 := hP.sub [0, 1] rfl
  have hD : va_D A [(h0, .inr (9, mX9 h1 h2 v0)), (h1, zi k1 600 f1)] := hD.sub [0, 1] (by decide) rfl
  generalize H1 = H at hP hS ⊢
  clear hz1
  refine lv_icmp_ne (tgt := 22) hx hb dX9_spells_7 (by decide) (fun c_ => ?_) (fun c_ => ?_)
  · skip
    have b_ := zT_ne rfl zk_2 c_
    refine lv_iconst (v := 0) hx hb dX9_spells_22 (by decide) ?_
    refine W.widen (k := 0) (n := 0) (by decide) (by decide) ?_
    have hpost : (0 ≤ (0 : Int32).toInt ∧ (0 : Int32).toInt ≤ 1) ∧ (0 ≤ x1.toInt → x1.toInt ≤ 600 → 0 ≤ x2.toInt → x2.toInt ≤ (v0 2).toInt → (0 : Int32).toInt = 1 → zSpl f1 x1.toInt x2.toInt 7 2) ∧ (0 ≤ x1.toInt → x1.toInt ≤ 600 → 0 ≤ x2.toInt → x2.toInt ≤ (v0 2).toInt → (0 : Int32).toInt = 0 → ¬ zSpl f1 x1.toInt x2.toInt 7 2) := ⟨(by first | with_reducible assumption | exact ⟨by omega, by omega⟩), by first | (intro _ _ _ _ q; exact absurd q (by decide)) | exact fun _ _ _ _ _ => ⟨by omega, fun j hj => by have h9 : zSq _ _ _ _ := (by assumption); exact h9 j (by omega)⟩, by first | (intro _ _ _ _ q; exact absurd q (by decide)) | exact fun _ _ _ _ _ => zSpl_n e_z44 e_z47 (by omega) (by omega) (by omega) (by omega) (by omega) | exact fun _ _ _ _ _ q => by have q1 := q.1; omega⟩
    have hP9 : va_P (dC, dI) vwCl [(h0, .inr (9, mX9 h1 h2 v0)), (h1, zi k1 600 f1)] H := hP
    have hD9 : va_D A [(h0, .inr (9, mX9 h1 h2 v0)), (h1, zi k1 600 f1)] := hD
    exact W.zret (v := 0) hx hb hr rfl (fun t ht hW => ⟨⟨0, (fun _ => 0), rfl, hpost, (fun _ => 0), (fun _ => (fun _ => 0)), (fun _ => (fun _ => 0)), by rw [ht]; exact hP9, va_K.moved hW.alike hK, hD9⟩, hS.F ht⟩) hS.2.2 dX9_spells_23
  · skip
    have b_ := zF_ne rfl zk_2 c_
    refine lv_iload_n hx hb dX9_spells_10 rfl (lv_at hl 1 rfl) ?_
    refine lv_if_lt (tgt := 22) hx hb dX9_spells_11 (by decide) (fun c_ => False.elim (by have b_ := zT_lt rfl zk_0 c_; omega)) (fun c_ => ?_)
    have b_ := zF_lt rfl zk_0 c_
    refine lv_iload_n hx hb dX9_spells_14 rfl (lv_at hl 2 rfl) ?_
    refine lv_aload_n hx hb dX9_spells_15 rfl (lv_at hl 0 rfl) ?_
    refine va_get (D := (dC, dI)) (ci := 9) (v := .int (v0 2)) (C := RX9) (T := TX9) (N := 4) hx hb hG zuX9 hown hK hP 0 rfl rfl 2 (by decide) (hG _ zv171) (fun _ h9 => h9) rfl dX9_spells_16 ?_
    refine lv_icmp_le (tgt := 24) hx hb dX9_spells_19 (by decide) (fun c_ => ?_) (fun c_ => ?_)
    · skip
      have b_ := zT_le rfl rfl c_
      refine lv_iconst (v := 0) hx hb dX9_spells_24 (by decide) ?_
      refine lv_istore (lv' := [(4, .int 0), (0, .ref h0), (1, .int x1), (2, .int x2), (3, .ref (adK 7))]) hx hb dX9_spells_25 hl (by decide) rfl (fun ls hl => ?_)
      refine zcutL (fun u27_ => (2 - (u27_ 0).toInt).toNat) (fun H locs ls u27_ w27_ a27_ b27_ => va_P (dC, dI) vwCl [(h0, .inr (9, mX9 h1 h2 v0)), (h1, zi k1 600 f1)] H ∧ va_D A [(h0, .inr (9, mX9 h1 h2 v0)), (h1, zi k1 600 f1)] ∧ va_S A s.heap H locs ∧ lv_has ls 5 [(0, .ref h0), (1, .int x1), (2, .int x2), (3, .ref (adK 7)), (4, .int (u27_ 0))] ∧ (0 ≤ (u27_ 0).toInt ∧ (u27_ 0).toInt ≤ 2) ∧ (0 ≤ x1.toInt) ∧ (x2.toInt ≤ (v0 2).toInt) ∧ (zSq f1 x1.toInt 7 (u27_ 0).toInt)) (fun ls u27_ w27_ => F0 m 27 ls []) 0 0 ?_ (fun hJ27 => ?_)
      · skip
        intro H locs ls u27_ w27_ a27_ b27_ hc hJ27
        obtain ⟨hP, hD, hS, hl, b_, b_, b_, hI27_2⟩ := hc
        refine lv_iload hx hb dX9_spells_27 (lv_at hl 4 rfl) ?_
        refine lv_aload_n hx hb dX9_spells_29 rfl (lv_at hl 3 rfl) ?_
        have hPc := hP.sub (ws' := []) [] rfl
        have hDc := hD.sub (ws' := []) [] (by decide) rfl
        have hKc := hK.sub (tys' := []) [] rfl
        have hFc := va_free (wc := []) hD hS hA [] rfl
        refine va_calli (va_runV (As := []) (rest := [.int (u27_ 0)]) ⟨hx, hb, hml, hown, hG⟩ (sJ0_length_8abf5_7 l dC dI adK adV H.size) (cwV 0 hG (zgV zv677 zv678 zv679 zv146 zv680) rfl rfl rfl (by decide +kernel) ⟨Nat.le_of_ble_eq_true rfl, Nat.le_of_ble_eq_true rfl⟩) ⟨zPc_blind, vk_recv hZ.2.2.2.1 (i := 7) (by decide) hS, zPc_pre hPc hKc hDc hE hS hFc hZ⟩ rfl rfl hl.1 rfl (lv_room (Nat.le_of_ble_eq_true rfl)) dX9_spells_30 ⟨Nat.le_of_ble_eq_true rfl, Nat.le_of_ble_eq_true rfl⟩) hS (fun q _ h => hFc q h) hFc (fun r30_ u30_ t H1 locs ht hvm hw hB hz1 hk1 hS => ?_)
        replace hw : (2 ≤ r30_.toInt ∧ r30_.toInt ≤ 2) := hw
        have b_ := hw
        obtain rfl : r30_ = (2 : Int32) := zeqi.mpr ((show r30_.toInt = 2 from by omega).trans zk_2.symm)
        obtain ⟨w30_, a30_, b30_, hP1, hK1, hD1⟩ := hB
        rw [ht] at hP1
        obtain ⟨hP, hD⟩ := va_join (wr := [(h0, .inr (9, mX9 h1 h2 v0)), (h1, zi k1 600 f1)]) (w1 := []) hP hD [] [0, 1] rfl rfl (by decide) (by decide) hk1 hFc hP1 hD1
        have hP : va_P (dC, dI) vwCl [(h0, .inr (9, mX9 h1 h2 v0)), (h1, zi k1 600 f1)] H1 := hP.sub [0, 1] rfl
        have hD : va_D A [(h0, .inr (9, mX9 h1 h2 v0)), (h1, zi k1 600 f1)] := hD.sub [0, 1] (by decide) rfl
        generalize H1 = H at hP hS ⊢
        clear hz1
        refine lv_icmp_ge (tgt := 65) hx hb dX9_spells_33 (by decide) (fun c_ => ?_) (fun c_ => ?_)
        · skip
          have b_ := zT_ge rfl zk_2 c_
          refine lv_iconst (v := 1) hx hb dX9_spells_65 (by decide) ?_
          refine W.widen (k := 0) (n := 0) (by decide) (by decide) ?_
          have hpost : (0 ≤ (1 : Int32).toInt ∧ (1 : Int32).toInt ≤ 1) ∧ (0 ≤ x1.toInt → x1.toInt ≤ 600 → 0 ≤ x2.toInt → x2.toInt ≤ (v0 2).toInt → (1 : Int32).toInt = 1 → zSpl f1 x1.toInt x2.toInt 7 2) ∧ (0 ≤ x1.toInt → x1.toInt ≤ 600 → 0 ≤ x2.toInt → x2.toInt ≤ (v0 2).toInt → (1 : Int32).toInt = 0 → ¬ zSpl f1 x1.toInt x2.toInt 7 2) := ⟨(by first | with_reducible assumption | exact ⟨by omega, by omega⟩), by first | (intro _ _ _ _ q; exact absurd q (by decide)) | exact fun _ _ _ _ _ => ⟨by omega, fun j hj => by have h9 : zSq _ _ _ _ := (by assumption); exact h9 j (by omega)⟩, by first | (intro _ _ _ _ q; exact absurd q (by decide)) | exact fun _ _ _ _ _ => zSpl_n e_z44 e_z47 (by omega) (by omega) (by omega) (by omega) (by omega) | exact fun _ _ _ _ _ q => by have q1 := q.1; omega⟩
          have hP9 : va_P (dC, dI) vwCl [(h0, .inr (9, mX9 h1 h2 v0)), (h1, zi k1 600 f1)] H := hP
          have hD9 : va_D A [(h0, .inr (9, mX9 h1 h2 v0)), (h1, zi k1 600 f1)] := hD
          exact W.zret (v := 1) hx hb hr rfl (fun t ht hW => ⟨⟨1, (fun _ => 0), rfl, hpost, (fun _ => 0), (fun _ => (fun _ => 0)), (fun _ => (fun _ => 0)), by rw [ht]; exact hP9, va_K.moved hW.alike hK, hD9⟩, hS.F ht⟩) hS.2.2 dX9_spells_66
        · skip
          have b_ := zF_ge rfl zk_2 c_
          refine lv_aload_n hx hb dX9_spells_36 rfl (lv_at hl 0 rfl) ?_
          refine va_get (D := (dC, dI)) (ci := 9) (v := .ref h1) (C := RX9) (T := TX9) (N := 4) hx hb hG zuX9 hown hK hP 0 rfl rfl 0 (by decide) (hG _ zv169) (fun _ h9 => h9) rfl dX9_spells_37 ?_
          refine lv_iload_n hx hb dX9_spells_40 rfl (lv_at hl 1 rfl) ?_
          refine lv_iload hx hb dX9_spells_41 (lv_at hl 4 rfl) ?_
          refine lv_iadd hx hb dX9_spells_43 ?_
          refine lv_topi (fun z43 e_z43 => ?_)
          have b_ := zadd rfl rfl e_z43 (by omega) (by omega)
          refine va_bald hx hb hK hP 1 0 rfl rfl (zin_lit ⟨by omega, by omega⟩) dX9_spells_44 ?_
          refine lv_topi (fun z44 e_z44 => ?_)
          refine lv_bipush (v := 32) hx hb dX9_spells_45 (by decide) ?_
          have b_ : -2147483648 ≤ z44.toInt ∧ z44.toInt ≤ 2147483647 := ⟨zlo _, zhi _⟩
          refine lv_ior hx hb dX9_spells_47 ?_
          refine lv_topi (fun z47 e_z47 => ?_)
          refine lv_aload_n hx hb dX9_spells_48 rfl (lv_at hl 3 rfl) ?_
          refine lv_iload hx hb dX9_spells_49 (lv_at hl 4 rfl) ?_
          have hPc := hP.sub (ws' := []) [] rfl
          have hDc := hD.sub (ws' := []) [] (by decide) rfl
          have hKc := hK.sub (tys' := []) [] rfl
          have hFc := va_free (wc := []) hD hS hA [] rfl
          refine va_calli (va_runV (As := [.int (u27_ 0)]) (rest := [.int z47]) ⟨hx, hb, hml, hown, hG⟩ (sJ0_charAt_5068e_7 l dC dI adK adV H.size (u27_ 0) (show (0 : Int) ≤ ((u27_ 0) : Int32).toInt ∧ ((u27_ 0) : Int32).toInt ≤ (1 : Int) from (by first | with_reducible assumption | exact ⟨by omega, by omega⟩))) (cwV 1 hG (zgV zv687 zv688 zv689 zv146 zv690) rfl rfl rfl (by decide +kernel) ⟨Nat.le_of_ble_eq_true rfl, Nat.le_of_ble_eq_true rfl⟩) ⟨zPc_blind, vk_recv hZ.2.2.2.1 (i := 7) (by decide) hS, zPc_pre hPc hKc hDc hE hS hFc hZ⟩ rfl rfl hl.1 rfl (lv_room (Nat.le_of_ble_eq_true rfl)) dX9_spells_51 ⟨Nat.le_of_ble_eq_true rfl, Nat.le_of_ble_eq_true rfl⟩) hS (fun q _ h => hFc q h) hFc (fun r51_ u51_ t H1 locs ht hvm hw hB hz1 hk1 hS => ?_)
          replace hw : (0 ≤ r51_.toInt ∧ r51_.toInt ≤ 255) ∧ (r51_.toInt = zqCs 7 (u27_ 0).toInt) := hw
          obtain ⟨b_, hX51_0⟩ := hw
          obtain ⟨w51_, a51_, b51_, hP1, hK1, hD1⟩ := hB
          rw [ht] at hP1
          obtain ⟨hP, hD⟩ := va_join (wr := [(h0, .inr (9, mX9 h1 h2 v0)), (h1, zi k1 600 f1)]) (w1 := []) hP hD [] [0, 1] rfl rfl (by decide) (by decide) hk1 hFc hP1 hD1
          have hP : va_P (dC, dI) vwCl [(h0, .inr (9, mX9 h1 h2 v0)), (h1, zi k1 600 f1)] H1 := hP.sub [0, 1] rfl
          have hD : va_D A [(h0, .inr (9, mX9 h1 h2 v0)), (h1, zi k1 600 f1)] := hD.sub [0, 1] (by decide) rfl
          generalize H1 = H at hP hS ⊢
          clear hz1
          have b_ : -2147483648 ≤ z47.toInt ∧ z47.toInt ≤ 2147483647 := ⟨zlo _, zhi _⟩
          refine lv_icmp_eq (tgt := 59) hx hb dX9_spells_54 (by decide) (fun c_ => ?_) (fun c_ => ?_)
          · skip
            have b_ := zT_eq rfl rfl c_
            obtain ⟨z59, e_z59⟩ : ∃ z : Int32, z = (u27_ 0) + Int32.ofInt 1 := ⟨_, rfl⟩
            have b_ := zadd (x := (u27_ 0)) (y := Int32.ofInt 1) rfl (show (Int32.ofInt 1).toInt = 1 from by decide) e_z59 (by omega) (by omega)
            refine lv_iinc (v := z59) (lv' := [(4, .int z59), (0, .ref h0), (1, .int x1), (2, .int x2), (3, .ref (adK 7))]) hx hb dX9_spells_59 hl (k := 4) rfl e_z59.symm (by decide) rfl (fun ls hl => ?_)
            refine lv_goto (tgt := 27) hx hb dX9_spells_62 (by decide) ?_
            have hc : va_P (dC, dI) vwCl [(h0, .inr (9, mX9 h1 h2 v0)), (h1, zi k1 600 f1)] H ∧ va_D A [(h0, .inr (9, mX9 h1 h2 v0)), (h1, zi k1 600 f1)] ∧ va_S A s.heap H locs ∧ lv_has ls 5 [(0, .ref h0), (1, .int x1), (2, .int x2), (3, .ref (adK 7)), (4, .int z59)] ∧ (0 ≤ z59.toInt ∧ z59.toInt ≤ 2) ∧ (0 ≤ x1.toInt) ∧ (x2.toInt ≤ (v0 2).toInt) ∧ (zSq f1 x1.toInt 7 z59.toInt) := ⟨hP, hD, hS, lv_sub hl [1, 2, 3, 4, 0] rfl, (by first | with_reducible assumption | exact ⟨by omega, by omega⟩), by omega, by omega, by first | exact zSq_0 (by omega) | exact zSq_s (by assumption) e_z44 e_z47 (by omega) (by omega) (by omega) (by omega) (by omega)⟩
            exact hJ27 H locs ls (fun i => ([z59] : List (Int32)).getD i 0) (fun _ => 0) (fun _ => (fun _ => 0)) (fun _ => (fun _ => 0)) hc (show (2 - z59.toInt).toNat < (2 - (u27_ 0).toInt).toNat from by omega)
          · skip
            have b_ := zF_eq rfl rfl c_
            refine lv_iconst (v := 0) hx hb dX9_spells_57 (by decide) ?_
            refine W.widen (k := 0) (n := 0) (by decide) (by decide) ?_
            have hpost : (0 ≤ (0 : Int32).toInt ∧ (0 : Int32).toInt ≤ 1) ∧ (0 ≤ x1.toInt → x1.toInt ≤ 600 → 0 ≤ x2.toInt → x2.toInt ≤ (v0 2).toInt → (0 : Int32).toInt = 1 → zSpl f1 x1.toInt x2.toInt 7 2) ∧ (0 ≤ x1.toInt → x1.toInt ≤ 600 → 0 ≤ x2.toInt → x2.toInt ≤ (v0 2).toInt → (0 : Int32).toInt = 0 → ¬ zSpl f1 x1.toInt x2.toInt 7 2) := ⟨(by first | with_reducible assumption | exact ⟨by omega, by omega⟩), by first | (intro _ _ _ _ q; exact absurd q (by decide)) | exact fun _ _ _ _ _ => ⟨by omega, fun j hj => by have h9 : zSq _ _ _ _ := (by assumption); exact h9 j (by omega)⟩, by first | (intro _ _ _ _ q; exact absurd q (by decide)) | exact fun _ _ _ _ _ => zSpl_n e_z44 e_z47 (by omega) (by omega) (by omega) (by omega) (by omega) | exact fun _ _ _ _ _ q => by have q1 := q.1; omega⟩
            have hP9 : va_P (dC, dI) vwCl [(h0, .inr (9, mX9 h1 h2 v0)), (h1, zi k1 600 f1)] H := hP
            have hD9 : va_D A [(h0, .inr (9, mX9 h1 h2 v0)), (h1, zi k1 600 f1)] := hD
            exact W.zret (v := 0) hx hb hr rfl (fun t ht hW => ⟨⟨0, (fun _ => 0), rfl, hpost, (fun _ => 0), (fun _ => (fun _ => 0)), (fun _ => (fun _ => 0)), by rw [ht]; exact hP9, va_K.moved hW.alike hK, hD9⟩, hS.F ht⟩) hS.2.2 dX9_spells_58
      · skip
        have hc : va_P (dC, dI) vwCl [(h0, .inr (9, mX9 h1 h2 v0)), (h1, zi k1 600 f1)] H ∧ va_D A [(h0, .inr (9, mX9 h1 h2 v0)), (h1, zi k1 600 f1)] ∧ va_S A s.heap H locs ∧ lv_has ls 5 [(0, .ref h0), (1, .int x1), (2, .int x2), (3, .ref (adK 7)), (4, .int 0)] ∧ (0 ≤ (0 : Int32).toInt ∧ (0 : Int32).toInt ≤ 2) ∧ (0 ≤ x1.toInt) ∧ (x2.toInt ≤ (v0 2).toInt) ∧ (zSq f1 x1.toInt 7 (0 : Int32).toInt) := ⟨hP, hD, hS, lv_sub hl [1, 2, 3, 4, 0] rfl, (by first | with_reducible assumption | exact ⟨by omega, by omega⟩), by omega, by omega, by first | exact zSq_0 (by omega) | exact zSq_s (by assumption) e_z44 e_z47 (by omega) (by omega) (by omega) (by omega) (by omega)⟩
        exact hJ27 H locs ls (fun i => ([0] : List (Int32)).getD i 0) (fun _ => 0) (fun _ => (fun _ => 0)) (fun _ => (fun _ => 0)) hc
    · skip
      have b_ := zF_le rfl rfl c_
      refine lv_iconst (v := 0) hx hb dX9_spells_22 (by decide) ?_
      refine W.widen (k := 0) (n := 0) (by decide) (by decide) ?_
      have hpost : (0 ≤ (0 : Int32).toInt ∧ (0 : Int32).toInt ≤ 1) ∧ (0 ≤ x1.toInt → x1.toInt ≤ 600 → 0 ≤ x2.toInt → x2.toInt ≤ (v0 2).toInt → (0 : Int32).toInt = 1 → zSpl f1 x1.toInt x2.toInt 7 2) ∧ (0 ≤ x1.toInt → x1.toInt ≤ 600 → 0 ≤ x2.toInt → x2.toInt ≤ (v0 2).toInt → (0 : Int32).toInt = 0 → ¬ zSpl f1 x1.toInt x2.toInt 7 2) := ⟨(by first | with_reducible assumption | exact ⟨by omega, by omega⟩), by first | (intro _ _ _ _ q; exact absurd q (by decide)) | exact fun _ _ _ _ _ => ⟨by omega, fun j hj => by have h9 : zSq _ _ _ _ := (by assumption); exact h9 j (by omega)⟩, by first | (intro _ _ _ _ q; exact absurd q (by decide)) | exact fun _ _ _ _ _ => zSpl_n e_z44 e_z47 (by omega) (by omega) (by omega) (by omega) (by omega) | exact fun _ _ _ _ _ q => by have q1 := q.1; omega⟩
      have hP9 : va_P (dC, dI) vwCl [(h0, .inr (9, mX9 h1 h2 v0)), (h1, zi k1 600 f1)] H := hP
      have hD9 : va_D A [(h0, .inr (9, mX9 h1 h2 v0)), (h1, zi k1 600 f1)] := hD
      exact W.zret (v := 0) hx hb hr rfl (fun t ht hW => ⟨⟨0, (fun _ => 0), rfl, hpost, (fun _ => 0), (fun _ => (fun _ => 0)), (fun _ => (fun _ => 0)), by rw [ht]; exact hP9, va_K.moved hW.alike hK, hD9⟩, hS.F ht⟩) hS.2.2 dX9_spells_23
set_option maxHeartbeats 8000000 in
set_option maxRecDepth 100000 in
theorem sJ0_coder_7d493_8 (l : Launch) (dC : Nat → ClassId) (dI : Nat → Nat → Nat) (adK adV : Nat → Nat) (sz : Nat) : Met l yJ0_coder_7d493 (zw yJ0_coder_7d493 cJ0_coder_7d493 1 (some .byte)) { frames := 0, cells := 0, slots := 0, locals := 0 } (zPc dC dI adK adV [.ref (adK 8)] sz [] []) (va_Qi (fun (r : Int32) (u : Nat → Int32) => (0 ≤ r.toInt ∧ r.toInt ≤ 0)) (fun (u : Nat → Int32) (t : State) => ∃ (ww : Nat → Int64) (aa : Nat → Nat → Int32) (bb : Nat → Nat → Int64), va_P (dC, dI) vwCl [] t.heap ∧ va_K (dC, dI) vwCl [] t ∧ va_D (va_A [] sz) []) (va_A [] sz)) 0 0 (va_A [] sz) := by
  refine Met.ofW (cc := cJ0_coder_7d493) (maxL := 1) (ret := (some .byte)) (by decide) rfl ?_
  intro p e s m args below meth c s₁ B hml hv
  obtain ⟨rfl, hsz, hP, hK, hD0, hE, hZ⟩ := hv
  have hx := B.exec
  have hb := B.bytes
  have hr := B.returns
  have hG : ∀ w ∈ zG, w.before _ s = true := fun w h => atoms_spec (ws := (zw yJ0_coder_7d493 cJ0_coder_7d493 1 (some .byte))) B.pre w (List.mem_cons_of_mem _ h)
  have hown : s.vm.findClass RJ0 = some m.cls := findClass_of_methodNamed B.named
  have hlocks := B.notSynchronized

  subst hsz
  have hD := hD0.self (sz := s.heap.size)
  generalize hAe : va_A [] s.heap.size = A at hD hZ ⊢
  have hA : ∀ q : Nat, s.heap.size ≤ q → A q := fun q h => by rw [← hAe]; exact Or.inr h
  have hS : va_S A s.heap s.heap [] := va_S.rf
  have hl := lv_entry ([.ref (adK 8)]) (n := 1) (Nat.le_of_ble_eq_true rfl)
  rw [lg_entry_eq]
  generalize (lg_sl ([.ref (adK 8)]) ++ List.replicate (1 - (lg_sl ([.ref (adK 8)])).length) Slot.unset).toArray = ls at hl ⊢
  have hl : lv_has ls 1 [(0, .ref (adK 8))] := hl
  have b_ := zk_0
  refine va_gets hx hb hZ.2.2.1 hS hown (hG _ zv685) (fun _ h => h) dJ0_coder_7d493_0 ?_
  refine lv_if_eq (tgt := 13) hx hb dJ0_coder_7d493_3 (by decide) (fun c_ => absurd c_ (by decide)) (fun c_ => ?_)
  refine lv_aload_n hx hb dJ0_coder_7d493_6 rfl (lv_at hl 0 rfl) ?_
  refine vk_getf hx hb (hZ.2.2.2.1.1 8 (by decide)).2.1 hS hown (hG _ zv2258) (fun _ h => h) dJ0_coder_7d493_7 ?_
  refine lv_goto (tgt := 14) hx hb dJ0_coder_7d493_10 (by decide) ?_
  refine W.widen (k := 0) (n := 0) (by decide) (by decide) ?_
  have hpost : (0 ≤ (0 : Int32).toInt ∧ (0 : Int32).toInt ≤ 0) := (by first | with_reducible assumption | exact ⟨by omega, by omega⟩)
  have hP9 : va_P (dC, dI) vwCl [] s.heap := hP
  have hD9 : va_D A [] := hD
  exact W.zret (v := 0) hx hb hr rfl (fun t ht hW => ⟨⟨0, (fun _ => 0), rfl, hpost, (fun _ => 0), (fun _ => (fun _ => 0)), (fun _ => (fun _ => 0)), by rw [ht]; exact hP9, va_K.moved hW.alike hK, hD9⟩, hS.F ht⟩) hS.2.2 dJ0_coder_7d493_14
set_option maxHeartbeats 8000000 in
set_option maxRecDepth 100000 in
theorem sJ0_length_8abf5_8 (l : Launch) (dC : Nat → ClassId) (dI : Nat → Nat → Nat) (adK adV : Nat → Nat) (sz : Nat) : Met l yJ0_length_8abf5 (zw yJ0_length_8abf5 cJ0_length_8abf5 1 (some .int)) { frames := 1, cells := 0, slots := 0, locals := 20 } (zPc dC dI adK adV [.ref (adK 8)] sz [] []) (va_Qi (fun (r : Int32) (u : Nat → Int32) => (3 ≤ r.toInt ∧ r.toInt ≤ 3)) (fun (u : Nat → Int32) (t : State) => ∃ (ww : Nat → Int64) (aa : Nat → Nat → Int32) (bb : Nat → Nat → Int64), va_P (dC, dI) vwCl [] t.heap ∧ va_K (dC, dI) vwCl [] t ∧ va_D (va_A [] sz) []) (va_A [] sz)) 0 0 (va_A [] sz) := by
  refine Met.ofW (cc := cJ0_length_8abf5) (maxL := 1) (ret := (some .int)) (by decide) rfl ?_
  intro p e s m args below meth c s₁ B hml hv
  obtain ⟨rfl, hsz, hP, hK, hD0, hE, hZ⟩ := hv
  have hx := B.exec
  have hb := B.bytes
  have hr := B.returns
  have hG : ∀ w ∈ zG, w.before _ s = true := fun w h => atoms_spec (ws := (zw yJ0_length_8abf5 cJ0_length_8abf5 1 (some .int))) B.pre w (List.mem_cons_of_mem _ h)
  have hown : s.vm.findClass RJ0 = some m.cls := findClass_of_methodNamed B.named
  have hlocks := B.notSynchronized

  subst hsz
  have hD := hD0.self (sz := s.heap.size)
  generalize hAe : va_A [] s.heap.size = A at hD hZ ⊢
  have hA : ∀ q : Nat, s.heap.size ≤ q → A q := fun q h => by rw [← hAe]; exact Or.inr h
  have hS : va_S A s.heap s.heap [] := va_S.rf
  have hl := lv_entry ([.ref (adK 8)]) (n := 1) (Nat.le_of_ble_eq_true rfl)
  rw [lg_entry_eq]
  generalize (lg_sl ([.ref (adK 8)]) ++ List.replicate (1 - (lg_sl ([.ref (adK 8)])).length) Slot.unset).toArray = ls at hl ⊢
  have hl : lv_has ls 1 [(0, .ref (adK 8))] := hl
  have b_ := zk_3
  refine lv_aload_n hx hb dJ0_length_8abf5_0 rfl (lv_at hl 0 rfl) ?_
  refine vk_getf hx hb (hZ.2.2.2.1.1 8 (by decide)).2.2.1 hS hown (hG _ zv2257) (fun _ h => h) dJ0_length_8abf5_1 ?_
  refine va_tlen (v := 3) hx hb (hZ.2.2.2.1.1 8 (by decide)).2.2.2 hS (by decide) dJ0_length_8abf5_4 ?_
  refine lv_aload_n hx hb dJ0_length_8abf5_5 rfl (lv_at hl 0 rfl) ?_
  have hPc := hP.sub (ws' := []) [] rfl
  have hDc := hD.sub (ws' := []) [] (by decide) rfl
  have hKc := hK.sub (tys' := []) [] rfl
  have hFc := va_free (wc := []) hD hS hA [] rfl
  refine va_calli (va_runV (As := []) (rest := [.int 3]) ⟨hx, hb, hml, hown, hG⟩ (sJ0_coder_7d493_8 l dC dI adK adV s.heap.size) (cwV 0 hG (zgV zv681 zv682 zv683 zv146 zv684) rfl rfl rfl (by decide +kernel) ⟨Nat.le_of_ble_eq_true rfl, Nat.le_of_ble_eq_true rfl⟩) ⟨zPc_blind, vk_recv hZ.2.2.2.1 (i := 8) (by decide) hS, zPc_pre hPc hKc hDc hE hS hFc hZ⟩ rfl rfl hl.1 rfl (lv_room (Nat.le_of_ble_eq_true rfl)) dJ0_length_8abf5_6 ⟨Nat.le_of_ble_eq_true rfl, Nat.le_of_ble_eq_true rfl⟩) hS (fun q _ h => hFc q h) hFc (fun r6_ u6_ t H1 locs ht hvm hw hB hz1 hk1 hS => ?_)
  replace hw : (0 ≤ r6_.toInt ∧ r6_.toInt ≤ 0) := hw
  have b_ := hw
  obtain rfl : r6_ = (0 : Int32) := zeqi.mpr ((show r6_.toInt = 0 from by omega).trans zk_0.symm)
  obtain ⟨w6_, a6_, b6_, hP1, hK1, hD1⟩ := hB
  rw [ht] at hP1
  obtain ⟨hP, hD⟩ := va_join (wr := []) (w1 := []) hP hD [] [] rfl rfl (by decide) (by decide) hk1 hFc hP1 hD1
  have hP : va_P (dC, dI) vwCl [] H1 := hP.sub [] rfl
  have hD : va_D A [] := hD.sub [] (by decide) rfl
  generalize H1 = H at hP hS ⊢
  clear hz1
  refine lv_ishr hx hb dJ0_length_8abf5_9 ?_
  refine lv_topi (fun z9 e_z9 => ?_)
  obtain rfl : z9 = (3 : Int32) := e_z9.trans (by decide)
  refine W.widen (k := 0) (n := 0) (by decide) (by decide) ?_
  have hpost : (3 ≤ (3 : Int32).toInt ∧ (3 : Int32).toInt ≤ 3) := (by first | with_reducible assumption | exact ⟨by omega, by omega⟩)
  have hP9 : va_P (dC, dI) vwCl [] H := hP
  have hD9 : va_D A [] := hD
  exact W.iret (v := 3) hx hb hr (fun t ht hW => ⟨⟨3, (fun _ => 0), rfl, hpost, (fun _ => 0), (fun _ => (fun _ => 0)), (fun _ => (fun _ => 0)), by rw [ht]; exact hP9, va_K.moved hW.alike hK, hD9⟩, hS.F ht⟩) hS.2.2 dJ0_length_8abf5_10
set_option maxHeartbeats 8000000 in
set_option maxRecDepth 100000 in
theorem sJ0_isLatin1_aae02_8 (l : Launch) (dC : Nat → ClassId) (dI : Nat → Nat → Nat) (adK adV : Nat → Nat) (sz : Nat) : Met l yJ0_isLatin1_aae02 (zw yJ0_isLatin1_aae02 cJ0_isLatin1_aae02 1 (some .boolean)) { frames := 0, cells := 0, slots := 0, locals := 0 } (zPc dC dI adK adV [.ref (adK 8)] sz [] []) (va_Qi (fun (r : Int32) (u : Nat → Int32) => (1 ≤ r.toInt ∧ r.toInt ≤ 1)) (fun (u : Nat → Int32) (t : State) => ∃ (ww : Nat → Int64) (aa : Nat → Nat → Int32) (bb : Nat → Nat → Int64), va_P (dC, dI) vwCl [] t.heap ∧ va_K (dC, dI) vwCl [] t ∧ va_D (va_A [] sz) []) (va_A [] sz)) 0 0 (va_A [] sz) := by
  refine Met.ofW (cc := cJ0_isLatin1_aae02) (maxL := 1) (ret := (some .boolean)) (by decide) rfl ?_
  intro p e s m args below meth c s₁ B hml hv
  obtain ⟨rfl, hsz, hP, hK, hD0, hE, hZ⟩ := hv
  have hx := B.exec
  have hb := B.bytes
  have hr := B.returns
  have hG : ∀ w ∈ zG, w.before _ s = true := fun w h => atoms_spec (ws := (zw yJ0_isLatin1_aae02 cJ0_isLatin1_aae02 1 (some .boolean))) B.pre w (List.mem_cons_of_mem _ h)
  have hown : s.vm.findClass RJ0 = some m.cls := findClass_of_methodNamed B.named
  have hlocks := B.notSynchronized

  subst hsz
  have hD := hD0.self (sz := s.heap.size)
  generalize hAe : va_A [] s.heap.size = A at hD hZ ⊢
  have hA : ∀ q : Nat, s.heap.size ≤ q → A q := fun q h => by rw [← hAe]; exact Or.inr h
  have hS : va_S A s.heap s.heap [] := va_S.rf
  have hl := lv_entry ([.ref (adK 8)]) (n := 1) (Nat.le_of_ble_eq_true rfl)
  rw [lg_entry_eq]
  generalize (lg_sl ([.ref (adK 8)]) ++ List.replicate (1 - (lg_sl ([.ref (adK 8)])).length) Slot.unset).toArray = ls at hl ⊢
  have hl : lv_has ls 1 [(0, .ref (adK 8))] := hl
  have b_ := zk_1
  refine va_gets hx hb hZ.2.2.1 hS hown (hG _ zv685) (fun _ h => h) dJ0_isLatin1_aae02_0 ?_
  refine lv_if_eq (tgt := 17) hx hb dJ0_isLatin1_aae02_3 (by decide) (fun c_ => absurd c_ (by decide)) (fun c_ => ?_)
  refine lv_aload_n hx hb dJ0_isLatin1_aae02_6 rfl (lv_at hl 0 rfl) ?_
  refine vk_getf hx hb (hZ.2.2.2.1.1 8 (by decide)).2.1 hS hown (hG _ zv2258) (fun _ h => h) dJ0_isLatin1_aae02_7 ?_
  refine lv_if_ne (tgt := 17) hx hb dJ0_isLatin1_aae02_10 (by decide) (fun c_ => absurd c_ (by decide)) (fun c_ => ?_)
  refine lv_iconst (v := 1) hx hb dJ0_isLatin1_aae02_13 (by decide) ?_
  refine lv_goto (tgt := 18) hx hb dJ0_isLatin1_aae02_14 (by decide) ?_
  refine W.widen (k := 0) (n := 0) (by decide) (by decide) ?_
  have hpost : (1 ≤ (1 : Int32).toInt ∧ (1 : Int32).toInt ≤ 1) := (by first | with_reducible assumption | exact ⟨by omega, by omega⟩)
  have hP9 : va_P (dC, dI) vwCl [] s.heap := hP
  have hD9 : va_D A [] := hD
  exact W.zret (v := 1) hx hb hr rfl (fun t ht hW => ⟨⟨1, (fun _ => 0), rfl, hpost, (fun _ => 0), (fun _ => (fun _ => 0)), (fun _ => (fun _ => 0)), by rw [ht]; exact hP9, va_K.moved hW.alike hK, hD9⟩, hS.F ht⟩) hS.2.2 dJ0_isLatin1_aae02_18
set_option maxHeartbeats 8000000 in
set_option maxRecDepth 100000 in
theorem sJ1_charAt_3b067_8 (l : Launch) (dC : Nat → ClassId) (dI : Nat → Nat → Nat) (adK adV : Nat → Nat) (sz : Nat) (x1 : Int32) (hx1 : 0 ≤ x1.toInt ∧ x1.toInt ≤ 2) : Met l yJ1_charAt_3b067 (zw yJ1_charAt_3b067 cJ1_charAt_3b067 2 (some .char)) { frames := 2, cells := 0, slots := 0, locals := 43 } (zPc dC dI adK adV [.ref (adV 8), .int x1] sz [] []) (va_Qi (fun (r : Int32) (u : Nat → Int32) => (0 ≤ r.toInt ∧ r.toInt ≤ 255) ∧ (r.toInt = zqCs 8 x1.toInt)) (fun (u : Nat → Int32) (t : State) => ∃ (ww : Nat → Int64) (aa : Nat → Nat → Int32) (bb : Nat → Nat → Int64), va_P (dC, dI) vwCl [] t.heap ∧ va_K (dC, dI) vwCl [] t ∧ va_D (va_A [] sz) []) (va_A [] sz)) 0 0 (va_A [] sz) := by
  refine Met.ofW (cc := cJ1_charAt_3b067) (maxL := 2) (ret := (some .char)) (by decide) rfl ?_
  intro p e s m args below meth c s₁ B hml hv
  obtain ⟨rfl, hsz, hP, hK, hD0, hE, hZ⟩ := hv
  have hx := B.exec
  have hb := B.bytes
  have hr := B.returns
  have hG : ∀ w ∈ zG, w.before _ s = true := fun w h => atoms_spec (ws := (zw yJ1_charAt_3b067 cJ1_charAt_3b067 2 (some .char))) B.pre w (List.mem_cons_of_mem _ h)
  have hown : s.vm.findClass RJ1 = some m.cls := findClass_of_methodNamed B.named
  have hlocks := B.notSynchronized

  subst hsz
  have hD := hD0.self (sz := s.heap.size)
  generalize hAe : va_A [] s.heap.size = A at hD hZ ⊢
  have hA : ∀ q : Nat, s.heap.size ≤ q → A q := fun q h => by rw [← hAe]; exact Or.inr h
  have hS : va_S A s.heap s.heap [] := va_S.rf
  have hl := lv_entry ([.ref (adV 8), .int x1]) (n := 2) (Nat.le_of_ble_eq_true rfl)
  rw [lg_entry_eq]
  generalize (lg_sl ([.ref (adV 8), .int x1]) ++ List.replicate (2 - (lg_sl ([.ref (adV 8), .int x1])).length) Slot.unset).toArray = ls at hl ⊢
  have hl : lv_has ls 2 [(0, .ref (adV 8)), (1, .int x1)] := hl
  have b_ := zk_3
  refine lv_iload_n hx hb dJ1_charAt_3b067_0 rfl (lv_at hl 1 rfl) ?_
  refine lv_aload_n hx hb dJ1_charAt_3b067_1 rfl (lv_at hl 0 rfl) ?_
  refine va_tlen (v := 3) hx hb (hZ.2.2.2.1.1 8 (by decide)).2.2.2 hS (by decide) dJ1_charAt_3b067_2 ?_
  have hPc := hP.sub (ws' := []) [] rfl
  have hDc := hD.sub (ws' := []) [] (by decide) rfl
  have hKc := hK.sub (tys' := []) [] rfl
  have hFc := va_free (wc := []) hD hS hA [] rfl
  refine va_callv (va_runS (As := [.int x1, .int 3]) (rest := []) ⟨hx, hb, hml, hown, hG⟩ (sJ0_checkIndex_df160_0 l dC dI adK adV s.heap.size x1 3 (show (0 : Int) ≤ (x1 : Int32).toInt ∧ (x1 : Int32).toInt ≤ (4 : Int) from (by first | with_reducible assumption | exact ⟨by omega, by omega⟩)) ⟨show (1 : Int) ≤ (3 : Int32).toInt from by decide, show (3 : Int32).toInt ≤ (5 : Int) from by decide⟩ (show x1.toInt < (3 : Int32).toInt from by omega)) (va_cwS 2 hG (zgS zv698 zv699 zv146 zv700) rfl rfl rfl (by decide +kernel) ⟨Nat.le_of_ble_eq_true rfl, Nat.le_of_ble_eq_true rfl⟩) ⟨zPc_blind, zPc_pre hPc hKc hDc hE hS hFc hZ⟩ rfl rfl hl.1 rfl (lv_room (Nat.le_of_ble_eq_true rfl)) dJ1_charAt_3b067_3 ⟨Nat.le_of_ble_eq_true rfl, Nat.le_of_ble_eq_true rfl⟩) hS (fun q _ h => hFc q h) hFc (fun u3_ t H1 locs ht hvm hw hB hz1 hk1 hS => ?_)
  obtain ⟨w3_, a3_, b3_, hP1, hK1, hD1⟩ := hB
  rw [ht] at hP1
  obtain ⟨hP, hD⟩ := va_join (wr := []) (w1 := []) hP hD [] [] rfl rfl (by decide) (by decide) hk1 hFc hP1 hD1
  have hP : va_P (dC, dI) vwCl [] H1 := hP.sub [] rfl
  have hD : va_D A [] := hD.sub [] (by decide) rfl
  generalize H1 = H at hP hS ⊢
  clear hz1
  refine lv_aload_n hx hb dJ1_charAt_3b067_6 rfl (lv_at hl 0 rfl) ?_
  refine lv_iload_n hx hb dJ1_charAt_3b067_7 rfl (lv_at hl 1 rfl) ?_
  refine va_tb (N := 3) hx hb (hZ.2.2.2.1.1 8 (by decide)).2.2.2 hS (zin_lit (n := 3) ⟨by omega, by omega⟩) rfl dJ1_charAt_3b067_8 ?_
  refine lv_topi (fun z8 e_z8 => ?_)
  refine lv_sipush (v := 255) hx hb dJ1_charAt_3b067_9 (by decide) ?_
  have b_ : -2147483648 ≤ z8.toInt ∧ z8.toInt ≤ 2147483647 := ⟨zlo _, zhi _⟩
  refine lv_iand hx hb dJ1_charAt_3b067_12 ?_
  refine lv_topi (fun z12 e_z12 => ?_)
  have b_ := zand (x := z8) zk_255 e_z12 (by decide)
  refine lv_i2c hx hb dJ1_charAt_3b067_13 rfl ?_
  refine lv_topi (fun z13 e_z13 => ?_)
  have b_ := zi2c rfl e_z13 (by omega) (by omega)
  refine W.widen (k := 0) (n := 0) (by decide) (by decide) ?_
  have hpost : (0 ≤ z13.toInt ∧ z13.toInt ≤ 255) ∧ (z13.toInt = zqCs 8 x1.toInt) := ⟨(by first | with_reducible assumption | exact ⟨by omega, by omega⟩), by exact zcs9 (by decide) e_z8 e_z12 e_z13 (by have q : x1.toNatClampNeg = x1.toInt.toNat := rfl; omega)⟩
  have hP9 : va_P (dC, dI) vwCl [] H := hP
  have hD9 : va_D A [] := hD
  exact W.zret (v := z13) hx hb hr (zn_char ⟨by omega, by omega⟩) (fun t ht hW => ⟨⟨z13, (fun _ => 0), rfl, hpost, (fun _ => 0), (fun _ => (fun _ => 0)), (fun _ => (fun _ => 0)), by rw [ht]; exact hP9, va_K.moved hW.alike hK, hD9⟩, hS.F ht⟩) hS.2.2 dJ1_charAt_3b067_14
set_option maxHeartbeats 8000000 in
set_option maxRecDepth 100000 in
theorem sJ0_charAt_5068e_8 (l : Launch) (dC : Nat → ClassId) (dI : Nat → Nat → Nat) (adK adV : Nat → Nat) (sz : Nat) (x1 : Int32) (hx1 : 0 ≤ x1.toInt ∧ x1.toInt ≤ 2) : Met l yJ0_charAt_5068e (zw yJ0_charAt_5068e cJ0_charAt_5068e 2 (some .char)) { frames := 3, cells := 0, slots := 0, locals := 64 } (zPc dC dI adK adV [.ref (adK 8), .int x1] sz [] []) (va_Qi (fun (r : Int32) (u : Nat → Int32) => (0 ≤ r.toInt ∧ r.toInt ≤ 255) ∧ (r.toInt = zqCs 8 x1.toInt)) (fun (u : Nat → Int32) (t : State) => ∃ (ww : Nat → Int64) (aa : Nat → Nat → Int32) (bb : Nat → Nat → Int64), va_P (dC, dI) vwCl [] t.heap ∧ va_K (dC, dI) vwCl [] t ∧ va_D (va_A [] sz) []) (va_A [] sz)) 0 0 (va_A [] sz) := by
  refine Met.ofW (cc := cJ0_charAt_5068e) (maxL := 2) (ret := (some .char)) (by decide) rfl ?_
  intro p e s m args below meth c s₁ B hml hv
  obtain ⟨rfl, hsz, hP, hK, hD0, hE, hZ⟩ := hv
  have hx := B.exec
  have hb := B.bytes
  have hr := B.returns
  have hG : ∀ w ∈ zG, w.before _ s = true := fun w h => atoms_spec (ws := (zw yJ0_charAt_5068e cJ0_charAt_5068e 2 (some .char))) B.pre w (List.mem_cons_of_mem _ h)
  have hown : s.vm.findClass RJ0 = some m.cls := findClass_of_methodNamed B.named
  have hlocks := B.notSynchronized

  subst hsz
  have hD := hD0.self (sz := s.heap.size)
  generalize hAe : va_A [] s.heap.size = A at hD hZ ⊢
  have hA : ∀ q : Nat, s.heap.size ≤ q → A q := fun q h => by rw [← hAe]; exact Or.inr h
  have hS : va_S A s.heap s.heap [] := va_S.rf
  have hl := lv_entry ([.ref (adK 8), .int x1]) (n := 2) (Nat.le_of_ble_eq_true rfl)
  rw [lg_entry_eq]
  generalize (lg_sl ([.ref (adK 8), .int x1]) ++ List.replicate (2 - (lg_sl ([.ref (adK 8), .int x1])).length) Slot.unset).toArray = ls at hl ⊢
  have hl : lv_has ls 2 [(0, .ref (adK 8)), (1, .int x1)] := hl
  refine lv_aload_n hx hb dJ0_charAt_5068e_0 rfl (lv_at hl 0 rfl) ?_
  have hPc := hP.sub (ws' := []) [] rfl
  have hDc := hD.sub (ws' := []) [] (by decide) rfl
  have hKc := hK.sub (tys' := []) [] rfl
  have hFc := va_free (wc := []) hD hS hA [] rfl
  refine va_calli (va_runV (As := []) (rest := []) ⟨hx, hb, hml, hown, hG⟩ (sJ0_isLatin1_aae02_8 l dC dI adK adV s.heap.size) (cwV 0 hG (zgV zv691 zv692 zv693 zv146 zv694) rfl rfl rfl (by decide +kernel) ⟨Nat.le_of_ble_eq_true rfl, Nat.le_of_ble_eq_true rfl⟩) ⟨zPc_blind, vk_recv hZ.2.2.2.1 (i := 8) (by decide) hS, zPc_pre hPc hKc hDc hE hS hFc hZ⟩ rfl rfl hl.1 rfl (lv_room (Nat.le_of_ble_eq_true rfl)) dJ0_charAt_5068e_1 ⟨Nat.le_of_ble_eq_true rfl, Nat.le_of_ble_eq_true rfl⟩) hS (fun q _ h => hFc q h) hFc (fun r1_ u1_ t H1 locs ht hvm hw hB hz1 hk1 hS => ?_)
  replace hw : (1 ≤ r1_.toInt ∧ r1_.toInt ≤ 1) := hw
  have b_ := hw
  obtain rfl : r1_ = (1 : Int32) := zeqi.mpr ((show r1_.toInt = 1 from by omega).trans zk_1.symm)
  obtain ⟨w1_, a1_, b1_, hP1, hK1, hD1⟩ := hB
  rw [ht] at hP1
  obtain ⟨hP, hD⟩ := va_join (wr := []) (w1 := []) hP hD [] [] rfl rfl (by decide) (by decide) hk1 hFc hP1 hD1
  have hP : va_P (dC, dI) vwCl [] H1 := hP.sub [] rfl
  have hD : va_D A [] := hD.sub [] (by decide) rfl
  generalize H1 = H at hP hS ⊢
  clear hz1
  refine lv_if_eq (tgt := 16) hx hb dJ0_charAt_5068e_4 (by decide) (fun c_ => absurd c_ (by decide)) (fun c_ => ?_)
  refine lv_aload_n hx hb dJ0_charAt_5068e_7 rfl (lv_at hl 0 rfl) ?_
  refine vk_getf hx hb (hZ.2.2.2.1.1 8 (by decide)).2.2.1 hS hown (hG _ zv2257) (fun _ h => h) dJ0_charAt_5068e_8 ?_
  refine lv_iload_n hx hb dJ0_charAt_5068e_11 rfl (lv_at hl 1 rfl) ?_
  have hPc := hP.sub (ws' := []) [] rfl
  have hDc := hD.sub (ws' := []) [] (by decide) rfl
  have hKc := hK.sub (tys' := []) [] rfl
  have hFc := va_free (wc := []) hD hS hA [] rfl
  refine va_calli (va_runS (As := [.ref (adV 8), .int x1]) (rest := []) ⟨hx, hb, hml, hown, hG⟩ (sJ1_charAt_3b067_8 l dC dI adK adV H.size x1 (show (0 : Int) ≤ (x1 : Int32).toInt ∧ (x1 : Int32).toInt ≤ (2 : Int) from (by first | with_reducible assumption | exact ⟨by omega, by omega⟩))) (va_cwS 2 hG (zgS zv695 zv696 zv147 zv697) rfl rfl rfl (by decide +kernel) ⟨Nat.le_of_ble_eq_true rfl, Nat.le_of_ble_eq_true rfl⟩) ⟨zPc_blind, zPc_pre hPc hKc hDc hE hS hFc hZ⟩ rfl rfl hl.1 rfl (lv_room (Nat.le_of_ble_eq_true rfl)) dJ0_charAt_5068e_12 ⟨Nat.le_of_ble_eq_true rfl, Nat.le_of_ble_eq_true rfl⟩) hS (fun q _ h => hFc q h) hFc (fun r12_ u12_ t H1 locs ht hvm hw hB hz1 hk1 hS => ?_)
  replace hw : (0 ≤ r12_.toInt ∧ r12_.toInt ≤ 255) ∧ (r12_.toInt = zqCs 8 x1.toInt) := hw
  obtain ⟨b_, hX12_0⟩ := hw
  obtain ⟨w12_, a12_, b12_, hP1, hK1, hD1⟩ := hB
  rw [ht] at hP1
  obtain ⟨hP, hD⟩ := va_join (wr := []) (w1 := []) hP hD [] [] rfl rfl (by decide) (by decide) hk1 hFc hP1 hD1
  have hP : va_P (dC, dI) vwCl [] H1 := hP.sub [] rfl
  have hD : va_D A [] := hD.sub [] (by decide) rfl
  generalize H1 = H at hP hS ⊢
  clear hz1
  refine W.widen (k := 0) (n := 0) (by decide) (by decide) ?_
  have hpost : (0 ≤ r12_.toInt ∧ r12_.toInt ≤ 255) ∧ (r12_.toInt = zqCs 8 x1.toInt) := ⟨(by first | with_reducible assumption | exact ⟨by omega, by omega⟩), by assumption⟩
  have hP9 : va_P (dC, dI) vwCl [] H := hP
  have hD9 : va_D A [] := hD
  exact W.zret (v := r12_) hx hb hr (zn_char ⟨by omega, by omega⟩) (fun t ht hW => ⟨⟨r12_, (fun _ => 0), rfl, hpost, (fun _ => 0), (fun _ => (fun _ => 0)), (fun _ => (fun _ => 0)), by rw [ht]; exact hP9, va_K.moved hW.alike hK, hD9⟩, hS.F ht⟩) hS.2.2 dJ0_charAt_5068e_15
set_option maxHeartbeats 8000000 in
set_option maxRecDepth 100000 in
theorem sX9_spells_1 (l : Launch) (dC : Nat → ClassId) (dI : Nat → Nat → Nat) (adK adV : Nat → Nat) (h0 : Nat) (h1 : Nat) (h2 : Nat) (k1 : ClassId) (sz : Nat) (v0 : Nat → Int32) (f1 : Nat → Int32) (x1 : Int32) (x2 : Int32) (hv0 : zR rg_Tape v0) (hx1 : 0 ≤ x1.toInt ∧ x1.toInt ≤ 600) (hx2 : 0 ≤ x2.toInt ∧ x2.toInt ≤ 601) : Met l yX9_spells (zw yX9_spells cX9_spells 5 (some .boolean)) { frames := 4, cells := 0, slots := 0, locals := 85 } (zPc dC dI adK adV [.ref h0, .int x1, .int x2, .ref (adK 8)] sz [(h0, .inr (9, mX9 h1 h2 v0)), (h1, zi k1 600 f1)] [(k1, .byte)]) (va_Qi (fun (r : Int32) (u : Nat → Int32) => (0 ≤ r.toInt ∧ r.toInt ≤ 1) ∧ (0 ≤ x1.toInt → x1.toInt ≤ 600 → 0 ≤ x2.toInt → x2.toInt ≤ (v0 2).toInt → r.toInt = 1 → zSpl f1 x1.toInt x2.toInt 8 3) ∧ (0 ≤ x1.toInt → x1.toInt ≤ 600 → 0 ≤ x2.toInt → x2.toInt ≤ (v0 2).toInt → r.toInt = 0 → ¬ zSpl f1 x1.toInt x2.toInt 8 3)) (fun (u : Nat → Int32) (t : State) => ∃ (ww : Nat → Int64) (aa : Nat → Nat → Int32) (bb : Nat → Nat → Int64), va_P (dC, dI) vwCl [(h0, .inr (9, mX9 h1 h2 v0)), (h1, zi k1 600 f1)] t.heap ∧ va_K (dC, dI) vwCl [(k1, .byte)] t ∧ va_D (va_A [(h0, .inr (9, mX9 h1 h2 v0)), (h1, zi k1 600 f1)] sz) [(h0, .inr (9, mX9 h1 h2 v0)), (h1, zi k1 600 f1)]) (va_A [(h0, .inr (9, mX9 h1 h2 v0)), (h1, zi k1 600 f1)] sz)) 0 0 (va_A [(h0, .inr (9, mX9 h1 h2 v0)), (h1, zi k1 600 f1)] sz) := by
  refine Met.ofW (cc := cX9_spells) (maxL := 5) (ret := (some .boolean)) (by decide) rfl ?_
  intro p e s m args below meth c s₁ B hml hv
  obtain ⟨rfl, hsz, hP, hK, hD0, hE, hZ⟩ := hv
  have hx := B.exec
  have hb := B.bytes
  have hr := B.returns
  have hG : ∀ w ∈ zG, w.before _ s = true := fun w h => atoms_spec (ws := (zw yX9_spells cX9_spells 5 (some .boolean))) B.pre w (List.mem_cons_of_mem _ h)
  have hown : s.vm.findClass RX9 = some m.cls := findClass_of_methodNamed B.named
  have hlocks := B.notSynchronized

  subst hsz
  have hD := hD0.self (sz := s.heap.size)
  generalize hAe : va_A [(h0, .inr (9, mX9 h1 h2 v0)), (h1, zi k1 600 f1)] s.heap.size = A at hD hZ ⊢
  have hA : ∀ q : Nat, s.heap.size ≤ q → A q := fun q h => by rw [← hAe]; exact Or.inr h
  have hS : va_S A s.heap s.heap [] := va_S.rf
  have hl := lv_entry ([.ref h0, .int x1, .int x2, .ref (adK 8)]) (n := 5) (Nat.le_of_ble_eq_true rfl)
  rw [lg_entry_eq]
  generalize (lg_sl ([.ref h0, .int x1, .int x2, .ref (adK 8)]) ++ List.replicate (5 - (lg_sl ([.ref h0, .int x1, .int x2, .ref (adK 8)])).length) Slot.unset).toArray = ls at hl ⊢
  have hl : lv_has ls 5 [(0, .ref h0), (1, .int x1), (2, .int x2), (3, .ref (adK 8))] := hl
  have b_ := zk_0
  have b_ := zk_1
  have b_ : 0 ≤ (v0 2).toInt ∧ (v0 2).toInt ≤ 600 := hv0 2
  refine lv_iload_n hx hb dX9_spells_0 rfl (lv_at hl 2 rfl) ?_
  refine lv_iload_n hx hb dX9_spells_1 rfl (lv_at hl 1 rfl) ?_
  refine lv_isub hx hb dX9_spells_2 ?_
  refine lv_topi (fun z2 e_z2 => ?_)
  have b_ := zsub rfl rfl e_z2 (by omega) (by omega)
  have b_ : 0 ≤ x1.toInt → x1.toInt ≤ 600 → 0 ≤ x2.toInt → x2.toInt ≤ 600 → z2.toInt = x2.toInt - x1.toInt := fun h1 h2 h3 h4 => zsub rfl rfl e_z2 (by omega) (by omega)
  refine lv_aload_n hx hb dX9_spells_3 rfl (lv_at hl 3 rfl) ?_
  have hPc := hP.sub (ws' := []) [] rfl
  have hDc := hD.sub (ws' := []) [] (by decide) rfl
  have hKc := hK.sub (tys' := []) [] rfl
  have hFc := va_free (wc := []) hD hS hA [] rfl
  refine va_calli (va_runV (As := []) (rest := [.int z2]) ⟨hx, hb, hml, hown, hG⟩ (sJ0_length_8abf5_8 l dC dI adK adV s.heap.size) (cwV 0 hG (zgV zv677 zv678 zv679 zv146 zv680) rfl rfl rfl (by decide +kernel) ⟨Nat.le_of_ble_eq_true rfl, Nat.le_of_ble_eq_true rfl⟩) ⟨zPc_blind, vk_recv hZ.2.2.2.1 (i := 8) (by decide) hS, zPc_pre hPc hKc hDc hE hS hFc hZ⟩ rfl rfl hl.1 rfl (lv_room (Nat.le_of_ble_eq_true rfl)) dX9_spells_4 ⟨Nat.le_of_ble_eq_true rfl, Nat.le_of_ble_eq_true rfl⟩) hS (fun q _ h => hFc q h) hFc (fun r4_ u4_ t H1 locs ht hvm hw hB hz1 hk1 hS => ?_)
  replace hw : (3 ≤ r4_.toInt ∧ r4_.toInt ≤ 3) := hw
  have b_ := hw
  obtain rfl : r4_ = (3 : Int32) := zeqi.mpr ((show r4_.toInt = 3 from by omega).trans zk_3.symm)
  obtain ⟨w4_, a4_, b4_, hP1, hK1, hD1⟩ := hB
  rw [ht] at hP1
  obtain ⟨hP, hD⟩ := va_join (wr := [(h0, .inr (9, mX9 h1 h2 v0)), (h1, zi k1 600 f1)]) (w1 := []) hP hD [] [0, 1] rfl rfl (by decide) (by decide) hk1 hFc hP1 hD1
  have hP : va_P (dC, dI) vwCl [(h0, .inr (9, mX9 h1 h2 v0)), (h1, zi k1 600 f1)] H1 := hP.sub [0, 1] rfl
  have hD : va_D A [(h0, .inr (9, mX9 h1 h2 v0)), (h1, zi k1 600 f1)] := hD.sub [0, 1] (by decide) rfl
  generalize H1 = H at hP hS ⊢
  clear hz1
  refine lv_icmp_ne (tgt := 22) hx hb dX9_spells_7 (by decide) (fun c_ => ?_) (fun c_ => ?_)
  · skip
    have b_ := zT_ne rfl zk_3 c_
    refine lv_iconst (v := 0) hx hb dX9_spells_22 (by decide) ?_
    refine W.widen (k := 0) (n := 0) (by decide) (by decide) ?_
    have hpost : (0 ≤ (0 : Int32).toInt ∧ (0 : Int32).toInt ≤ 1) ∧ (0 ≤ x1.toInt → x1.toInt ≤ 600 → 0 ≤ x2.toInt → x2.toInt ≤ (v0 2).toInt → (0 : Int32).toInt = 1 → zSpl f1 x1.toInt x2.toInt 8 3) ∧ (0 ≤ x1.toInt → x1.toInt ≤ 600 → 0 ≤ x2.toInt → x2.toInt ≤ (v0 2).toInt → (0 : Int32).toInt = 0 → ¬ zSpl f1 x1.toInt x2.toInt 8 3) := ⟨(by first | with_reducible assumption | exact ⟨by omega, by omega⟩), by first | (intro _ _ _ _ q; exact absurd q (by decide)) | exact fun _ _ _ _ _ => ⟨by omega, fun j hj => by have h9 : zSq _ _ _ _ := (by assumption); exact h9 j (by omega)⟩, by first | (intro _ _ _ _ q; exact absurd q (by decide)) | exact fun _ _ _ _ _ => zSpl_n e_z44 e_z47 (by omega) (by omega) (by omega) (by omega) (by omega) | exact fun _ _ _ _ _ q => by have q1 := q.1; omega⟩
    have hP9 : va_P (dC, dI) vwCl [(h0, .inr (9, mX9 h1 h2 v0)), (h1, zi k1 600 f1)] H := hP
    have hD9 : va_D A [(h0, .inr (9, mX9 h1 h2 v0)), (h1, zi k1 600 f1)] := hD
    exact W.zret (v := 0) hx hb hr rfl (fun t ht hW => ⟨⟨0, (fun _ => 0), rfl, hpost, (fun _ => 0), (fun _ => (fun _ => 0)), (fun _ => (fun _ => 0)), by rw [ht]; exact hP9, va_K.moved hW.alike hK, hD9⟩, hS.F ht⟩) hS.2.2 dX9_spells_23
  · skip
    have b_ := zF_ne rfl zk_3 c_
    refine lv_iload_n hx hb dX9_spells_10 rfl (lv_at hl 1 rfl) ?_
    refine lv_if_lt (tgt := 22) hx hb dX9_spells_11 (by decide) (fun c_ => False.elim (by have b_ := zT_lt rfl zk_0 c_; omega)) (fun c_ => ?_)
    have b_ := zF_lt rfl zk_0 c_
    refine lv_iload_n hx hb dX9_spells_14 rfl (lv_at hl 2 rfl) ?_
    refine lv_aload_n hx hb dX9_spells_15 rfl (lv_at hl 0 rfl) ?_
    refine va_get (D := (dC, dI)) (ci := 9) (v := .int (v0 2)) (C := RX9) (T := TX9) (N := 4) hx hb hG zuX9 hown hK hP 0 rfl rfl 2 (by decide) (hG _ zv171) (fun _ h9 => h9) rfl dX9_spells_16 ?_
    refine lv_icmp_le (tgt := 24) hx hb dX9_spells_19 (by decide) (fun c_ => ?_) (fun c_ => ?_)
    · skip
      have b_ := zT_le rfl rfl c_
      refine lv_iconst (v := 0) hx hb dX9_spells_24 (by decide) ?_
      refine lv_istore (lv' := [(4, .int 0), (0, .ref h0), (1, .int x1), (2, .int x2), (3, .ref (adK 8))]) hx hb dX9_spells_25 hl (by decide) rfl (fun ls hl => ?_)
      refine zcutL (fun u27_ => (3 - (u27_ 0).toInt).toNat) (fun H locs ls u27_ w27_ a27_ b27_ => va_P (dC, dI) vwCl [(h0, .inr (9, mX9 h1 h2 v0)), (h1, zi k1 600 f1)] H ∧ va_D A [(h0, .inr (9, mX9 h1 h2 v0)), (h1, zi k1 600 f1)] ∧ va_S A s.heap H locs ∧ lv_has ls 5 [(0, .ref h0), (1, .int x1), (2, .int x2), (3, .ref (adK 8)), (4, .int (u27_ 0))] ∧ (0 ≤ (u27_ 0).toInt ∧ (u27_ 0).toInt ≤ 3) ∧ (0 ≤ x1.toInt) ∧ (x2.toInt ≤ (v0 2).toInt) ∧ (zSq f1 x1.toInt 8 (u27_ 0).toInt)) (fun ls u27_ w27_ => F0 m 27 ls []) 0 0 ?_ (fun hJ27 => ?_)
      · skip
        intro H locs ls u27_ w27_ a27_ b27_ hc hJ27
        obtain ⟨hP, hD, hS, hl, b_, b_, b_, hI27_2⟩ := hc
        refine lv_iload hx hb dX9_spells_27 (lv_at hl 4 rfl) ?_
        refine lv_aload_n hx hb dX9_spells_29 rfl (lv_at hl 3 rfl) ?_
        have hPc := hP.sub (ws' := []) [] rfl
        have hDc := hD.sub (ws' := []) [] (by decide) rfl
        have hKc := hK.sub (tys' := []) [] rfl
        have hFc := va_free (wc := []) hD hS hA [] rfl
        refine va_calli (va_runV (As := []) (rest := [.int (u27_ 0)]) ⟨hx, hb, hml, hown, hG⟩ (sJ0_length_8abf5_8 l dC dI adK adV H.size) (cwV 0 hG (zgV zv677 zv678 zv679 zv146 zv680) rfl rfl rfl (by decide +kernel) ⟨Nat.le_of_ble_eq_true rfl, Nat.le_of_ble_eq_true rfl⟩) ⟨zPc_blind, vk_recv hZ.2.2.2.1 (i := 8) (by decide) hS, zPc_pre hPc hKc hDc hE hS hFc hZ⟩ rfl rfl hl.1 rfl (lv_room (Nat.le_of_ble_eq_true rfl)) dX9_spells_30 ⟨Nat.le_of_ble_eq_true rfl, Nat.le_of_ble_eq_true rfl⟩) hS (fun q _ h => hFc q h) hFc (fun r30_ u30_ t H1 locs ht hvm hw hB hz1 hk1 hS => ?_)
        replace hw : (3 ≤ r30_.toInt ∧ r30_.toInt ≤ 3) := hw
        have b_ := hw
        obtain rfl : r30_ = (3 : Int32) := zeqi.mpr ((show r30_.toInt = 3 from by omega).trans zk_3.symm)
        obtain ⟨w30_, a30_, b30_, hP1, hK1, hD1⟩ := hB
        rw [ht] at hP1
        obtain ⟨hP, hD⟩ := va_join (wr := [(h0, .inr (9, mX9 h1 h2 v0)), (h1, zi k1 600 f1)]) (w1 := []) hP hD [] [0, 1] rfl rfl (by decide) (by decide) hk1 hFc hP1 hD1
        have hP : va_P (dC, dI) vwCl [(h0, .inr (9, mX9 h1 h2 v0)), (h1, zi k1 600 f1)] H1 := hP.sub [0, 1] rfl
        have hD : va_D A [(h0, .inr (9, mX9 h1 h2 v0)), (h1, zi k1 600 f1)] := hD.sub [0, 1] (by decide) rfl
        generalize H1 = H at hP hS ⊢
        clear hz1
        refine lv_icmp_ge (tgt := 65) hx hb dX9_spells_33 (by decide) (fun c_ => ?_) (fun c_ => ?_)
        · skip
          have b_ := zT_ge rfl zk_3 c_
          refine lv_iconst (v := 1) hx hb dX9_spells_65 (by decide) ?_
          refine W.widen (k := 0) (n := 0) (by decide) (by decide) ?_
          have hpost : (0 ≤ (1 : Int32).toInt ∧ (1 : Int32).toInt ≤ 1) ∧ (0 ≤ x1.toInt → x1.toInt ≤ 600 → 0 ≤ x2.toInt → x2.toInt ≤ (v0 2).toInt → (1 : Int32).toInt = 1 → zSpl f1 x1.toInt x2.toInt 8 3) ∧ (0 ≤ x1.toInt → x1.toInt ≤ 600 → 0 ≤ x2.toInt → x2.toInt ≤ (v0 2).toInt → (1 : Int32).toInt = 0 → ¬ zSpl f1 x1.toInt x2.toInt 8 3) := ⟨(by first | with_reducible assumption | exact ⟨by omega, by omega⟩), by first | (intro _ _ _ _ q; exact absurd q (by decide)) | exact fun _ _ _ _ _ => ⟨by omega, fun j hj => by have h9 : zSq _ _ _ _ := (by assumption); exact h9 j (by omega)⟩, by first | (intro _ _ _ _ q; exact absurd q (by decide)) | exact fun _ _ _ _ _ => zSpl_n e_z44 e_z47 (by omega) (by omega) (by omega) (by omega) (by omega) | exact fun _ _ _ _ _ q => by have q1 := q.1; omega⟩
          have hP9 : va_P (dC, dI) vwCl [(h0, .inr (9, mX9 h1 h2 v0)), (h1, zi k1 600 f1)] H := hP
          have hD9 : va_D A [(h0, .inr (9, mX9 h1 h2 v0)), (h1, zi k1 600 f1)] := hD
          exact W.zret (v := 1) hx hb hr rfl (fun t ht hW => ⟨⟨1, (fun _ => 0), rfl, hpost, (fun _ => 0), (fun _ => (fun _ => 0)), (fun _ => (fun _ => 0)), by rw [ht]; exact hP9, va_K.moved hW.alike hK, hD9⟩, hS.F ht⟩) hS.2.2 dX9_spells_66
        · skip
          have b_ := zF_ge rfl zk_3 c_
          refine lv_aload_n hx hb dX9_spells_36 rfl (lv_at hl 0 rfl) ?_
          refine va_get (D := (dC, dI)) (ci := 9) (v := .ref h1) (C := RX9) (T := TX9) (N := 4) hx hb hG zuX9 hown hK hP 0 rfl rfl 0 (by decide) (hG _ zv169) (fun _ h9 => h9) rfl dX9_spells_37 ?_
          refine lv_iload_n hx hb dX9_spells_40 rfl (lv_at hl 1 rfl) ?_
          refine lv_iload hx hb dX9_spells_41 (lv_at hl 4 rfl) ?_
          refine lv_iadd hx hb dX9_spells_43 ?_
          refine lv_topi (fun z43 e_z43 => ?_)
          have b_ := zadd rfl rfl e_z43 (by omega) (by omega)
          refine va_bald hx hb hK hP 1 0 rfl rfl (zin_lit ⟨by omega, by omega⟩) dX9_spells_44 ?_
          refine lv_topi (fun z44 e_z44 => ?_)
          refine lv_bipush (v := 32) hx hb dX9_spells_45 (by decide) ?_
          have b_ : -2147483648 ≤ z44.toInt ∧ z44.toInt ≤ 2147483647 := ⟨zlo _, zhi _⟩
          refine lv_ior hx hb dX9_spells_47 ?_
          refine lv_topi (fun z47 e_z47 => ?_)
          refine lv_aload_n hx hb dX9_spells_48 rfl (lv_at hl 3 rfl) ?_
          refine lv_iload hx hb dX9_spells_49 (lv_at hl 4 rfl) ?_
          have hPc := hP.sub (ws' := []) [] rfl
          have hDc := hD.sub (ws' := []) [] (by decide) rfl
          have hKc := hK.sub (tys' := []) [] rfl
          have hFc := va_free (wc := []) hD hS hA [] rfl
          refine va_calli (va_runV (As := [.int (u27_ 0)]) (rest := [.int z47]) ⟨hx, hb, hml, hown, hG⟩ (sJ0_charAt_5068e_8 l dC dI adK adV H.size (u27_ 0) (show (0 : Int) ≤ ((u27_ 0) : Int32).toInt ∧ ((u27_ 0) : Int32).toInt ≤ (2 : Int) from (by first | with_reducible assumption | exact ⟨by omega, by omega⟩))) (cwV 1 hG (zgV zv687 zv688 zv689 zv146 zv690) rfl rfl rfl (by decide +kernel) ⟨Nat.le_of_ble_eq_true rfl, Nat.le_of_ble_eq_true rfl⟩) ⟨zPc_blind, vk_recv hZ.2.2.2.1 (i := 8) (by decide) hS, zPc_pre hPc hKc hDc hE hS hFc hZ⟩ rfl rfl hl.1 rfl (lv_room (Nat.le_of_ble_eq_true rfl)) dX9_spells_51 ⟨Nat.le_of_ble_eq_true rfl, Nat.le_of_ble_eq_true rfl⟩) hS (fun q _ h => hFc q h) hFc (fun r51_ u51_ t H1 locs ht hvm hw hB hz1 hk1 hS => ?_)
          replace hw : (0 ≤ r51_.toInt ∧ r51_.toInt ≤ 255) ∧ (r51_.toInt = zqCs 8 (u27_ 0).toInt) := hw
          obtain ⟨b_, hX51_0⟩ := hw
          obtain ⟨w51_, a51_, b51_, hP1, hK1, hD1⟩ := hB
          rw [ht] at hP1
          obtain ⟨hP, hD⟩ := va_join (wr := [(h0, .inr (9, mX9 h1 h2 v0)), (h1, zi k1 600 f1)]) (w1 := []) hP hD [] [0, 1] rfl rfl (by decide) (by decide) hk1 hFc hP1 hD1
          have hP : va_P (dC, dI) vwCl [(h0, .inr (9, mX9 h1 h2 v0)), (h1, zi k1 600 f1)] H1 := hP.sub [0, 1] rfl
          have hD : va_D A [(h0, .inr (9, mX9 h1 h2 v0)), (h1, zi k1 600 f1)] := hD.sub [0, 1] (by decide) rfl
          generalize H1 = H at hP hS ⊢
          clear hz1
          have b_ : -2147483648 ≤ z47.toInt ∧ z47.toInt ≤ 2147483647 := ⟨zlo _, zhi _⟩
          refine lv_icmp_eq (tgt := 59) hx hb dX9_spells_54 (by decide) (fun c_ => ?_) (fun c_ => ?_)
          · skip
            have b_ := zT_eq rfl rfl c_
            obtain ⟨z59, e_z59⟩ : ∃ z : Int32, z = (u27_ 0) + Int32.ofInt 1 := ⟨_, rfl⟩
            have b_ := zadd (x := (u27_ 0)) (y := Int32.ofInt 1) rfl (show (Int32.ofInt 1).toInt = 1 from by decide) e_z59 (by omega) (by omega)
            refine lv_iinc (v := z59) (lv' := [(4, .int z59), (0, .ref h0), (1, .int x1), (2, .int x2), (3, .ref (adK 8))]) hx hb dX9_spells_59 hl (k := 4) rfl e_z59.symm (by decide) rfl (fun ls hl => ?_)
            refine lv_goto (tgt := 27) hx hb dX9_spells_62 (by decide) ?_
            have hc : va_P (dC, dI) vwCl [(h0, .inr (9, mX9 h1 h2 v0)), (h1, zi k1 600 f1)] H ∧ va_D A [(h0, .inr (9, mX9 h1 h2 v0)), (h1, zi k1 600 f1)] ∧ va_S A s.heap H locs ∧ lv_has ls 5 [(0, .ref h0), (1, .int x1), (2, .int x2), (3, .ref (adK 8)), (4, .int z59)] ∧ (0 ≤ z59.toInt ∧ z59.toInt ≤ 3) ∧ (0 ≤ x1.toInt) ∧ (x2.toInt ≤ (v0 2).toInt) ∧ (zSq f1 x1.toInt 8 z59.toInt) := ⟨hP, hD, hS, lv_sub hl [1, 2, 3, 4, 0] rfl, (by first | with_reducible assumption | exact ⟨by omega, by omega⟩), by omega, by omega, by first | exact zSq_0 (by omega) | exact zSq_s (by assumption) e_z44 e_z47 (by omega) (by omega) (by omega) (by omega) (by omega)⟩
            exact hJ27 H locs ls (fun i => ([z59] : List (Int32)).getD i 0) (fun _ => 0) (fun _ => (fun _ => 0)) (fun _ => (fun _ => 0)) hc (show (3 - z59.toInt).toNat < (3 - (u27_ 0).toInt).toNat from by omega)
          · skip
            have b_ := zF_eq rfl rfl c_
            refine lv_iconst (v := 0) hx hb dX9_spells_57 (by decide) ?_
            refine W.widen (k := 0) (n := 0) (by decide) (by decide) ?_
            have hpost : (0 ≤ (0 : Int32).toInt ∧ (0 : Int32).toInt ≤ 1) ∧ (0 ≤ x1.toInt → x1.toInt ≤ 600 → 0 ≤ x2.toInt → x2.toInt ≤ (v0 2).toInt → (0 : Int32).toInt = 1 → zSpl f1 x1.toInt x2.toInt 8 3) ∧ (0 ≤ x1.toInt → x1.toInt ≤ 600 → 0 ≤ x2.toInt → x2.toInt ≤ (v0 2).toInt → (0 : Int32).toInt = 0 → ¬ zSpl f1 x1.toInt x2.toInt 8 3) := ⟨(by first | with_reducible assumption | exact ⟨by omega, by omega⟩), by first | (intro _ _ _ _ q; exact absurd q (by decide)) | exact fun _ _ _ _ _ => ⟨by omega, fun j hj => by have h9 : zSq _ _ _ _ := (by assumption); exact h9 j (by omega)⟩, by first | (intro _ _ _ _ q; exact absurd q (by decide)) | exact fun _ _ _ _ _ => zSpl_n e_z44 e_z47 (by omega) (by omega) (by omega) (by omega) (by omega) | exact fun _ _ _ _ _ q => by have q1 := q.1; omega⟩
            have hP9 : va_P (dC, dI) vwCl [(h0, .inr (9, mX9 h1 h2 v0)), (h1, zi k1 600 f1)] H := hP
            have hD9 : va_D A [(h0, .inr (9, mX9 h1 h2 v0)), (h1, zi k1 600 f1)] := hD
            exact W.zret (v := 0) hx hb hr rfl (fun t ht hW => ⟨⟨0, (fun _ => 0), rfl, hpost, (fun _ => 0), (fun _ => (fun _ => 0)), (fun _ => (fun _ => 0)), by rw [ht]; exact hP9, va_K.moved hW.alike hK, hD9⟩, hS.F ht⟩) hS.2.2 dX9_spells_58
      · skip
        have hc : va_P (dC, dI) vwCl [(h0, .inr (9, mX9 h1 h2 v0)), (h1, zi k1 600 f1)] H ∧ va_D A [(h0, .inr (9, mX9 h1 h2 v0)), (h1, zi k1 600 f1)] ∧ va_S A s.heap H locs ∧ lv_has ls 5 [(0, .ref h0), (1, .int x1), (2, .int x2), (3, .ref (adK 8)), (4, .int 0)] ∧ (0 ≤ (0 : Int32).toInt ∧ (0 : Int32).toInt ≤ 3) ∧ (0 ≤ x1.toInt) ∧ (x2.toInt ≤ (v0 2).toInt) ∧ (zSq f1 x1.toInt 8 (0 : Int32).toInt) := ⟨hP, hD, hS, lv_sub hl [1, 2, 3, 4, 0] rfl, (by first | with_reducible assumption | exact ⟨by omega, by omega⟩), by omega, by omega, by first | exact zSq_0 (by omega) | exact zSq_s (by assumption) e_z44 e_z47 (by omega) (by omega) (by omega) (by omega) (by omega)⟩
        exact hJ27 H locs ls (fun i => ([0] : List (Int32)).getD i 0) (fun _ => 0) (fun _ => (fun _ => 0)) (fun _ => (fun _ => 0)) hc
    · skip
      have b_ := zF_le rfl rfl c_
      refine lv_iconst (v := 0) hx hb dX9_spells_22 (by decide) ?_
      refine W.widen (k := 0) (n := 0) (by decide) (by decide) ?_
      have hpost : (0 ≤ (0 : Int32).toInt ∧ (0 : Int32).toInt ≤ 1) ∧ (0 ≤ x1.toInt → x1.toInt ≤ 600 → 0 ≤ x2.toInt → x2.toInt ≤ (v0 2).toInt → (0 : Int32).toInt = 1 → zSpl f1 x1.toInt x2.toInt 8 3) ∧ (0 ≤ x1.toInt → x1.toInt ≤ 600 → 0 ≤ x2.toInt → x2.toInt ≤ (v0 2).toInt → (0 : Int32).toInt = 0 → ¬ zSpl f1 x1.toInt x2.toInt 8 3) := ⟨(by first | with_reducible assumption | exact ⟨by omega, by omega⟩), by first | (intro _ _ _ _ q; exact absurd q (by decide)) | exact fun _ _ _ _ _ => ⟨by omega, fun j hj => by have h9 : zSq _ _ _ _ := (by assumption); exact h9 j (by omega)⟩, by first | (intro _ _ _ _ q; exact absurd q (by decide)) | exact fun _ _ _ _ _ => zSpl_n e_z44 e_z47 (by omega) (by omega) (by omega) (by omega) (by omega) | exact fun _ _ _ _ _ q => by have q1 := q.1; omega⟩
      have hP9 : va_P (dC, dI) vwCl [(h0, .inr (9, mX9 h1 h2 v0)), (h1, zi k1 600 f1)] H := hP
      have hD9 : va_D A [(h0, .inr (9, mX9 h1 h2 v0)), (h1, zi k1 600 f1)] := hD
      exact W.zret (v := 0) hx hb hr rfl (fun t ht hW => ⟨⟨0, (fun _ => 0), rfl, hpost, (fun _ => 0), (fun _ => (fun _ => 0)), (fun _ => (fun _ => 0)), by rw [ht]; exact hP9, va_K.moved hW.alike hK, hD9⟩, hS.F ht⟩) hS.2.2 dX9_spells_23
