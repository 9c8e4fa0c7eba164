set_option maxHeartbeats 8000000 in
set_option maxRecDepth 100000 in
theorem sX0_wordsOf_0 (l : Launch) (dC : Nat → ClassId) (dI : Nat → Nat → Nat) (adK adV : Nat → Nat) (h0 : Nat) (h4 : Nat) (h1 : Nat) (h2 : Nat) (h3 : Nat) (k4 : ClassId) (sz : Nat) (v0 : Nat → Int32) (f4 : Nat → Int32) (x1 : Int32) (hv0 : zR rg_Documents v0) : Met l yX0_wordsOf (zw yX0_wordsOf cX0_wordsOf 2 (some .int)) { frames := 1, cells := 0, slots := 0, locals := 21 } (zPc dC dI adK adV [.ref h0, .int x1] sz [(h0, .inr (0, mX0 h1 h2 h3 h4 v0)), (h4, zi k4 120 f4)] [(k4, .int)]) (va_Qi (fun (r : Int32) (u : Nat → Int32) => True) (fun (u : Nat → Int32) (t : State) => ∃ (ww : Nat → Int64) (aa : Nat → Nat → Int32) (bb : Nat → Nat → Int64), va_P (dC, dI) vwCl [(h0, .inr (0, mX0 h1 h2 h3 h4 v0)), (h4, zi k4 120 f4)] t.heap ∧ va_K (dC, dI) vwCl [(k4, .int)] t ∧ va_D (va_A [(h0, .inr (0, mX0 h1 h2 h3 h4 v0)), (h4, zi k4 120 f4)] sz) [(h0, .inr (0, mX0 h1 h2 h3 h4 v0)), (h4, zi k4 120 f4)]) (va_A [(h0, .inr (0, mX0 h1 h2 h3 h4 v0)), (h4, zi k4 120 f4)] sz)) 0 0 (va_A [(h0, .inr (0, mX0 h1 h2 h3 h4 v0)), (h4, zi k4 120 f4)] sz) := by
  refine Met.ofW (cc := cX0_wordsOf) (maxL := 2) (ret := (some .int)) (by decide) rfl ?_
  intro p e s m args below meth c s₁ B hml hv
  obtain ⟨rfl, hsz, hP, hK, hD0, hE, hZ⟩ := hv
  have hx := B.exec
  have hb := B.bytes
  have hr := B.returns
  have hG : ∀ w ∈ zG, w.before _ s = true := fun w h => atoms_spec (ws := (zw yX0_wordsOf cX0_wordsOf 2 (some .int))) B.pre w (List.mem_cons_of_mem _ h)
  have hown : s.vm.findClass RX0 = some m.cls := findClass_of_methodNamed B.named
  have hlocks := B.notSynchronized

  subst hsz
  have hD := hD0.self (sz := s.heap.size)
  generalize hAe : va_A [(h0, .inr (0, mX0 h1 h2 h3 h4 v0)), (h4, zi k4 120 f4)] s.heap.size = A at hD hZ ⊢
  have hA : ∀ q : Nat, s.heap.size ≤ q → A q := fun q h => by rw [← hAe]; exact Or.inr h
  have hS : va_S A s.heap s.heap [] := va_S.rf
  have hl := lv_entry ([.ref h0, .int x1]) (n := 2) (Nat.le_of_ble_eq_true rfl)
  rw [lg_entry_eq]
  generalize (lg_sl ([.ref h0, .int x1]) ++ List.replicate (2 - (lg_sl ([.ref h0, .int x1])).length) Slot.unset).toArray = ls at hl ⊢
  have hl : lv_has ls 2 [(0, .ref h0), (1, .int x1)] := hl
  refine lv_aload_n hx hb dX0_wordsOf_0 rfl (lv_at hl 0 rfl) ?_
  refine lv_iload_n hx hb dX0_wordsOf_1 rfl (lv_at hl 1 rfl) ?_
  have hPc := hP.sub (ws' := [(h0, .inr (0, mX0 h1 h2 h3 h4 v0))]) [0] rfl
  have hDc := hD.sub (ws' := [(h0, .inr (0, mX0 h1 h2 h3 h4 v0))]) [0] (by decide) rfl
  have hKc := hK.sub (tys' := []) [] rfl
  have hFc := va_free (wc := [(h0, .inr (0, mX0 h1 h2 h3 h4 v0))]) hD hS hA [0] rfl
  refine va_calli (va_runV (As := [.int x1]) (rest := []) ⟨hx, hb, hml, hown, hG⟩ (sX0_came_0 l dC dI adK adV h0 h1 h2 h3 h4 s.heap.size v0 x1 hv0) (cwV 1 hG (zgV zv875 zv876 zv877 zv132 zv878) rfl rfl rfl (by decide +kernel) ⟨Nat.le_of_ble_eq_true rfl, Nat.le_of_ble_eq_true rfl⟩) ⟨zPc_blind, va_recv hKc hPc (ci := 0) (q0 := 0) rfl rfl, zPc_pre hPc hKc hDc hE hS hFc hZ⟩ rfl rfl hl.1 rfl (lv_room (Nat.le_of_ble_eq_true rfl)) dX0_wordsOf_2 ⟨Nat.le_of_ble_eq_true rfl, Nat.le_of_ble_eq_true rfl⟩) hS (fun q _ h => hFc q h) hFc (fun r2_ u2_ t H1 locs ht hvm hw hB hz1 hk1 hS => ?_)
  replace hw : (0 ≤ r2_.toInt ∧ r2_.toInt ≤ 1) ∧ (r2_.toInt = 1 → (0 ≤ x1.toInt ∧ x1.toInt ≤ 119)) ∧ (r2_.toInt = 1 → x1.toInt < (v0 4).toInt) ∧ (r2_.toInt = 0 → x1.toInt < 0 ∨ (v0 4).toInt ≤ x1.toInt) := hw
  obtain ⟨b_, hX2_0, hX2_1, hX2_2⟩ := hw
  obtain ⟨w2_, a2_, b2_, hP1, hK1, hD1⟩ := hB
  rw [ht] at hP1
  obtain ⟨hP, hD⟩ := va_join (wr := [(h4, zi k4 120 f4)]) (w1 := [(h0, .inr (0, mX0 h1 h2 h3 h4 v0))]) hP hD [0] [1] rfl rfl (by decide) (by decide) hk1 hFc hP1 hD1
  have hP : va_P (dC, dI) vwCl [(h0, .inr (0, mX0 h1 h2 h3 h4 v0)), (h4, zi k4 120 f4)] H1 := hP.sub [1, 0] rfl
  have hD : va_D A [(h0, .inr (0, mX0 h1 h2 h3 h4 v0)), (h4, zi k4 120 f4)] := hD.sub [1, 0] (by decide) rfl
  generalize H1 = H at hP hS ⊢
  clear hz1
  refine lv_if_eq (tgt := 17) hx hb dX0_wordsOf_5 (by decide) (fun c_ => ?_) (fun c_ => ?_)
  · skip
    have b_ := zT_eq rfl zk_0 c_
    refine lv_iconst (v := 0) hx hb dX0_wordsOf_17 (by decide) ?_
    refine W.widen (k := 0) (n := 0) (by decide) (by decide) ?_
    have hpost : True := trivial
    have hP9 : va_P (dC, dI) vwCl [(h0, .inr (0, mX0 h1 h2 h3 h4 v0)), (h4, zi k4 120 f4)] H := hP
    have hD9 : va_D A [(h0, .inr (0, mX0 h1 h2 h3 h4 v0)), (h4, zi k4 120 f4)] := hD
    exact W.iret (v := 0) hx hb hr (fun t ht hW => ⟨⟨0, (fun _ => 0), rfl, hpost, (fun _ => 0), (fun _ => (fun _ => 0)), (fun _ => (fun _ => 0)), by rw [ht]; exact hP9, va_K.moved hW.alike hK, hD9⟩, hS.F ht⟩) hS.2.2 dX0_wordsOf_18
  · skip
    have b_ := zF_eq rfl zk_0 c_
    refine lv_aload_n hx hb dX0_wordsOf_8 rfl (lv_at hl 0 rfl) ?_
    refine va_get (D := (dC, dI)) (ci := 0) (v := .ref h4) (C := RX0) (T := TX0) (N := 6) hx hb hG zuX0 hown hK hP 0 rfl rfl 3 (by decide) (hG _ zv225) (fun _ h9 => h9) rfl dX0_wordsOf_9 ?_
    refine lv_iload_n hx hb dX0_wordsOf_12 rfl (lv_at hl 1 rfl) ?_
    refine va_iald hx hb hK hP 1 0 rfl rfl (zin_lit ⟨by omega, by omega⟩) dX0_wordsOf_13 ?_
    refine lv_topi (fun z13 e_z13 => ?_)
    refine lv_goto (tgt := 18) hx hb dX0_wordsOf_14 (by decide) ?_
    refine W.widen (k := 0) (n := 0) (by decide) (by decide) ?_
    have b_ : -2147483648 ≤ z13.toInt ∧ z13.toInt ≤ 2147483647 := ⟨zlo _, zhi _⟩
    have hpost : True := trivial
    have hP9 : va_P (dC, dI) vwCl [(h0, .inr (0, mX0 h1 h2 h3 h4 v0)), (h4, zi k4 120 f4)] H := hP
    have hD9 : va_D A [(h0, .inr (0, mX0 h1 h2 h3 h4 v0)), (h4, zi k4 120 f4)] := hD
    exact W.iret (v := z13) hx hb hr (fun t ht hW => ⟨⟨z13, (fun _ => 0), rfl, hpost, (fun _ => 0), (fun _ => (fun _ => 0)), (fun _ => (fun _ => 0)), by rw [ht]; exact hP9, va_K.moved hW.alike hK, hD9⟩, hS.F ht⟩) hS.2.2 dX0_wordsOf_18
set_option maxHeartbeats 8000000 in
set_option maxRecDepth 100000 in
theorem sX11_document_0 (l : Launch) (hl0 : l.stackTraces = false) (dC : Nat → ClassId) (dI : Nat → Nat → Nat) (adK adV : Nat → Nat) (h0 : Nat) (h18 : Nat) (h19 : Nat) (h20 : Nat) (h21 : Nat) (h22 : Nat) (h1 : Nat) (h4 : Nat) (h11 : Nat) (h23 : Nat) (h32 : Nat) (h33 : Nat) (h40 : Nat) (h48 : Nat) (h49 : Nat) (k19 : ClassId) (k20 : ClassId) (k21 : ClassId) (k22 : ClassId) (sz : Nat) (sp0 : Value) (lw0 : Int64) (v18 : Nat → Int32) (f19 : Nat → Int32) (f20 : Nat → Int32) (f21 : Nat → Int32) (f22 : Nat → Int32) (x1 : Int32) (x2 : Int32) (hv18 : zR rg_Documents v18) (hf20 : zA 0 300 f20) : vx_Met l yX11_document (zw yX11_document cX11_document 3 (some .int)) { frames := 8, cells := 1, slots := 6, locals := 120 } (zPc dC dI adK adV [.ref h0, .int x1, .int x2] sz [(h0, .inr (11, mX11 h1 h4 h11 h18 h23 h32 h33 h40 h48 h49 sp0 lw0)), (h18, .inr (0, mX0 h19 h20 h21 h22 v18)), (h19, zi k19 120 f19), (h20, zi k20 120 f20), (h21, zi k21 120 f21), (h22, zi k22 120 f22)] [(k19, .boolean), (k20, .int), (k21, .int), (k22, .int)]) (va_Qi (fun (r : Int32) (u : Nat → Int32) => True) (fun (u : Nat → Int32) (t : State) => ∃ (ww : Nat → Int64) (aa : Nat → Nat → Int32) (bb : Nat → Nat → Int64), va_P (dC, dI) vwCl [(h0, .inr (11, mX11 h1 h4 h11 h18 h23 h32 h33 h40 h48 h49 sp0 lw0)), (h18, .inr (0, mX0 h19 h20 h21 h22 v18)), (h19, zi k19 120 f19), (h20, zi k20 120 f20), (h21, zi k21 120 f21), (h22, zi k22 120 f22)] t.heap ∧ va_K (dC, dI) vwCl [(k19, .boolean), (k20, .int), (k21, .int), (k22, .int)] t ∧ va_D (va_A [(h0, .inr (11, mX11 h1 h4 h11 h18 h23 h32 h33 h40 h48 h49 sp0 lw0)), (h18, .inr (0, mX0 h19 h20 h21 h22 v18)), (h19, zi k19 120 f19), (h20, zi k20 120 f20), (h21, zi k21 120 f21), (h22, zi k22 120 f22)] sz) [(h0, .inr (11, mX11 h1 h4 h11 h18 h23 h32 h33 h40 h48 h49 sp0 lw0)), (h18, .inr (0, mX0 h19 h20 h21 h22 v18)), (h19, zi k19 120 f19), (h20, zi k20 120 f20), (h21, zi k21 120 f21), (h22, zi k22 120 f22)]) (va_A [(h0, .inr (11, mX11 h1 h4 h11 h18 h23 h32 h33 h40 h48 h49 sp0 lw0)), (h18, .inr (0, mX0 h19 h20 h21 h22 v18)), (h19, zi k19 120 f19), (h20, zi k20 120 f20), (h21, zi k21 120 f21), (h22, zi k22 120 f22)] sz)) (vx_X (fun (u : Nat → Int32) => True) (fun (E : String) (u : Nat → Int32) (t : State) => E = "java/lang/IndexOutOfBoundsException" ∧ ∃ (ww : Nat → Int64) (aa : Nat → Nat → Int32) (bb : Nat → Nat → Int64), va_P (dC, dI) vwCl [(h0, .inr (11, mX11 h1 h4 h11 h18 h23 h32 h33 h40 h48 h49 sp0 lw0)), (h18, .inr (0, mX0 h19 h20 h21 h22 v18)), (h19, zi k19 120 f19), (h20, zi k20 120 f20), (h21, zi k21 120 f21), (h22, zi k22 120 f22)] t.heap ∧ va_K (dC, dI) vwCl [(k19, .boolean), (k20, .int), (k21, .int), (k22, .int)] t ∧ va_D (va_A [(h0, .inr (11, mX11 h1 h4 h11 h18 h23 h32 h33 h40 h48 h49 sp0 lw0)), (h18, .inr (0, mX0 h19 h20 h21 h22 v18)), (h19, zi k19 120 f19), (h20, zi k20 120 f20), (h21, zi k21 120 f21), (h22, zi k22 120 f22)] sz) [(h0, .inr (11, mX11 h1 h4 h11 h18 h23 h32 h33 h40 h48 h49 sp0 lw0)), (h18, .inr (0, mX0 h19 h20 h21 h22 v18)), (h19, zi k19 120 f19), (h20, zi k20 120 f20), (h21, zi k21 120 f21), (h22, zi k22 120 f22)]) (va_A [(h0, .inr (11, mX11 h1 h4 h11 h18 h23 h32 h33 h40 h48 h49 sp0 lw0)), (h18, .inr (0, mX0 h19 h20 h21 h22 v18)), (h19, zi k19 120 f19), (h20, zi k20 120 f20), (h21, zi k21 120 f21), (h22, zi k22 120 f22)] sz)) 1 6 (va_A [(h0, .inr (11, mX11 h1 h4 h11 h18 h23 h32 h33 h40 h48 h49 sp0 lw0)), (h18, .inr (0, mX0 h19 h20 h21 h22 v18)), (h19, zi k19 120 f19), (h20, zi k20 120 f20), (h21, zi k21 120 f21), (h22, zi k22 120 f22)] sz) := by
  refine vx_ofW (cc := cX11_document) (maxL := 3) (ret := (some .int)) (by decide) rfl ?_
  intro p e s m args below meth c s₁ B hml hout hv
  obtain ⟨rfl, hsz, hP, hK, hD0, hE, hZ⟩ := hv
  have hx := B.exec
  have hb := B.bytes
  have hr := B.returns
  have hG : ∀ w ∈ zG, w.before _ s = true := fun w h => atoms_spec (ws := (zw yX11_document cX11_document 3 (some .int))) B.pre w (List.mem_cons_of_mem _ h)
  have hown : s.vm.findClass RX11 = some m.cls := findClass_of_methodNamed B.named
  have hlocks := B.notSynchronized

  subst hsz
  have hD := hD0.self (sz := s.heap.size)
  generalize hAe : va_A [(h0, .inr (11, mX11 h1 h4 h11 h18 h23 h32 h33 h40 h48 h49 sp0 lw0)), (h18, .inr (0, mX0 h19 h20 h21 h22 v18)), (h19, zi k19 120 f19), (h20, zi k20 120 f20), (h21, zi k21 120 f21), (h22, zi k22 120 f22)] s.heap.size = A at hD hZ ⊢
  have hA : ∀ q : Nat, s.heap.size ≤ q → A q := fun q h => by rw [← hAe]; exact Or.inr h
  have hS : va_S A s.heap s.heap [] := va_S.rf
  have hl := lv_entry ([.ref h0, .int x1, .int x2]) (n := 3) (Nat.le_of_ble_eq_true rfl)
  rw [lg_entry_eq]
  generalize (lg_sl ([.ref h0, .int x1, .int x2]) ++ List.replicate (3 - (lg_sl ([.ref h0, .int x1, .int x2])).length) Slot.unset).toArray = ls at hl ⊢
  have hl : lv_has ls 3 [(0, .ref h0), (1, .int x1), (2, .int x2)] := hl
  have b_ := zk_0
  have b_ := zk_1
  have b_ := zk_2
  have b_ := zk_3
  refine lv_aload_n hx hb dX11_document_0 rfl (lv_at hl 0 rfl) ?_
  refine va_get (D := (dC, dI)) (ci := 11) (v := .ref h18) (C := RX11) (T := TX11) (N := 12) hx hb hG zuX11 hown hK hP 0 rfl rfl 3 (by decide) (hG _ zv560) (fun _ h9 => h9) rfl dX11_document_1 ?_
  refine lv_iload_n hx hb dX11_document_4 rfl (lv_at hl 1 rfl) ?_
  have hPc := hP.sub (ws' := [(h18, .inr (0, mX0 h19 h20 h21 h22 v18))]) [1] rfl
  have hDc := hD.sub (ws' := [(h18, .inr (0, mX0 h19 h20 h21 h22 v18))]) [1] (by decide) rfl
  have hKc := hK.sub (tys' := []) [] rfl
  have hFc := va_free (wc := [(h18, .inr (0, mX0 h19 h20 h21 h22 v18))]) hD hS hA [1] rfl
  refine va_calli (va_runV (As := [.int x1]) (rest := []) ⟨hx, hb, hml, hown, hG⟩ (sX0_came_0 l dC dI adK adV h18 h19 h20 h21 h22 s.heap.size v18 x1 hv18) (cwV 1 hG (zgV zv1410 zv876 zv877 zv132 zv878) rfl rfl rfl (by decide +kernel) ⟨Nat.le_of_ble_eq_true rfl, Nat.le_of_ble_eq_true rfl⟩) ⟨zPc_blind, va_recv hKc hPc (ci := 0) (q0 := 0) rfl rfl, zPc_pre hPc hKc hDc hE hS hFc hZ⟩ rfl rfl hl.1 rfl (lv_room (Nat.le_of_ble_eq_true rfl)) dX11_document_5 ⟨Nat.le_of_ble_eq_true rfl, Nat.le_of_ble_eq_true rfl⟩) hS (fun q _ h => hFc q h) hFc (fun r5_ u5_ t H1 locs ht hvm hw hB hz1 hk1 hS => ?_)
  replace hw : (0 ≤ r5_.toInt ∧ r5_.toInt ≤ 1) ∧ (r5_.toInt = 1 → (0 ≤ x1.toInt ∧ x1.toInt ≤ 119)) ∧ (r5_.toInt = 1 → x1.toInt < (v18 4).toInt) ∧ (r5_.toInt = 0 → x1.toInt < 0 ∨ (v18 4).toInt ≤ x1.toInt) := hw
  obtain ⟨b_, hX5_0, hX5_1, hX5_2⟩ := hw
  obtain ⟨w5_, a5_, b5_, hP1, hK1, hD1⟩ := hB
  rw [ht] at hP1
  obtain ⟨hP, hD⟩ := va_join (wr := [(h0, .inr (11, mX11 h1 h4 h11 h18 h23 h32 h33 h40 h48 h49 sp0 lw0)), (h19, zi k19 120 f19), (h20, zi k20 120 f20), (h21, zi k21 120 f21), (h22, zi k22 120 f22)]) (w1 := [(h18, .inr (0, mX0 h19 h20 h21 h22 v18))]) hP hD [1] [0, 2, 3, 4, 5] rfl rfl (by decide) (by decide) hk1 hFc hP1 hD1
  have hP : va_P (dC, dI) vwCl [(h0, .inr (11, mX11 h1 h4 h11 h18 h23 h32 h33 h40 h48 h49 sp0 lw0)), (h18, .inr (0, mX0 h19 h20 h21 h22 v18)), (h19, zi k19 120 f19), (h20, zi k20 120 f20), (h21, zi k21 120 f21), (h22, zi k22 120 f22)] H1 := hP.sub [0, 5, 1, 2, 3, 4] rfl
  have hD : va_D A [(h0, .inr (11, mX11 h1 h4 h11 h18 h23 h32 h33 h40 h48 h49 sp0 lw0)), (h18, .inr (0, mX0 h19 h20 h21 h22 v18)), (h19, zi k19 120 f19), (h20, zi k20 120 f20), (h21, zi k21 120 f21), (h22, zi k22 120 f22)] := hD.sub [0, 5, 1, 2, 3, 4] (by decide) rfl
  generalize H1 = H at hP hS ⊢
  clear hz1
  refine lv_if_ne (tgt := 21) hx hb dX11_document_8 (by decide) (fun c_ => ?_) (fun c_ => ?_)
  · skip
    have b_ := zT_ne rfl zk_0 c_
    refine lv_iload_n hx hb dX11_document_21 rfl (lv_at hl 2 rfl) ?_
    rcases Classical.em (x2 = (0 : Int32)) with c_ | c_
    · skip
      have b_ : x2.toInt = 0 := by rw [c_]; exact zk_0
      refine lv_tableIn (off := 30) (tgt := 52) hx hb dX11_document_22 (by omega) (by omega) (by rw [b_]; decide) (by decide) ?_
      refine lv_aload_n hx hb dX11_document_52 rfl (lv_at hl 0 rfl) ?_
      refine va_get (D := (dC, dI)) (ci := 11) (v := .ref h18) (C := RX11) (T := TX11) (N := 12) hx hb hG zuX11 hown hK hP 0 rfl rfl 3 (by decide) (hG _ zv560) (fun _ h9 => h9) rfl dX11_document_53 ?_
      refine lv_iload_n hx hb dX11_document_56 rfl (lv_at hl 1 rfl) ?_
      have hPc := hP.sub (ws' := [(h18, .inr (0, mX0 h19 h20 h21 h22 v18)), (h19, zi k19 120 f19)]) [1, 2] rfl
      have hDc := hD.sub (ws' := [(h18, .inr (0, mX0 h19 h20 h21 h22 v18)), (h19, zi k19 120 f19)]) [1, 2] (by decide) rfl
      have hKc := hK.sub (tys' := [(k19, .boolean)]) [0] rfl
      have hFc := va_free (wc := [(h18, .inr (0, mX0 h19 h20 h21 h22 v18)), (h19, zi k19 120 f19)]) hD hS hA [1, 2] rfl
      refine va_calli (va_runV (As := [.int x1]) (rest := []) ⟨hx, hb, hml, hown, hG⟩ (sX0_isOn_0 l dC dI adK adV h18 h19 h20 h21 h22 k19 H.size v18 f19 x1 hv18) (cwV 1 hG (zgV zv1477 zv872 zv873 zv132 zv874) rfl rfl rfl (by decide +kernel) ⟨Nat.le_of_ble_eq_true rfl, Nat.le_of_ble_eq_true rfl⟩) ⟨zPc_blind, va_recv hKc hPc (ci := 0) (q0 := 0) rfl rfl, zPc_pre hPc hKc hDc hE hS hFc hZ⟩ rfl rfl hl.1 rfl (lv_room (Nat.le_of_ble_eq_true rfl)) dX11_document_57 ⟨Nat.le_of_ble_eq_true rfl, Nat.le_of_ble_eq_true rfl⟩) hS (fun q _ h => hFc q h) hFc (fun r57_ u57_ t H1 locs ht hvm hw hB hz1 hk1 hS => ?_)
      replace hw : (0 ≤ r57_.toInt ∧ r57_.toInt ≤ 1) ∧ (r57_.toInt = 1 → (0 ≤ x1.toInt ∧ x1.toInt ≤ 119)) ∧ (r57_.toInt = 1 → x1.toInt < (v18 4).toInt) ∧ (zIo f19 (v18 4).toInt (x1 : Int32) r57_.toInt) := hw
      obtain ⟨b_, hX57_0, hX57_1, hX57_2⟩ := hw
      obtain ⟨w57_, a57_, b57_, hP1, hK1, hD1⟩ := hB
      rw [ht] at hP1
      obtain ⟨hP, hD⟩ := va_join (wr := [(h0, .inr (11, mX11 h1 h4 h11 h18 h23 h32 h33 h40 h48 h49 sp0 lw0)), (h20, zi k20 120 f20), (h21, zi k21 120 f21), (h22, zi k22 120 f22)]) (w1 := [(h18, .inr (0, mX0 h19 h20 h21 h22 v18)), (h19, zi k19 120 f19)]) hP hD [1, 2] [0, 3, 4, 5] rfl rfl (by decide) (by decide) hk1 hFc hP1 hD1
      have hP : va_P (dC, dI) vwCl [(h0, .inr (11, mX11 h1 h4 h11 h18 h23 h32 h33 h40 h48 h49 sp0 lw0)), (h18, .inr (0, mX0 h19 h20 h21 h22 v18)), (h19, zi k19 120 f19), (h20, zi k20 120 f20), (h21, zi k21 120 f21), (h22, zi k22 120 f22)] H1 := hP.sub [0, 4, 5, 1, 2, 3] rfl
      have hD : va_D A [(h0, .inr (11, mX11 h1 h4 h11 h18 h23 h32 h33 h40 h48 h49 sp0 lw0)), (h18, .inr (0, mX0 h19 h20 h21 h22 v18)), (h19, zi k19 120 f19), (h20, zi k20 120 f20), (h21, zi k21 120 f21), (h22, zi k22 120 f22)] := hD.sub [0, 4, 5, 1, 2, 3] (by decide) rfl
      generalize H1 = H at hP hS ⊢
      clear hz1
      refine lv_if_eq (tgt := 67) hx hb dX11_document_60 (by decide) (fun c_ => ?_) (fun c_ => ?_)
      · skip
        have b_ := zT_eq rfl zk_0 c_
        refine lv_iconst (v := 0) hx hb dX11_document_67 (by decide) ?_
        refine W.widen (k := 1) (n := 6) (by decide) (by decide) ?_
        have hpost : True := trivial
        have hP9 : va_P (dC, dI) vwCl [(h0, .inr (11, mX11 h1 h4 h11 h18 h23 h32 h33 h40 h48 h49 sp0 lw0)), (h18, .inr (0, mX0 h19 h20 h21 h22 v18)), (h19, zi k19 120 f19), (h20, zi k20 120 f20), (h21, zi k21 120 f21), (h22, zi k22 120 f22)] H := hP
        have hD9 : va_D A [(h0, .inr (11, mX11 h1 h4 h11 h18 h23 h32 h33 h40 h48 h49 sp0 lw0)), (h18, .inr (0, mX0 h19 h20 h21 h22 v18)), (h19, zi k19 120 f19), (h20, zi k20 120 f20), (h21, zi k21 120 f21), (h22, zi k22 120 f22)] := hD
        exact vx_ret (W.iret (v := 0) hx hb hr (fun t ht hW => ⟨⟨0, (fun _ => 0), rfl, hpost, (fun _ => 0), (fun _ => (fun _ => 0)), (fun _ => (fun _ => 0)), by rw [ht]; exact hP9, va_K.moved hW.alike hK, hD9⟩, hS.F ht⟩) hS.2.2 dX11_document_68)
      · skip
        have b_ := zF_eq rfl zk_0 c_
        refine lv_iconst (v := 1) hx hb dX11_document_63 (by decide) ?_
        refine lv_goto (tgt := 68) hx hb dX11_document_64 (by decide) ?_
        refine W.widen (k := 1) (n := 6) (by decide) (by decide) ?_
        have hpost : True := trivial
        have hP9 : va_P (dC, dI) vwCl [(h0, .inr (11, mX11 h1 h4 h11 h18 h23 h32 h33 h40 h48 h49 sp0 lw0)), (h18, .inr (0, mX0 h19 h20 h21 h22 v18)), (h19, zi k19 120 f19), (h20, zi k20 120 f20), (h21, zi k21 120 f21), (h22, zi k22 120 f22)] H := hP
        have hD9 : va_D A [(h0, .inr (11, mX11 h1 h4 h11 h18 h23 h32 h33 h40 h48 h49 sp0 lw0)), (h18, .inr (0, mX0 h19 h20 h21 h22 v18)), (h19, zi k19 120 f19), (h20, zi k20 120 f20), (h21, zi k21 120 f21), (h22, zi k22 120 f22)] := hD
        exact vx_ret (W.iret (v := 1) hx hb hr (fun t ht hW => ⟨⟨1, (fun _ => 0), rfl, hpost, (fun _ => 0), (fun _ => (fun _ => 0)), (fun _ => (fun _ => 0)), by rw [ht]; exact hP9, va_K.moved hW.alike hK, hD9⟩, hS.F ht⟩) hS.2.2 dX11_document_68)
    · skip
      have b_ : x2.toInt ≠ 0 := fun h => c_ (zeqi.mpr (h.trans zk_0.symm))
      rcases Classical.em (x2 = (1 : Int32)) with c_ | c_
      · skip
        have b_ : x2.toInt = 1 := by rw [c_]; exact zk_1
        refine lv_tableIn (off := 47) (tgt := 69) hx hb dX11_document_22 (by omega) (by omega) (by rw [b_]; decide) (by decide) ?_
        refine lv_aload_n hx hb dX11_document_69 rfl (lv_at hl 0 rfl) ?_
        refine va_get (D := (dC, dI)) (ci := 11) (v := .ref h18) (C := RX11) (T := TX11) (N := 12) hx hb hG zuX11 hown hK hP 0 rfl rfl 3 (by decide) (hG _ zv560) (fun _ h9 => h9) rfl dX11_document_70 ?_
        refine lv_iload_n hx hb dX11_document_73 rfl (lv_at hl 1 rfl) ?_
        have hPc := hP.sub (ws' := [(h18, .inr (0, mX0 h19 h20 h21 h22 v18)), (h20, zi k20 120 f20)]) [1, 3] rfl
        have hDc := hD.sub (ws' := [(h18, .inr (0, mX0 h19 h20 h21 h22 v18)), (h20, zi k20 120 f20)]) [1, 3] (by decide) rfl
        have hKc := hK.sub (tys' := [(k20, .int)]) [1] rfl
        have hFc := va_free (wc := [(h18, .inr (0, mX0 h19 h20 h21 h22 v18)), (h20, zi k20 120 f20)]) hD hS hA [1, 3] rfl
        refine va_calli (va_runV (As := [.int x1]) (rest := []) ⟨hx, hb, hml, hown, hG⟩ (sX0_lengthOf_0 l dC dI adK adV h18 h20 h19 h21 h22 k20 H.size v18 f20 x1 hv18 hf20) (cwV 1 hG (zgV zv1478 zv1352 zv1353 zv132 zv1354) rfl rfl rfl (by decide +kernel) ⟨Nat.le_of_ble_eq_true rfl, Nat.le_of_ble_eq_true rfl⟩) ⟨zPc_blind, va_recv hKc hPc (ci := 0) (q0 := 0) rfl rfl, zPc_pre hPc hKc hDc hE hS hFc hZ⟩ rfl rfl hl.1 rfl (lv_room (Nat.le_of_ble_eq_true rfl)) dX11_document_74 ⟨Nat.le_of_ble_eq_true rfl, Nat.le_of_ble_eq_true rfl⟩) hS (fun q _ h => hFc q h) hFc (fun r74_ u74_ t H1 locs ht hvm hw hB hz1 hk1 hS => ?_)
        replace hw : (0 ≤ r74_.toInt ∧ r74_.toInt ≤ 300) := hw
        have b_ := hw
        obtain ⟨w74_, a74_, b74_, hP1, hK1, hD1⟩ := hB
        rw [ht] at hP1
        obtain ⟨hP, hD⟩ := va_join (wr := [(h0, .inr (11, mX11 h1 h4 h11 h18 h23 h32 h33 h40 h48 h49 sp0 lw0)), (h19, zi k19 120 f19), (h21, zi k21 120 f21), (h22, zi k22 120 f22)]) (w1 := [(h18, .inr (0, mX0 h19 h20 h21 h22 v18)), (h20, zi k20 120 f20)]) hP hD [1, 3] [0, 2, 4, 5] rfl rfl (by decide) (by decide) hk1 hFc hP1 hD1
        have hP : va_P (dC, dI) vwCl [(h0, .inr (11, mX11 h1 h4 h11 h18 h23 h32 h33 h40 h48 h49 sp0 lw0)), (h18, .inr (0, mX0 h19 h20 h21 h22 v18)), (h19, zi k19 120 f19), (h20, zi k20 120 f20), (h21, zi k21 120 f21), (h22, zi k22 120 f22)] H1 := hP.sub [0, 4, 1, 5, 2, 3] rfl
        have hD : va_D A [(h0, .inr (11, mX11 h1 h4 h11 h18 h23 h32 h33 h40 h48 h49 sp0 lw0)), (h18, .inr (0, mX0 h19 h20 h21 h22 v18)), (h19, zi k19 120 f19), (h20, zi k20 120 f20), (h21, zi k21 120 f21), (h22, zi k22 120 f22)] := hD.sub [0, 4, 1, 5, 2, 3] (by decide) rfl
        generalize H1 = H at hP hS ⊢
        clear hz1
        refine W.widen (k := 1) (n := 6) (by decide) (by decide) ?_
        have hpost : True := trivial
        have hP9 : va_P (dC, dI) vwCl [(h0, .inr (11, mX11 h1 h4 h11 h18 h23 h32 h33 h40 h48 h49 sp0 lw0)), (h18, .inr (0, mX0 h19 h20 h21 h22 v18)), (h19, zi k19 120 f19), (h20, zi k20 120 f20), (h21, zi k21 120 f21), (h22, zi k22 120 f22)] H := hP
        have hD9 : va_D A [(h0, .inr (11, mX11 h1 h4 h11 h18 h23 h32 h33 h40 h48 h49 sp0 lw0)), (h18, .inr (0, mX0 h19 h20 h21 h22 v18)), (h19, zi k19 120 f19), (h20, zi k20 120 f20), (h21, zi k21 120 f21), (h22, zi k22 120 f22)] := hD
        exact vx_ret (W.iret (v := r74_) hx hb hr (fun t ht hW => ⟨⟨r74_, (fun _ => 0), rfl, hpost, (fun _ => 0), (fun _ => (fun _ => 0)), (fun _ => (fun _ => 0)), by rw [ht]; exact hP9, va_K.moved hW.alike hK, hD9⟩, hS.F ht⟩) hS.2.2 dX11_document_77)
      · skip
        have b_ : x2.toInt ≠ 1 := fun h => c_ (zeqi.mpr (h.trans zk_1.symm))
        rcases Classical.em (x2 = (2 : Int32)) with c_ | c_
        · skip
          have b_ : x2.toInt = 2 := by rw [c_]; exact zk_2
          refine lv_tableIn (off := 56) (tgt := 78) hx hb dX11_document_22 (by omega) (by omega) (by rw [b_]; decide) (by decide) ?_
          refine lv_aload_n hx hb dX11_document_78 rfl (lv_at hl 0 rfl) ?_
          refine va_get (D := (dC, dI)) (ci := 11) (v := .ref h18) (C := RX11) (T := TX11) (N := 12) hx hb hG zuX11 hown hK hP 0 rfl rfl 3 (by decide) (hG _ zv560) (fun _ h9 => h9) rfl dX11_document_79 ?_
          refine lv_iload_n hx hb dX11_document_82 rfl (lv_at hl 1 rfl) ?_
          have hPc := hP.sub (ws' := [(h18, .inr (0, mX0 h19 h20 h21 h22 v18)), (h21, zi k21 120 f21)]) [1, 4] rfl
          have hDc := hD.sub (ws' := [(h18, .inr (0, mX0 h19 h20 h21 h22 v18)), (h21, zi k21 120 f21)]) [1, 4] (by decide) rfl
          have hKc := hK.sub (tys' := [(k21, .int)]) [2] rfl
          have hFc := va_free (wc := [(h18, .inr (0, mX0 h19 h20 h21 h22 v18)), (h21, zi k21 120 f21)]) hD hS hA [1, 4] rfl
          refine va_calli (va_runV (As := [.int x1]) (rest := []) ⟨hx, hb, hml, hown, hG⟩ (sX0_markOf_0 l dC dI adK adV h18 h21 h19 h20 h22 k21 H.size v18 f21 x1 hv18) (cwV 1 hG (zgV zv1479 zv1238 zv1239 zv132 zv1240) rfl rfl rfl (by decide +kernel) ⟨Nat.le_of_ble_eq_true rfl, Nat.le_of_ble_eq_true rfl⟩) ⟨zPc_blind, va_recv hKc hPc (ci := 0) (q0 := 0) rfl rfl, zPc_pre hPc hKc hDc hE hS hFc hZ⟩ rfl rfl hl.1 rfl (lv_room (Nat.le_of_ble_eq_true rfl)) dX11_document_83 ⟨Nat.le_of_ble_eq_true rfl, Nat.le_of_ble_eq_true rfl⟩) hS (fun q _ h => hFc q h) hFc (fun r83_ u83_ t H1 locs ht hvm hw hB hz1 hk1 hS => ?_)
          obtain ⟨w83_, a83_, b83_, hP1, hK1, hD1⟩ := hB
          rw [ht] at hP1
          obtain ⟨hP, hD⟩ := va_join (wr := [(h0, .inr (11, mX11 h1 h4 h11 h18 h23 h32 h33 h40 h48 h49 sp0 lw0)), (h19, zi k19 120 f19), (h20, zi k20 120 f20), (h22, zi k22 120 f22)]) (w1 := [(h18, .inr (0, mX0 h19 h20 h21 h22 v18)), (h21, zi k21 120 f21)]) hP hD [1, 4] [0, 2, 3, 5] rfl rfl (by decide) (by decide) hk1 hFc hP1 hD1
          have hP : va_P (dC, dI) vwCl [(h0, .inr (11, mX11 h1 h4 h11 h18 h23 h32 h33 h40 h48 h49 sp0 lw0)), (h18, .inr (0, mX0 h19 h20 h21 h22 v18)), (h19, zi k19 120 f19), (h20, zi k20 120 f20), (h21, zi k21 120 f21), (h22, zi k22 120 f22)] H1 := hP.sub [0, 4, 1, 2, 5, 3] rfl
          have hD : va_D A [(h0, .inr (11, mX11 h1 h4 h11 h18 h23 h32 h33 h40 h48 h49 sp0 lw0)), (h18, .inr (0, mX0 h19 h20 h21 h22 v18)), (h19, zi k19 120 f19), (h20, zi k20 120 f20), (h21, zi k21 120 f21), (h22, zi k22 120 f22)] := hD.sub [0, 4, 1, 2, 5, 3] (by decide) rfl
          generalize H1 = H at hP hS ⊢
          clear hz1
          refine W.widen (k := 1) (n := 6) (by decide) (by decide) ?_
          have b_ : -2147483648 ≤ r83_.toInt ∧ r83_.toInt ≤ 2147483647 := ⟨zlo _, zhi _⟩
          have hpost : True := trivial
          have hP9 : va_P (dC, dI) vwCl [(h0, .inr (11, mX11 h1 h4 h11 h18 h23 h32 h33 h40 h48 h49 sp0 lw0)), (h18, .inr (0, mX0 h19 h20 h21 h22 v18)), (h19, zi k19 120 f19), (h20, zi k20 120 f20), (h21, zi k21 120 f21), (h22, zi k22 120 f22)] H := hP
          have hD9 : va_D A [(h0, .inr (11, mX11 h1 h4 h11 h18 h23 h32 h33 h40 h48 h49 sp0 lw0)), (h18, .inr (0, mX0 h19 h20 h21 h22 v18)), (h19, zi k19 120 f19), (h20, zi k20 120 f20), (h21, zi k21 120 f21), (h22, zi k22 120 f22)] := hD
          exact vx_ret (W.iret (v := r83_) hx hb hr (fun t ht hW => ⟨⟨r83_, (fun _ => 0), rfl, hpost, (fun _ => 0), (fun _ => (fun _ => 0)), (fun _ => (fun _ => 0)), by rw [ht]; exact hP9, va_K.moved hW.alike hK, hD9⟩, hS.F ht⟩) hS.2.2 dX11_document_86)
        · skip
          have b_ : x2.toInt ≠ 2 := fun h => c_ (zeqi.mpr (h.trans zk_2.symm))
          rcases Classical.em (x2 = (3 : Int32)) with c_ | c_
          · skip
            have b_ : x2.toInt = 3 := by rw [c_]; exact zk_3
            refine lv_tableIn (off := 65) (tgt := 87) hx hb dX11_document_22 (by omega) (by omega) (by rw [b_]; decide) (by decide) ?_
            refine lv_aload_n hx hb dX11_document_87 rfl (lv_at hl 0 rfl) ?_
            refine va_get (D := (dC, dI)) (ci := 11) (v := .ref h18) (C := RX11) (T := TX11) (N := 12) hx hb hG zuX11 hown hK hP 0 rfl rfl 3 (by decide) (hG _ zv560) (fun _ h9 => h9) rfl dX11_document_88 ?_
            refine lv_iload_n hx hb dX11_document_91 rfl (lv_at hl 1 rfl) ?_
            have hPc := hP.sub (ws' := [(h18, .inr (0, mX0 h19 h20 h21 h22 v18)), (h22, zi k22 120 f22)]) [1, 5] rfl
            have hDc := hD.sub (ws' := [(h18, .inr (0, mX0 h19 h20 h21 h22 v18)), (h22, zi k22 120 f22)]) [1, 5] (by decide) rfl
            have hKc := hK.sub (tys' := [(k22, .int)]) [3] rfl
            have hFc := va_free (wc := [(h18, .inr (0, mX0 h19 h20 h21 h22 v18)), (h22, zi k22 120 f22)]) hD hS hA [1, 5] rfl
            refine va_calli (va_runV (As := [.int x1]) (rest := []) ⟨hx, hb, hml, hown, hG⟩ (sX0_wordsOf_0 l dC dI adK adV h18 h22 h19 h20 h21 k22 H.size v18 f22 x1 hv18) (cwV 1 hG (zgV zv1480 zv1481 zv1482 zv132 zv1483) rfl rfl rfl (by decide +kernel) ⟨Nat.le_of_ble_eq_true rfl, Nat.le_of_ble_eq_true rfl⟩) ⟨zPc_blind, va_recv hKc hPc (ci := 0) (q0 := 0) rfl rfl, zPc_pre hPc hKc hDc hE hS hFc hZ⟩ rfl rfl hl.1 rfl (lv_room (Nat.le_of_ble_eq_true rfl)) dX11_document_92 ⟨Nat.le_of_ble_eq_true rfl, Nat.le_of_ble_eq_true rfl⟩) hS (fun q _ h => hFc q h) hFc (fun r92_ u92_ t H1 locs ht hvm hw hB hz1 hk1 hS => ?_)
            obtain ⟨w92_, a92_, b92_, hP1, hK1, hD1⟩ := hB
            rw [ht] at hP1
            obtain ⟨hP, hD⟩ := va_join (wr := [(h0, .inr (11, mX11 h1 h4 h11 h18 h23 h32 h33 h40 h48 h49 sp0 lw0)), (h19, zi k19 120 f19), (h20, zi k20 120 f20), (h21, zi k21 120 f21)]) (w1 := [(h18, .inr (0, mX0 h19 h20 h21 h22 v18)), (h22, zi k22 120 f22)]) hP hD [1, 5] [0, 2, 3, 4] rfl rfl (by decide) (by decide) hk1 hFc hP1 hD1
            have hP : va_P (dC, dI) vwCl [(h0, .inr (11, mX11 h1 h4 h11 h18 h23 h32 h33 h40 h48 h49 sp0 lw0)), (h18, .inr (0, mX0 h19 h20 h21 h22 v18)), (h19, zi k19 120 f19), (h20, zi k20 120 f20), (h21, zi k21 120 f21), (h22, zi k22 120 f22)] H1 := hP.sub [0, 4, 1, 2, 3, 5] rfl
            have hD : va_D A [(h0, .inr (11, mX11 h1 h4 h11 h18 h23 h32 h33 h40 h48 h49 sp0 lw0)), (h18, .inr (0, mX0 h19 h20 h21 h22 v18)), (h19, zi k19 120 f19), (h20, zi k20 120 f20), (h21, zi k21 120 f21), (h22, zi k22 120 f22)] := hD.sub [0, 4, 1, 2, 3, 5] (by decide) rfl
            generalize H1 = H at hP hS ⊢
            clear hz1
            refine W.widen (k := 1) (n := 6) (by decide) (by decide) ?_
            have b_ : -2147483648 ≤ r92_.toInt ∧ r92_.toInt ≤ 2147483647 := ⟨zlo _, zhi _⟩
            have hpost : True := trivial
            have hP9 : va_P (dC, dI) vwCl [(h0, .inr (11, mX11 h1 h4 h11 h18 h23 h32 h33 h40 h48 h49 sp0 lw0)), (h18, .inr (0, mX0 h19 h20 h21 h22 v18)), (h19, zi k19 120 f19), (h20, zi k20 120 f20), (h21, zi k21 120 f21), (h22, zi k22 120 f22)] H := hP
            have hD9 : va_D A [(h0, .inr (11, mX11 h1 h4 h11 h18 h23 h32 h33 h40 h48 h49 sp0 lw0)), (h18, .inr (0, mX0 h19 h20 h21 h22 v18)), (h19, zi k19 120 f19), (h20, zi k20 120 f20), (h21, zi k21 120 f21), (h22, zi k22 120 f22)] := hD
            exact vx_ret (W.iret (v := r92_) hx hb hr (fun t ht hW => ⟨⟨r92_, (fun _ => 0), rfl, hpost, (fun _ => 0), (fun _ => (fun _ => 0)), (fun _ => (fun _ => 0)), by rw [ht]; exact hP9, va_K.moved hW.alike hK, hD9⟩, hS.F ht⟩) hS.2.2 dX11_document_95)
          · skip
            have b_ : x2.toInt ≠ 3 := fun h => c_ (zeqi.mpr (h.trans zk_3.symm))
            refine lv_tableOut (tgt := 96) hx hb dX11_document_22 (by omega) (by decide) ?_
            refine lv_iconst (v := (-1)) hx hb dX11_document_96 (by decide) ?_
            refine W.widen (k := 1) (n := 6) (by decide) (by decide) ?_
            have hpost : True := trivial
            have hP9 : va_P (dC, dI) vwCl [(h0, .inr (11, mX11 h1 h4 h11 h18 h23 h32 h33 h40 h48 h49 sp0 lw0)), (h18, .inr (0, mX0 h19 h20 h21 h22 v18)), (h19, zi k19 120 f19), (h20, zi k20 120 f20), (h21, zi k21 120 f21), (h22, zi k22 120 f22)] H := hP
            have hD9 : va_D A [(h0, .inr (11, mX11 h1 h4 h11 h18 h23 h32 h33 h40 h48 h49 sp0 lw0)), (h18, .inr (0, mX0 h19 h20 h21 h22 v18)), (h19, zi k19 120 f19), (h20, zi k20 120 f20), (h21, zi k21 120 f21), (h22, zi k22 120 f22)] := hD
            exact vx_ret (W.iret (v := (-1)) hx hb hr (fun t ht hW => ⟨⟨(-1), (fun _ => 0), rfl, hpost, (fun _ => 0), (fun _ => (fun _ => 0)), (fun _ => (fun _ => 0)), by rw [ht]; exact hP9, va_K.moved hW.alike hK, hD9⟩, hS.F ht⟩) hS.2.2 dX11_document_97)
  · skip
    have b_ := zF_ne rfl zk_0 c_
    have hpost : True := trivial
    have hP9 : va_P (dC, dI) vwCl [(h0, .inr (11, mX11 h1 h4 h11 h18 h23 h32 h33 h40 h48 h49 sp0 lw0)), (h18, .inr (0, mX0 h19 h20 h21 h22 v18)), (h19, zi k19 120 f19), (h20, zi k20 120 f20), (h21, zi k21 120 f21), (h22, zi k22 120 f22)] H := hP
    have hD9 : va_D A [(h0, .inr (11, mX11 h1 h4 h11 h18 h23 h32 h33 h40 h48 h49 sp0 lw0)), (h18, .inr (0, mX0 h19 h20 h21 h22 v18)), (h19, zi k19 120 f19), (h20, zi k20 120 f20), (h21, zi k21 120 f21), (h22, zi k22 120 f22)] := hD
    obtain ⟨sa, hstr⟩ := zE_S184 hE
    exact vx_throwS (names := ["java/lang/RuntimeException", "java/lang/Exception"]) (A := A) hx hb hl0 hown (by decide +kernel) (by decide +kernel) (hG _ zv1411) (hG _ zv154) hstr (zhat hG hE) zAT_ot hZ.1 hZ.2.1 hS (hl.1.trans hml.symm) dX11_document_11 dX11_document_14 dX11_document_15 dX11_document_17 dX11_document_20 (fun x h => (hout x h).elim) (by decide) (by decide +kernel) (Nat.le_of_ble_eq_true rfl) (Nat.le_of_ble_eq_true rfl) hlocks (fun t hvm hz hk => ⟨(fun _ => 0), hpost, ⟨rfl, (fun _ => 0), (fun _ => (fun _ => 0)), (fun _ => (fun _ => 0)), zkeepP hP9 hk, va_K.moved hvm hK, hD9⟩, zkeepF hS hz hk⟩) hS.2.2 (Nat.le_of_ble_eq_true rfl) (Nat.le_of_ble_eq_true rfl)
set_option maxHeartbeats 8000000 in
set_option maxRecDepth 100000 in
theorem sX6_documentsOf_0 (l : Launch) (dC : Nat → ClassId) (dI : Nat → Nat → Nat) (adK adV : Nat → Nat) (h0 : Nat) (h7 : Nat) (h1 : Nat) (h2 : Nat) (h3 : Nat) (h4 : Nat) (h5 : Nat) (h6 : Nat) (h8 : Nat) (k7 : ClassId) (sz : Nat) (v0 : Nat → Int32) (f7 : Nat → Int32) (x1 : Int32) (hv0 : zR rg_Postings v0) : Met l yX6_documentsOf (zw yX6_documentsOf cX6_documentsOf 2 (some .int)) { frames := 1, cells := 0, slots := 0, locals := 20 } (zPc dC dI adK adV [.ref h0, .int x1] sz [(h0, .inr (6, mX6 h1 h2 h3 h4 h5 h6 h7 h8 v0)), (h7, zi k7 400 f7)] [(k7, .int)]) (va_Qi (fun (r : Int32) (u : Nat → Int32) => (zW (0 ≤ x1.toInt → x1.toInt ≤ 399 → r.toInt = (f7 ((x1 : Int32)).toNatClampNeg).toInt)) ∧ (x1.toInt < 0 → r.toInt = 0)) (fun (u : Nat → Int32) (t : State) => ∃ (ww : Nat → Int64) (aa : Nat → Nat → Int32) (bb : Nat → Nat → Int64), va_P (dC, dI) vwCl [(h0, .inr (6, mX6 h1 h2 h3 h4 h5 h6 h7 h8 v0)), (h7, zi k7 400 f7)] t.heap ∧ va_K (dC, dI) vwCl [(k7, .int)] t ∧ va_D (va_A [(h0, .inr (6, mX6 h1 h2 h3 h4 h5 h6 h7 h8 v0)), (h7, zi k7 400 f7)] sz) [(h0, .inr (6, mX6 h1 h2 h3 h4 h5 h6 h7 h8 v0)), (h7, zi k7 400 f7)]) (va_A [(h0, .inr (6, mX6 h1 h2 h3 h4 h5 h6 h7 h8 v0)), (h7, zi k7 400 f7)] sz)) 0 0 (va_A [(h0, .inr (6, mX6 h1 h2 h3 h4 h5 h6 h7 h8 v0)), (h7, zi k7 400 f7)] sz) := by
  refine Met.ofW (cc := cX6_documentsOf) (maxL := 2) (ret := (some .int)) (by decide) rfl ?_
  intro p e s m args below meth c s₁ B hml hv
  obtain ⟨rfl, hsz, hP, hK, hD0, hE, hZ⟩ := hv
  have hx := B.exec
  have hb := B.bytes
  have hr := B.returns
  have hG : ∀ w ∈ zG, w.before _ s = true := fun w h => atoms_spec (ws := (zw yX6_documentsOf cX6_documentsOf 2 (some .int))) B.pre w (List.mem_cons_of_mem _ h)
  have hown : s.vm.findClass RX6 = some m.cls := findClass_of_methodNamed B.named
  have hlocks := B.notSynchronized

  subst hsz
  have hD := hD0.self (sz := s.heap.size)
  generalize hAe : va_A [(h0, .inr (6, mX6 h1 h2 h3 h4 h5 h6 h7 h8 v0)), (h7, zi k7 400 f7)] s.heap.size = A at hD hZ ⊢
  have hA : ∀ q : Nat, s.heap.size ≤ q → A q := fun q h => by rw [← hAe]; exact Or.inr h
  have hS : va_S A s.heap s.heap [] := va_S.rf
  have hl := lv_entry ([.ref h0, .int x1]) (n := 2) (Nat.le_of_ble_eq_true rfl)
  rw [lg_entry_eq]
  generalize (lg_sl ([.ref h0, .int x1]) ++ List.replicate (2 - (lg_sl ([.ref h0, .int x1])).length) Slot.unset).toArray = ls at hl ⊢
  have hl : lv_has ls 2 [(0, .ref h0), (1, .int x1)] := hl
  have b_ := zk_0
  refine lv_iload_n hx hb dX6_documentsOf_0 rfl (lv_at hl 1 rfl) ?_
  have hPc := hP.sub (ws' := []) [] rfl
  have hDc := hD.sub (ws' := []) [] (by decide) rfl
  have hKc := hK.sub (tys' := []) [] rfl
  have hFc := va_free (wc := []) hD hS hA [] rfl
  refine va_calli (va_runS (As := [.int x1]) (rest := []) ⟨hx, hb, hml, hown, hG⟩ (sX6_isId_0 l dC dI adK adV s.heap.size x1) (va_cwS 1 hG (zgS zv775 zv776 zv133 zv777) rfl rfl rfl (by decide +kernel) ⟨Nat.le_of_ble_eq_true rfl, Nat.le_of_ble_eq_true rfl⟩) ⟨zPc_blind, zPc_pre hPc hKc hDc hE hS hFc hZ⟩ rfl rfl hl.1 rfl (lv_room (Nat.le_of_ble_eq_true rfl)) dX6_documentsOf_1 ⟨Nat.le_of_ble_eq_true rfl, Nat.le_of_ble_eq_true rfl⟩) hS (fun q _ h => hFc q h) hFc (fun r1_ u1_ t H1 locs ht hvm hw hB hz1 hk1 hS => ?_)
  replace hw : (0 ≤ r1_.toInt ∧ r1_.toInt ≤ 1) ∧ (r1_.toInt = 1 → (0 ≤ x1.toInt ∧ x1.toInt ≤ 399)) ∧ (r1_.toInt = 0 → x1.toInt < 0 ∨ 399 < x1.toInt) := hw
  obtain ⟨b_, hX1_0, hX1_1⟩ := hw
  obtain ⟨w1_, a1_, b1_, hP1, hK1, hD1⟩ := hB
  rw [ht] at hP1
  obtain ⟨hP, hD⟩ := va_join (wr := [(h0, .inr (6, mX6 h1 h2 h3 h4 h5 h6 h7 h8 v0)), (h7, zi k7 400 f7)]) (w1 := []) hP hD [] [0, 1] rfl rfl (by decide) (by decide) hk1 hFc hP1 hD1
  have hP : va_P (dC, dI) vwCl [(h0, .inr (6, mX6 h1 h2 h3 h4 h5 h6 h7 h8 v0)), (h7, zi k7 400 f7)] H1 := hP.sub [0, 1] rfl
  have hD : va_D A [(h0, .inr (6, mX6 h1 h2 h3 h4 h5 h6 h7 h8 v0)), (h7, zi k7 400 f7)] := hD.sub [0, 1] (by decide) rfl
  generalize H1 = H at hP hS ⊢
  clear hz1
  refine lv_if_eq (tgt := 16) hx hb dX6_documentsOf_4 (by decide) (fun c_ => ?_) (fun c_ => ?_)
  · skip
    have b_ := zT_eq rfl zk_0 c_
    refine lv_iconst (v := 0) hx hb dX6_documentsOf_16 (by decide) ?_
    refine W.widen (k := 0) (n := 0) (by decide) (by decide) ?_
    have hpost : (zW (0 ≤ x1.toInt → x1.toInt ≤ 399 → (0 : Int32).toInt = (f7 ((x1 : Int32)).toNatClampNeg).toInt)) ∧ (x1.toInt < 0 → (0 : Int32).toInt = 0) := ⟨by first | exact fun _ _ => congrArg Int32.toInt e_z12 | (intro q1 q2; omega), by omega⟩
    have hP9 : va_P (dC, dI) vwCl [(h0, .inr (6, mX6 h1 h2 h3 h4 h5 h6 h7 h8 v0)), (h7, zi k7 400 f7)] H := hP
    have hD9 : va_D A [(h0, .inr (6, mX6 h1 h2 h3 h4 h5 h6 h7 h8 v0)), (h7, zi k7 400 f7)] := hD
    exact W.iret (v := 0) hx hb hr (fun t ht hW => ⟨⟨0, (fun _ => 0), rfl, hpost, (fun _ => 0), (fun _ => (fun _ => 0)), (fun _ => (fun _ => 0)), by rw [ht]; exact hP9, va_K.moved hW.alike hK, hD9⟩, hS.F ht⟩) hS.2.2 dX6_documentsOf_17
  · skip
    have b_ := zF_eq rfl zk_0 c_
    refine lv_aload_n hx hb dX6_documentsOf_7 rfl (lv_at hl 0 rfl) ?_
    refine va_get (D := (dC, dI)) (ci := 6) (v := .ref h7) (C := RX6) (T := TX6) (N := 12) hx hb hG zuX6 hown hK hP 0 rfl rfl 6 (by decide) (hG _ zv254) (fun _ h9 => h9) rfl dX6_documentsOf_8 ?_
    refine lv_iload_n hx hb dX6_documentsOf_11 rfl (lv_at hl 1 rfl) ?_
    refine va_iald hx hb hK hP 1 0 rfl rfl (zin_lit ⟨by omega, by omega⟩) dX6_documentsOf_12 ?_
    refine lv_topi (fun z12 e_z12 => ?_)
    refine lv_goto (tgt := 17) hx hb dX6_documentsOf_13 (by decide) ?_
    refine W.widen (k := 0) (n := 0) (by decide) (by decide) ?_
    have b_ : -2147483648 ≤ z12.toInt ∧ z12.toInt ≤ 2147483647 := ⟨zlo _, zhi _⟩
    have hpost : (zW (0 ≤ x1.toInt → x1.toInt ≤ 399 → z12.toInt = (f7 ((x1 : Int32)).toNatClampNeg).toInt)) ∧ (x1.toInt < 0 → z12.toInt = 0) := ⟨by first | exact fun _ _ => congrArg Int32.toInt e_z12 | (intro q1 q2; omega), by omega⟩
    have hP9 : va_P (dC, dI) vwCl [(h0, .inr (6, mX6 h1 h2 h3 h4 h5 h6 h7 h8 v0)), (h7, zi k7 400 f7)] H := hP
    have hD9 : va_D A [(h0, .inr (6, mX6 h1 h2 h3 h4 h5 h6 h7 h8 v0)), (h7, zi k7 400 f7)] := hD
    exact W.iret (v := z12) hx hb hr (fun t ht hW => ⟨⟨z12, (fun _ => 0), rfl, hpost, (fun _ => 0), (fun _ => (fun _ => 0)), (fun _ => (fun _ => 0)), by rw [ht]; exact hP9, va_K.moved hW.alike hK, hD9⟩, hS.F ht⟩) hS.2.2 dX6_documentsOf_17
set_option maxHeartbeats 8000000 in
set_option maxRecDepth 100000 in
theorem sX11_look_0 (l : Launch) (dC : Nat → ClassId) (dI : Nat → Nat → Nat) (adK adV : Nat → Nat) (h0 : Nat) (h1 : Nat) (h2 : Nat) (h3 : Nat) (h4 : Nat) (h5 : Nat) (h6 : Nat) (h7 : Nat) (h23 : Nat) (h30 : Nat) (h24 : Nat) (h25 : Nat) (h26 : Nat) (h27 : Nat) (h28 : Nat) (h29 : Nat) (h31 : Nat) (h18 : Nat) (h11 : Nat) (h32 : Nat) (h33 : Nat) (h40 : Nat) (h48 : Nat) (h49 : Nat) (h8 : Nat) (h9 : Nat) (h10 : Nat) (h19 : Nat) (h20 : Nat) (h21 : Nat) (h22 : Nat) (k2 : ClassId) (k3 : ClassId) (k5 : ClassId) (k6 : ClassId) (k7 : ClassId) (k30 : ClassId) (k24 : ClassId) (k25 : ClassId) (k26 : ClassId) (k27 : ClassId) (k28 : ClassId) (k29 : ClassId) (k31 : ClassId) (sz : Nat) (sp0 : Value) (lw0 : Int64) (v1 : Nat → Int32) (f2 : Nat → Int32) (f3 : Nat → Int32) (v4 : Nat → Int32) (f5 : Nat → Int64) (f6 : Nat → Int32) (f7 : Nat → Int32) (v23 : Nat → Int32) (f30 : Nat → Int32) (f24 : Nat → Int32) (f25 : Nat → Int32) (f26 : Nat → Int32) (f27 : Nat → Int32) (f28 : Nat → Int32) (f29 : Nat → Int32) (f31 : Nat → Int32) (v18 : Nat → Int32) (hv1 : zR rg_Tape v1) (hv4 : zR rg_Words400 v4) (hf6 : zA 0 399 f6) (hf7 : zA (-1) 399 f7) (hv23 : zR rg_Postings v23) (hf25 : zA 0 1250 f25) (hf28 : zA 0 832 f28) (hv18 : zR rg_Documents v18) : Met l yX11_look (zw yX11_look cX11_look 1 (some .int)) { frames := 8, cells := 0, slots := 0, locals := 170 } (zPc dC dI adK adV [.ref h0] sz [(h0, .inr (11, mX11 h1 h4 h11 h18 h23 h32 h33 h40 h48 h49 sp0 lw0)), (h1, .inr (9, mX9 h2 h3 v1)), (h2, zi k2 600 f2), (h3, zi k3 12 f3), (h4, .inr (10, mX10 h5 h6 h7 h8 h9 h10 v4)), (h5, .inl (k5, 400, .inr (.inl f5))), (h6, zi k6 400 f6), (h7, zi k7 400 f7), (h23, .inr (6, mX6 h24 h25 h26 h27 h28 h29 h30 h31 v23)), (h30, zi k30 400 f30), (h24, zi k24 1250 f24), (h25, zi k25 833 f25), (h26, zi k26 833 f26), (h27, zi k27 400 f27), (h28, zi k28 400 f28), (h29, zi k29 400 f29), (h31, zi k31 400 f31), (h18, .inr (0, mX0 h19 h20 h21 h22 v18))] [(k2, .byte), (k3, .byte), (k5, .long), (k6, .int), (k7, .int), (k30, .int), (k24, .int), (k25, .int), (k26, .int), (k27, .int), (k28, .int), (k29, .int), (k31, .int)]) (va_Qi (fun (r : Int32) (u : Nat → Int32) => (0 ≤ (u 0).toInt ∧ (u 0).toInt ≤ 0) ∧ (0 ≤ (u 1).toInt ∧ (u 1).toInt ≤ 12) ∧ (zLc f2 (v1 2).toInt f5 f6 f7 (v4 7).toInt f24 f25 f26 f27 f28 f29 (v23 8).toInt (v23 9).toInt (v23 10).toInt (v23 11).toInt f30 f31 (v18 4).toInt r.toInt)) (fun (u : Nat → Int32) (t : State) => ∃ (ww : Nat → Int64) (aa : Nat → Nat → Int32) (bb : Nat → Nat → Int64), (zFW f2 (v1 2).toInt (ww 0).toInt) ∧ va_P (dC, dI) vwCl [(h0, .inr (11, mX11 h1 h4 h11 h18 h23 h32 h33 h40 h48 h49 sp0 (ww 0))), (h1, .inr (9, mX9 h2 h3 (upd (upd v1 2 (u 0)) 3 (u 1)))), (h2, zi k2 600 f2), (h3, zi k3 12 (aa 0)), (h4, .inr (10, mX10 h5 h6 h7 h8 h9 h10 v4)), (h5, .inl (k5, 400, .inr (.inl f5))), (h6, zi k6 400 f6), (h7, zi k7 400 f7), (h23, .inr (6, mX6 h24 h25 h26 h27 h28 h29 h30 h31 v23)), (h30, zi k30 400 f30), (h24, zi k24 1250 f24), (h25, zi k25 833 f25), (h26, zi k26 833 f26), (h27, zi k27 400 f27), (h28, zi k28 400 f28), (h29, zi k29 400 f29), (h31, zi k31 400 f31), (h18, .inr (0, mX0 h19 h20 h21 h22 v18))] t.heap ∧ va_K (dC, dI) vwCl [(k2, .byte), (k3, .byte), (k5, .long), (k6, .int), (k7, .int), (k30, .int), (k24, .int), (k25, .int), (k26, .int), (k27, .int), (k28, .int), (k29, .int), (k31, .int)] t ∧ va_D (va_A [(h0, .inr (11, mX11 h1 h4 h11 h18 h23 h32 h33 h40 h48 h49 sp0 lw0)), (h1, .inr (9, mX9 h2 h3 v1)), (h2, zi k2 600 f2), (h3, zi k3 12 f3), (h4, .inr (10, mX10 h5 h6 h7 h8 h9 h10 v4)), (h5, .inl (k5, 400, .inr (.inl f5))), (h6, zi k6 400 f6), (h7, zi k7 400 f7), (h23, .inr (6, mX6 h24 h25 h26 h27 h28 h29 h30 h31 v23)), (h30, zi k30 400 f30), (h24, zi k24 1250 f24), (h25, zi k25 833 f25), (h26, zi k26 833 f26), (h27, zi k27 400 f27), (h28, zi k28 400 f28), (h29, zi k29 400 f29), (h31, zi k31 400 f31), (h18, .inr (0, mX0 h19 h20 h21 h22 v18))] sz) [(h0, .inr (11, mX11 h1 h4 h11 h18 h23 h32 h33 h40 h48 h49 sp0 (ww 0))), (h1, .inr (9, mX9 h2 h3 (upd (upd v1 2 (u 0)) 3 (u 1)))), (h2, zi k2 600 f2), (h3, zi k3 12 (aa 0)), (h4, .inr (10, mX10 h5 h6 h7 h8 h9 h10 v4)), (h5, .inl (k5, 400, .inr (.inl f5))), (h6, zi k6 400 f6), (h7, zi k7 400 f7), (h23, .inr (6, mX6 h24 h25 h26 h27 h28 h29 h30 h31 v23)), (h30, zi k30 400 f30), (h24, zi k24 1250 f24), (h25, zi k25 833 f25), (h26, zi k26 833 f26), (h27, zi k27 400 f27), (h28, zi k28 400 f28), (h29, zi k29 400 f29), (h31, zi k31 400 f31), (h18, .inr (0, mX0 h19 h20 h21 h22 v18))]) (va_A [(h0, .inr (11, mX11 h1 h4 h11 h18 h23 h32 h33 h40 h48 h49 sp0 lw0)), (h1, .inr (9, mX9 h2 h3 v1)), (h2, zi k2 600 f2), (h3, zi k3 12 f3), (h4, .inr (10, mX10 h5 h6 h7 h8 h9 h10 v4)), (h5, .inl (k5, 400, .inr (.inl f5))), (h6, zi k6 400 f6), (h7, zi k7 400 f7), (h23, .inr (6, mX6 h24 h25 h26 h27 h28 h29 h30 h31 v23)), (h30, zi k30 400 f30), (h24, zi k24 1250 f24), (h25, zi k25 833 f25), (h26, zi k26 833 f26), (h27, zi k27 400 f27), (h28, zi k28 400 f28), (h29, zi k29 400 f29), (h31, zi k31 400 f31), (h18, .inr (0, mX0 h19 h20 h21 h22 v18))] sz)) 0 0 (va_A [(h0, .inr (11, mX11 h1 h4 h11 h18 h23 h32 h33 h40 h48 h49 sp0 lw0)), (h1, .inr (9, mX9 h2 h3 v1)), (h2, zi k2 600 f2), (h3, zi k3 12 f3), (h4, .inr (10, mX10 h5 h6 h7 h8 h9 h10 v4)), (h5, .inl (k5, 400, .inr (.inl f5))), (h6, zi k6 400 f6), (h7, zi k7 400 f7), (h23, .inr (6, mX6 h24 h25 h26 h27 h28 h29 h30 h31 v23)), (h30, zi k30 400 f30), (h24, zi k24 1250 f24), (h25, zi k25 833 f25), (h26, zi k26 833 f26), (h27, zi k27 400 f27), (h28, zi k28 400 f28), (h29, zi k29 400 f29), (h31, zi k31 400 f31), (h18, .inr (0, mX0 h19 h20 h21 h22 v18))] sz) := by
  refine Met.ofW (cc := cX11_look) (maxL := 1) (ret := (some .int)) (by decide) rfl ?_
  intro p e s m args below meth c s₁ B hml hv
  obtain ⟨rfl, hsz, hP, hK, hD0, hE, hZ⟩ := hv
  have hx := B.exec
  have hb := B.bytes
  have hr := B.returns
  have hG : ∀ w ∈ zG, w.before _ s = true := fun w h => atoms_spec (ws := (zw yX11_look cX11_look 1 (some .int))) B.pre w (List.mem_cons_of_mem _ h)
  have hown : s.vm.findClass RX11 = some m.cls := findClass_of_methodNamed B.named
  have hlocks := B.notSynchronized

  subst hsz
  have hD := hD0.self (sz := s.heap.size)
  generalize hAe : va_A [(h0, .inr (11, mX11 h1 h4 h11 h18 h23 h32 h33 h40 h48 h49 sp0 lw0)), (h1, .inr (9, mX9 h2 h3 v1)), (h2, zi k2 600 f2), (h3, zi k3 12 f3), (h4, .inr (10, mX10 h5 h6 h7 h8 h9 h10 v4)), (h5, .inl (k5, 400, .inr (.inl f5))), (h6, zi k6 400 f6), (h7, zi k7 400 f7), (h23, .inr (6, mX6 h24 h25 h26 h27 h28 h29 h30 h31 v23)), (h30, zi k30 400 f30), (h24, zi k24 1250 f24), (h25, zi k25 833 f25), (h26, zi k26 833 f26), (h27, zi k27 400 f27), (h28, zi k28 400 f28), (h29, zi k29 400 f29), (h31, zi k31 400 f31), (h18, .inr (0, mX0 h19 h20 h21 h22 v18))] s.heap.size = A at hD hZ ⊢
  have hA : ∀ q : Nat, s.heap.size ≤ q → A q := fun q h => by rw [← hAe]; exact Or.inr h
  have hS : va_S A s.heap s.heap [] := va_S.rf
  have hl := lv_entry ([.ref h0]) (n := 1) (Nat.le_of_ble_eq_true rfl)
  rw [lg_entry_eq]
  generalize (lg_sl ([.ref h0]) ++ List.replicate (1 - (lg_sl ([.ref h0])).length) Slot.unset).toArray = ls at hl ⊢
  have hl : lv_has ls 1 [(0, .ref h0)] := hl
  have b_ : 0 ≤ (v1 2).toInt ∧ (v1 2).toInt ≤ 600 := hv1 2
  have b_ : 0 ≤ (v4 7).toInt ∧ (v4 7).toInt ≤ 400 := hv4 7
  have b_ : 0 ≤ (v23 8).toInt ∧ (v23 8).toInt ≤ 833 := hv23 8
  have b_ : 0 ≤ (v23 9).toInt ∧ (v23 9).toInt ≤ 1250 := hv23 9
  have b_ : -2147483648 ≤ (v23 10).toInt ∧ (v23 10).toInt ≤ 2147483647 := ⟨zlo _, zhi _⟩
  have b_ : -2147483648 ≤ (v23 11).toInt ∧ (v23 11).toInt ≤ 2147483647 := ⟨zlo _, zhi _⟩
  have b_ : 0 ≤ (v18 4).toInt ∧ (v18 4).toInt ≤ 120 := hv18 4
  refine lv_aload_n hx hb dX11_look_0 rfl (lv_at hl 0 rfl) ?_
  refine lv_aload_n hx hb dX11_look_1 rfl (lv_at hl 0 rfl) ?_
  refine va_get (D := (dC, dI)) (ci := 11) (v := .ref h1) (C := RX11) (T := TX11) (N := 12) hx hb hG zuX11 hown hK hP 0 rfl rfl 0 (by decide) (hG _ zv557) (fun _ h9 => h9) rfl dX11_look_2 ?_
  have hPc := hP.sub (ws' := [(h1, .inr (9, mX9 h2 h3 v1)), (h2, zi k2 600 f2), (h3, zi k3 12 f3)]) [1, 2, 3] rfl
  have hDc := hD.sub (ws' := [(h1, .inr (9, mX9 h2 h3 v1)), (h2, zi k2 600 f2), (h3, zi k3 12 f3)]) [1, 2, 3] (by decide) rfl
  have hKc := hK.sub (tys' := [(k2, .byte), (k3, .byte)]) [0, 1] rfl
  have hFc := va_free (wc := [(h1, .inr (9, mX9 h2 h3 v1)), (h2, zi k2 600 f2), (h3, zi k3 12 f3)]) hD hS hA [1, 2, 3] rfl
  refine va_calll (va_runV (As := []) (rest := [.ref h0]) ⟨hx, hb, hml, hown, hG⟩ (sX9_firstWord_0 l dC dI adK adV h1 h2 h3 k2 k3 s.heap.size v1 f2 f3 hv1) (cwV 0 hG (zgV zv956 zv957 zv958 zv130 zv959) rfl rfl rfl (by decide +kernel) ⟨Nat.le_of_ble_eq_true rfl, Nat.le_of_ble_eq_true rfl⟩) ⟨zPc_blind, va_recv hKc hPc (ci := 9) (q0 := 0) rfl rfl, zPc_pre hPc hKc hDc hE hS hFc hZ⟩ rfl rfl hl.1 rfl (lv_room (Nat.le_of_ble_eq_true rfl)) dX11_look_5 ⟨Nat.le_of_ble_eq_true rfl, Nat.le_of_ble_eq_true rfl⟩) hS (fun q _ h => hFc q h) hFc (fun r5_ u5_ t H1 locs ht hvm hw hB hz1 hk1 hS => ?_)
  replace hw : (0 ≤ (u5_ 0).toInt ∧ (u5_ 0).toInt ≤ 12) ∧ (zFW f2 (v1 2).toInt r5_.toInt) := hw
  obtain ⟨b_, hX5_0⟩ := hw
  obtain ⟨w5_, a5_, b5_, hP1, hK1, hD1⟩ := hB
  rw [ht] at hP1
  obtain ⟨hP, hD⟩ := va_join (wr := [(h0, .inr (11, mX11 h1 h4 h11 h18 h23 h32 h33 h40 h48 h49 sp0 lw0)), (h4, .inr (10, mX10 h5 h6 h7 h8 h9 h10 v4)), (h5, .inl (k5, 400, .inr (.inl f5))), (h6, zi k6 400 f6), (h7, zi k7 400 f7), (h23, .inr (6, mX6 h24 h25 h26 h27 h28 h29 h30 h31 v23)), (h30, zi k30 400 f30), (h24, zi k24 1250 f24), (h25, zi k25 833 f25), (h26, zi k26 833 f26), (h27, zi k27 400 f27), (h28, zi k28 400 f28), (h29, zi k29 400 f29), (h31, zi k31 400 f31), (h18, .inr (0, mX0 h19 h20 h21 h22 v18))]) (w1 := [(h1, .inr (9, mX9 h2 h3 (upd v1 3 (u5_ 0)))), (h2, zi k2 600 f2), (h3, zi k3 12 (a5_ 0))]) hP hD [1, 2, 3] [0, 4, 5, 6, 7, 8, 9, 10, 11, 12, 13, 14, 15, 16, 17] rfl rfl (by decide) (by decide) hk1 hFc hP1 hD1
  have hP : va_P (dC, dI) vwCl [(h0, .inr (11, mX11 h1 h4 h11 h18 h23 h32 h33 h40 h48 h49 sp0 lw0)), (h1, .inr (9, mX9 h2 h3 (upd v1 3 (u5_ 0)))), (h2, zi k2 600 f2), (h3, zi k3 12 (a5_ 0)), (h4, .inr (10, mX10 h5 h6 h7 h8 h9 h10 v4)), (h5, .inl (k5, 400, .inr (.inl f5))), (h6, zi k6 400 f6), (h7, zi k7 400 f7), (h23, .inr (6, mX6 h24 h25 h26 h27 h28 h29 h30 h31 v23)), (h30, zi k30 400 f30), (h24, zi k24 1250 f24), (h25, zi k25 833 f25), (h26, zi k26 833 f26), (h27, zi k27 400 f27), (h28, zi k28 400 f28), (h29, zi k29 400 f29), (h31, zi k31 400 f31), (h18, .inr (0, mX0 h19 h20 h21 h22 v18))] H1 := hP.sub [0, 15, 16, 17, 1, 2, 3, 4, 5, 6, 7, 8, 9, 10, 11, 12, 13, 14] rfl
  have hD : va_D A [(h0, .inr (11, mX11 h1 h4 h11 h18 h23 h32 h33 h40 h48 h49 sp0 lw0)), (h1, .inr (9, mX9 h2 h3 (upd v1 3 (u5_ 0)))), (h2, zi k2 600 f2), (h3, zi k3 12 (a5_ 0)), (h4, .inr (10, mX10 h5 h6 h7 h8 h9 h10 v4)), (h5, .inl (k5, 400, .inr (.inl f5))), (h6, zi k6 400 f6), (h7, zi k7 400 f7), (h23, .inr (6, mX6 h24 h25 h26 h27 h28 h29 h30 h31 v23)), (h30, zi k30 400 f30), (h24, zi k24 1250 f24), (h25, zi k25 833 f25), (h26, zi k26 833 f26), (h27, zi k27 400 f27), (h28, zi k28 400 f28), (h29, zi k29 400 f29), (h31, zi k31 400 f31), (h18, .inr (0, mX0 h19 h20 h21 h22 v18))] := hD.sub [0, 15, 16, 17, 1, 2, 3, 4, 5, 6, 7, 8, 9, 10, 11, 12, 13, 14] (by decide) rfl
  generalize H1 = H at hP hS ⊢
  clear hz1
  refine va_put (D := (dC, dI)) (ci := 11) (v := .long r5_) (ty := .long) (C := RX11) (T := TX11) (N := 12) hx hb hG zuX11 tyX11 tyX11_ok nmX11 hown hK hP hD hS 0 rfl rfl 11 (by decide) (hG _ zv568) (fun _ h9 => h9) rfl (by decide +kernel) rfl rfl (Nat.le_of_ble_eq_true rfl) dX11_look_8 (fun H locs hP hD hS => ?_)
  have hP : va_P (dC, dI) vwCl [(h0, .inr (11, mX11 h1 h4 h11 h18 h23 h32 h33 h40 h48 h49 sp0 r5_)), (h1, .inr (9, mX9 h2 h3 (upd v1 3 (u5_ 0)))), (h2, zi k2 600 f2), (h3, zi k3 12 (a5_ 0)), (h4, .inr (10, mX10 h5 h6 h7 h8 h9 h10 v4)), (h5, .inl (k5, 400, .inr (.inl f5))), (h6, zi k6 400 f6), (h7, zi k7 400 f7), (h23, .inr (6, mX6 h24 h25 h26 h27 h28 h29 h30 h31 v23)), (h30, zi k30 400 f30), (h24, zi k24 1250 f24), (h25, zi k25 833 f25), (h26, zi k26 833 f26), (h27, zi k27 400 f27), (h28, zi k28 400 f28), (h29, zi k29 400 f29), (h31, zi k31 400 f31), (h18, .inr (0, mX0 h19 h20 h21 h22 v18))] H := hP
  have hD : va_D A [(h0, .inr (11, mX11 h1 h4 h11 h18 h23 h32 h33 h40 h48 h49 sp0 r5_)), (h1, .inr (9, mX9 h2 h3 (upd v1 3 (u5_ 0)))), (h2, zi k2 600 f2), (h3, zi k3 12 (a5_ 0)), (h4, .inr (10, mX10 h5 h6 h7 h8 h9 h10 v4)), (h5, .inl (k5, 400, .inr (.inl f5))), (h6, zi k6 400 f6), (h7, zi k7 400 f7), (h23, .inr (6, mX6 h24 h25 h26 h27 h28 h29 h30 h31 v23)), (h30, zi k30 400 f30), (h24, zi k24 1250 f24), (h25, zi k25 833 f25), (h26, zi k26 833 f26), (h27, zi k27 400 f27), (h28, zi k28 400 f28), (h29, zi k29 400 f29), (h31, zi k31 400 f31), (h18, .inr (0, mX0 h19 h20 h21 h22 v18))] := hD
  refine lv_aload_n hx hb dX11_look_11 rfl (lv_at hl 0 rfl) ?_
  refine va_get (D := (dC, dI)) (ci := 11) (v := .ref h1) (C := RX11) (T := TX11) (N := 12) hx hb hG zuX11 hown hK hP 0 rfl rfl 0 (by decide) (hG _ zv557) (fun _ h9 => h9) rfl dX11_look_12 ?_
  have hPc := hP.sub (ws' := [(h1, .inr (9, mX9 h2 h3 (upd v1 3 (u5_ 0))))]) [1] rfl
  have hDc := hD.sub (ws' := [(h1, .inr (9, mX9 h2 h3 (upd v1 3 (u5_ 0))))]) [1] (by decide) rfl
  have hKc := hK.sub (tys' := []) [] rfl
  have hFc := va_free (wc := [(h1, .inr (9, mX9 h2 h3 (upd v1 3 (u5_ 0))))]) hD hS hA [1] rfl
  refine va_callv (va_runV (As := []) (rest := []) ⟨hx, hb, hml, hown, hG⟩ (sX9_clear_0 l dC dI adK adV h1 h2 h3 H.size (upd v1 3 (u5_ 0)) (zR_up2 hv1 3 (show (0 : Int) ≤ ((u5_ 0) : Int32).toInt ∧ ((u5_ 0) : Int32).toInt ≤ (12 : Int) from (by first | with_reducible assumption | exact ⟨by omega, by omega⟩)))) (cwV 0 hG (zgV zv809 zv810 zv811 zv130 zv812) rfl rfl rfl (by decide +kernel) ⟨Nat.le_of_ble_eq_true rfl, Nat.le_of_ble_eq_true rfl⟩) ⟨zPc_blind, va_recv hKc hPc (ci := 9) (q0 := 0) rfl rfl, zPc_pre hPc hKc hDc hE hS hFc hZ⟩ rfl rfl hl.1 rfl (lv_room (Nat.le_of_ble_eq_true rfl)) dX11_look_15 ⟨Nat.le_of_ble_eq_true rfl, Nat.le_of_ble_eq_true rfl⟩) hS (fun q _ h => hFc q h) hFc (fun u15_ t H1 locs ht hvm hw hB hz1 hk1 hS => ?_)
  replace hw : (0 ≤ (u15_ 0).toInt ∧ (u15_ 0).toInt ≤ 0) ∧ ((u15_ 0).toInt = 0) := hw
  obtain ⟨b_, hX15_0⟩ := hw
  obtain ⟨w15_, a15_, b15_, hP1, hK1, hD1⟩ := hB
  rw [ht] at hP1
  obtain ⟨hP, hD⟩ := va_join (wr := [(h0, .inr (11, mX11 h1 h4 h11 h18 h23 h32 h33 h40 h48 h49 sp0 r5_)), (h2, zi k2 600 f2), (h3, zi k3 12 (a5_ 0)), (h4, .inr (10, mX10 h5 h6 h7 h8 h9 h10 v4)), (h5, .inl (k5, 400, .inr (.inl f5))), (h6, zi k6 400 f6), (h7, zi k7 400 f7), (h23, .inr (6, mX6 h24 h25 h26 h27 h28 h29 h30 h31 v23)), (h30, zi k30 400 f30), (h24, zi k24 1250 f24), (h25, zi k25 833 f25), (h26, zi k26 833 f26), (h27, zi k27 400 f27), (h28, zi k28 400 f28), (h29, zi k29 400 f29), (h31, zi k31 400 f31), (h18, .inr (0, mX0 h19 h20 h21 h22 v18))]) (w1 := [(h1, .inr (9, mX9 h2 h3 (upd (upd v1 2 (u15_ 0)) 3 (u5_ 0))))]) hP hD [1] [0, 2, 3, 4, 5, 6, 7, 8, 9, 10, 11, 12, 13, 14, 15, 16, 17] rfl rfl (by decide) (by decide) hk1 hFc hP1 hD1
  have hP : va_P (dC, dI) vwCl [(h0, .inr (11, mX11 h1 h4 h11 h18 h23 h32 h33 h40 h48 h49 sp0 r5_)), (h1, .inr (9, mX9 h2 h3 (upd (upd v1 2 (u15_ 0)) 3 (u5_ 0)))), (h2, zi k2 600 f2), (h3, zi k3 12 (a5_ 0)), (h4, .inr (10, mX10 h5 h6 h7 h8 h9 h10 v4)), (h5, .inl (k5, 400, .inr (.inl f5))), (h6, zi k6 400 f6), (h7, zi k7 400 f7), (h23, .inr (6, mX6 h24 h25 h26 h27 h28 h29 h30 h31 v23)), (h30, zi k30 400 f30), (h24, zi k24 1250 f24), (h25, zi k25 833 f25), (h26, zi k26 833 f26), (h27, zi k27 400 f27), (h28, zi k28 400 f28), (h29, zi k29 400 f29), (h31, zi k31 400 f31), (h18, .inr (0, mX0 h19 h20 h21 h22 v18))] H1 := hP.sub [0, 17, 1, 2, 3, 4, 5, 6, 7, 8, 9, 10, 11, 12, 13, 14, 15, 16] rfl
  have hD : va_D A [(h0, .inr (11, mX11 h1 h4 h11 h18 h23 h32 h33 h40 h48 h49 sp0 r5_)), (h1, .inr (9, mX9 h2 h3 (upd (upd v1 2 (u15_ 0)) 3 (u5_ 0)))), (h2, zi k2 600 f2), (h3, zi k3 12 (a5_ 0)), (h4, .inr (10, mX10 h5 h6 h7 h8 h9 h10 v4)), (h5, .inl (k5, 400, .inr (.inl f5))), (h6, zi k6 400 f6), (h7, zi k7 400 f7), (h23, .inr (6, mX6 h24 h25 h26 h27 h28 h29 h30 h31 v23)), (h30, zi k30 400 f30), (h24, zi k24 1250 f24), (h25, zi k25 833 f25), (h26, zi k26 833 f26), (h27, zi k27 400 f27), (h28, zi k28 400 f28), (h29, zi k29 400 f29), (h31, zi k31 400 f31), (h18, .inr (0, mX0 h19 h20 h21 h22 v18))] := hD.sub [0, 17, 1, 2, 3, 4, 5, 6, 7, 8, 9, 10, 11, 12, 13, 14, 15, 16] (by decide) rfl
  generalize H1 = H at hP hS ⊢
  clear hz1
  refine lv_aload_n hx hb dX11_look_18 rfl (lv_at hl 0 rfl) ?_
  refine va_get (D := (dC, dI)) (ci := 11) (v := .ref h23) (C := RX11) (T := TX11) (N := 12) hx hb hG zuX11 hown hK hP 0 rfl rfl 4 (by decide) (hG _ zv561) (fun _ h9 => h9) rfl dX11_look_19 ?_
  refine lv_aload_n hx hb dX11_look_22 rfl (lv_at hl 0 rfl) ?_
  refine va_get (D := (dC, dI)) (ci := 11) (v := .ref h4) (C := RX11) (T := TX11) (N := 12) hx hb hG zuX11 hown hK hP 0 rfl rfl 1 (by decide) (hG _ zv558) (fun _ h9 => h9) rfl dX11_look_23 ?_
  refine lv_aload_n hx hb dX11_look_26 rfl (lv_at hl 0 rfl) ?_
  refine va_get (D := (dC, dI)) (ci := 11) (v := .long r5_) (C := RX11) (T := TX11) (N := 12) hx hb hG zuX11 hown hK hP 0 rfl rfl 11 (by decide) (hG _ zv568) (fun _ h9 => h9) rfl dX11_look_27 ?_
  have hPc := hP.sub (ws' := [(h4, .inr (10, mX10 h5 h6 h7 h8 h9 h10 v4)), (h5, .inl (k5, 400, .inr (.inl f5))), (h6, zi k6 400 f6), (h7, zi k7 400 f7)]) [4, 5, 6, 7] rfl
  have hDc := hD.sub (ws' := [(h4, .inr (10, mX10 h5 h6 h7 h8 h9 h10 v4)), (h5, .inl (k5, 400, .inr (.inl f5))), (h6, zi k6 400 f6), (h7, zi k7 400 f7)]) [4, 5, 6, 7] (by decide) rfl
  have hKc := hK.sub (tys' := [(k5, .long), (k6, .int), (k7, .int)]) [2, 3, 4] rfl
  have hFc := va_free (wc := [(h4, .inr (10, mX10 h5 h6 h7 h8 h9 h10 v4)), (h5, .inl (k5, 400, .inr (.inl f5))), (h6, zi k6 400 f6), (h7, zi k7 400 f7)]) hD hS hA [4, 5, 6, 7] rfl
  refine va_calli (va_runV (As := [.long r5_]) (rest := [.ref h23]) ⟨hx, hb, hml, hown, hG⟩ (sX10_idOf_0 l dC dI adK adV h4 h5 h6 h7 h8 h9 h10 k5 k6 k7 H.size v4 f5 f6 f7 r5_ hv4 hf6 hf7) (cwV 1 hG (zgV zv968 zv748 zv749 zv131 zv750) rfl rfl rfl (by decide +kernel) ⟨Nat.le_of_ble_eq_true rfl, Nat.le_of_ble_eq_true rfl⟩) ⟨zPc_blind, va_recv hKc hPc (ci := 10) (q0 := 0) rfl rfl, zPc_pre hPc hKc hDc hE hS hFc hZ⟩ rfl rfl hl.1 rfl (lv_room (Nat.le_of_ble_eq_true rfl)) dX11_look_30 ⟨Nat.le_of_ble_eq_true rfl, Nat.le_of_ble_eq_true rfl⟩) hS (fun q _ h => hFc q h) hFc (fun r30_ u30_ t H1 locs ht hvm hw hB hz1 hk1 hS => ?_)
  replace hw : ((-1) ≤ r30_.toInt ∧ r30_.toInt ≤ 399) ∧ (∀ V : List Int, zVo f5 f6 f7 (v4 7).toInt V → zIf V r5_.toInt r30_.toInt) := hw
  obtain ⟨b_, hX30_0⟩ := hw
  obtain ⟨w30_, a30_, b30_, hP1, hK1, hD1⟩ := hB
  rw [ht] at hP1
  obtain ⟨hP, hD⟩ := va_join (wr := [(h0, .inr (11, mX11 h1 h4 h11 h18 h23 h32 h33 h40 h48 h49 sp0 r5_)), (h1, .inr (9, mX9 h2 h3 (upd (upd v1 2 (u15_ 0)) 3 (u5_ 0)))), (h2, zi k2 600 f2), (h3, zi k3 12 (a5_ 0)), (h23, .inr (6, mX6 h24 h25 h26 h27 h28 h29 h30 h31 v23)), (h30, zi k30 400 f30), (h24, zi k24 1250 f24), (h25, zi k25 833 f25), (h26, zi k26 833 f26), (h27, zi k27 400 f27), (h28, zi k28 400 f28), (h29, zi k29 400 f29), (h31, zi k31 400 f31), (h18, .inr (0, mX0 h19 h20 h21 h22 v18))]) (w1 := [(h4, .inr (10, mX10 h5 h6 h7 h8 h9 h10 v4)), (h5, .inl (k5, 400, .inr (.inl f5))), (h6, zi k6 400 f6), (h7, zi k7 400 f7)]) hP hD [4, 5, 6, 7] [0, 1, 2, 3, 8, 9, 10, 11, 12, 13, 14, 15, 16, 17] rfl rfl (by decide) (by decide) hk1 hFc hP1 hD1
  have hP : va_P (dC, dI) vwCl [(h0, .inr (11, mX11 h1 h4 h11 h18 h23 h32 h33 h40 h48 h49 sp0 r5_)), (h1, .inr (9, mX9 h2 h3 (upd (upd v1 2 (u15_ 0)) 3 (u5_ 0)))), (h2, zi k2 600 f2), (h3, zi k3 12 (a5_ 0)), (h4, .inr (10, mX10 h5 h6 h7 h8 h9 h10 v4)), (h5, .inl (k5, 400, .inr (.inl f5))), (h6, zi k6 400 f6), (h7, zi k7 400 f7), (h23, .inr (6, mX6 h24 h25 h26 h27 h28 h29 h30 h31 v23)), (h30, zi k30 400 f30), (h24, zi k24 1250 f24), (h25, zi k25 833 f25), (h26, zi k26 833 f26), (h27, zi k27 400 f27), (h28, zi k28 400 f28), (h29, zi k29 400 f29), (h31, zi k31 400 f31), (h18, .inr (0, mX0 h19 h20 h21 h22 v18))] H1 := hP.sub [0, 1, 2, 3, 14, 15, 16, 17, 4, 5, 6, 7, 8, 9, 10, 11, 12, 13] rfl
  have hD : va_D A [(h0, .inr (11, mX11 h1 h4 h11 h18 h23 h32 h33 h40 h48 h49 sp0 r5_)), (h1, .inr (9, mX9 h2 h3 (upd (upd v1 2 (u15_ 0)) 3 (u5_ 0)))), (h2, zi k2 600 f2), (h3, zi k3 12 (a5_ 0)), (h4, .inr (10, mX10 h5 h6 h7 h8 h9 h10 v4)), (h5, .inl (k5, 400, .inr (.inl f5))), (h6, zi k6 400 f6), (h7, zi k7 400 f7), (h23, .inr (6, mX6 h24 h25 h26 h27 h28 h29 h30 h31 v23)), (h30, zi k30 400 f30), (h24, zi k24 1250 f24), (h25, zi k25 833 f25), (h26, zi k26 833 f26), (h27, zi k27 400 f27), (h28, zi k28 400 f28), (h29, zi k29 400 f29), (h31, zi k31 400 f31), (h18, .inr (0, mX0 h19 h20 h21 h22 v18))] := hD.sub [0, 1, 2, 3, 14, 15, 16, 17, 4, 5, 6, 7, 8, 9, 10, 11, 12, 13] (by decide) rfl
  generalize H1 = H at hP hS ⊢
  clear hz1
  have hPc := hP.sub (ws' := [(h23, .inr (6, mX6 h24 h25 h26 h27 h28 h29 h30 h31 v23)), (h30, zi k30 400 f30)]) [8, 9] rfl
  have hDc := hD.sub (ws' := [(h23, .inr (6, mX6 h24 h25 h26 h27 h28 h29 h30 h31 v23)), (h30, zi k30 400 f30)]) [8, 9] (by decide) rfl
  have hKc := hK.sub (tys' := [(k30, .int)]) [5] rfl
  have hFc := va_free (wc := [(h23, .inr (6, mX6 h24 h25 h26 h27 h28 h29 h30 h31 v23)), (h30, zi k30 400 f30)]) hD hS hA [8, 9] rfl
  refine va_calli (va_runV (As := [.int r30_]) (rest := []) ⟨hx, hb, hml, hown, hG⟩ (sX6_documentsOf_0 l dC dI adK adV h23 h30 h24 h25 h26 h27 h28 h29 h31 k30 H.size v23 f30 r30_ hv23) (cwV 1 hG (zgV zv969 zv970 zv971 zv133 zv972) rfl rfl rfl (by decide +kernel) ⟨Nat.le_of_ble_eq_true rfl, Nat.le_of_ble_eq_true rfl⟩) ⟨zPc_blind, va_recv hKc hPc (ci := 6) (q0 := 0) rfl rfl, zPc_pre hPc hKc hDc hE hS hFc hZ⟩ rfl rfl hl.1 rfl (lv_room (Nat.le_of_ble_eq_true rfl)) dX11_look_33 ⟨Nat.le_of_ble_eq_true rfl, Nat.le_of_ble_eq_true rfl⟩) hS (fun q _ h => hFc q h) hFc (fun r33_ u33_ t H1 locs ht hvm hw hB hz1 hk1 hS => ?_)
  replace hw : (zW (0 ≤ r30_.toInt → r30_.toInt ≤ 399 → r33_.toInt = (f30 ((r30_ : Int32)).toNatClampNeg).toInt)) ∧ (r30_.toInt < 0 → r33_.toInt = 0) := hw
  obtain ⟨hX33_0, hX33_1⟩ := hw
  obtain ⟨w33_, a33_, b33_, hP1, hK1, hD1⟩ := hB
  rw [ht] at hP1
  obtain ⟨hP, hD⟩ := va_join (wr := [(h0, .inr (11, mX11 h1 h4 h11 h18 h23 h32 h33 h40 h48 h49 sp0 r5_)), (h1, .inr (9, mX9 h2 h3 (upd (upd v1 2 (u15_ 0)) 3 (u5_ 0)))), (h2, zi k2 600 f2), (h3, zi k3 12 (a5_ 0)), (h4, .inr (10, mX10 h5 h6 h7 h8 h9 h10 v4)), (h5, .inl (k5, 400, .inr (.inl f5))), (h6, zi k6 400 f6), (h7, zi k7 400 f7), (h24, zi k24 1250 f24), (h25, zi k25 833 f25), (h26, zi k26 833 f26), (h27, zi k27 400 f27), (h28, zi k28 400 f28), (h29, zi k29 400 f29), (h31, zi k31 400 f31), (h18, .inr (0, mX0 h19 h20 h21 h22 v18))]) (w1 := [(h23, .inr (6, mX6 h24 h25 h26 h27 h28 h29 h30 h31 v23)), (h30, zi k30 400 f30)]) hP hD [8, 9] [0, 1, 2, 3, 4, 5, 6, 7, 10, 11, 12, 13, 14, 15, 16, 17] rfl rfl (by decide) (by decide) hk1 hFc hP1 hD1
  have hP : va_P (dC, dI) vwCl [(h0, .inr (11, mX11 h1 h4 h11 h18 h23 h32 h33 h40 h48 h49 sp0 r5_)), (h1, .inr (9, mX9 h2 h3 (upd (upd v1 2 (u15_ 0)) 3 (u5_ 0)))), (h2, zi k2 600 f2), (h3, zi k3 12 (a5_ 0)), (h4, .inr (10, mX10 h5 h6 h7 h8 h9 h10 v4)), (h5, .inl (k5, 400, .inr (.inl f5))), (h6, zi k6 400 f6), (h7, zi k7 400 f7), (h23, .inr (6, mX6 h24 h25 h26 h27 h28 h29 h30 h31 v23)), (h30, zi k30 400 f30), (h24, zi k24 1250 f24), (h25, zi k25 833 f25), (h26, zi k26 833 f26), (h27, zi k27 400 f27), (h28, zi k28 400 f28), (h29, zi k29 400 f29), (h31, zi k31 400 f31), (h18, .inr (0, mX0 h19 h20 h21 h22 v18))] H1 := hP.sub [0, 1, 2, 3, 4, 5, 6, 7, 16, 17, 8, 9, 10, 11, 12, 13, 14, 15] rfl
  have hD : va_D A [(h0, .inr (11, mX11 h1 h4 h11 h18 h23 h32 h33 h40 h48 h49 sp0 r5_)), (h1, .inr (9, mX9 h2 h3 (upd (upd v1 2 (u15_ 0)) 3 (u5_ 0)))), (h2, zi k2 600 f2), (h3, zi k3 12 (a5_ 0)), (h4, .inr (10, mX10 h5 h6 h7 h8 h9 h10 v4)), (h5, .inl (k5, 400, .inr (.inl f5))), (h6, zi k6 400 f6), (h7, zi k7 400 f7), (h23, .inr (6, mX6 h24 h25 h26 h27 h28 h29 h30 h31 v23)), (h30, zi k30 400 f30), (h24, zi k24 1250 f24), (h25, zi k25 833 f25), (h26, zi k26 833 f26), (h27, zi k27 400 f27), (h28, zi k28 400 f28), (h29, zi k29 400 f29), (h31, zi k31 400 f31), (h18, .inr (0, mX0 h19 h20 h21 h22 v18))] := hD.sub [0, 1, 2, 3, 4, 5, 6, 7, 16, 17, 8, 9, 10, 11, 12, 13, 14, 15] (by decide) rfl
  generalize H1 = H at hP hS ⊢
  clear hz1
  refine W.widen (k := 0) (n := 0) (by decide) (by decide) ?_
  have b_ : -2147483648 ≤ r33_.toInt ∧ r33_.toInt ≤ 2147483647 := ⟨zlo _, zhi _⟩
  have hpost : (0 ≤ (u15_ 0).toInt ∧ (u15_ 0).toInt ≤ 0) ∧ (0 ≤ (u5_ 0).toInt ∧ (u5_ 0).toInt ≤ 12) ∧ (zLc f2 (v1 2).toInt f5 f6 f7 (v4 7).toInt f24 f25 f26 f27 f28 f29 (v23 8).toInt (v23 9).toInt (v23 10).toInt (v23 11).toInt f30 f31 (v18 4).toInt r33_.toInt) := ⟨(by first | with_reducible assumption | exact ⟨by omega, by omega⟩), (by first | with_reducible assumption | exact ⟨by omega, by omega⟩), by exact zLc_i hX5_0 hX30_0 hX33_0 (by omega)⟩
  have hP9 : va_P (dC, dI) vwCl [(h0, .inr (11, mX11 h1 h4 h11 h18 h23 h32 h33 h40 h48 h49 sp0 r5_)), (h1, .inr (9, mX9 h2 h3 (upd (upd v1 2 (u15_ 0)) 3 (u5_ 0)))), (h2, zi k2 600 f2), (h3, zi k3 12 (a5_ 0)), (h4, .inr (10, mX10 h5 h6 h7 h8 h9 h10 v4)), (h5, .inl (k5, 400, .inr (.inl f5))), (h6, zi k6 400 f6), (h7, zi k7 400 f7), (h23, .inr (6, mX6 h24 h25 h26 h27 h28 h29 h30 h31 v23)), (h30, zi k30 400 f30), (h24, zi k24 1250 f24), (h25, zi k25 833 f25), (h26, zi k26 833 f26), (h27, zi k27 400 f27), (h28, zi k28 400 f28), (h29, zi k29 400 f29), (h31, zi k31 400 f31), (h18, .inr (0, mX0 h19 h20 h21 h22 v18))] H := hP
  have hD9 : va_D A [(h0, .inr (11, mX11 h1 h4 h11 h18 h23 h32 h33 h40 h48 h49 sp0 r5_)), (h1, .inr (9, mX9 h2 h3 (upd (upd v1 2 (u15_ 0)) 3 (u5_ 0)))), (h2, zi k2 600 f2), (h3, zi k3 12 (a5_ 0)), (h4, .inr (10, mX10 h5 h6 h7 h8 h9 h10 v4)), (h5, .inl (k5, 400, .inr (.inl f5))), (h6, zi k6 400 f6), (h7, zi k7 400 f7), (h23, .inr (6, mX6 h24 h25 h26 h27 h28 h29 h30 h31 v23)), (h30, zi k30 400 f30), (h24, zi k24 1250 f24), (h25, zi k25 833 f25), (h26, zi k26 833 f26), (h27, zi k27 400 f27), (h28, zi k28 400 f28), (h29, zi k29 400 f29), (h31, zi k31 400 f31), (h18, .inr (0, mX0 h19 h20 h21 h22 v18))] := hD
  have hB0 : zFW f2 (v1 2).toInt r5_.toInt := by exact hX5_0
  exact W.iret (v := r33_) hx hb hr (fun t ht hW => ⟨⟨r33_, (fun i => ([(u15_ 0), (u5_ 0)] : List (Int32)).getD i 0), rfl, hpost, (fun i => ([r5_] : List (Int64)).getD i 0), (fun i => ([(a5_ 0)] : List (Nat → Int32)).getD i (fun _ => 0)), (fun _ => (fun _ => 0)), hB0, by rw [ht]; exact hP9, va_K.moved hW.alike hK, hD9⟩, hS.F ht⟩) hS.2.2 dX11_look_36
set_option maxHeartbeats 8000000 in
set_option maxRecDepth 100000 in
theorem sX8_tallyDocuments_0 (l : Launch) (dC : Nat → ClassId) (dI : Nat → Nat → Nat) (adK adV : Nat → Nat) (h0 : Nat) (h1 : Nat) (h4 : Nat) (h3 : Nat) (h2 : Nat) (h5 : Nat) (h6 : Nat) (h7 : Nat) (h10 : Nat) (h11 : Nat) (h8 : Nat) (h9 : Nat) (h12 : Nat) (h13 : Nat) (h14 : Nat) (k4 : ClassId) (k3 : ClassId) (k2 : ClassId) (k5 : ClassId) (k6 : ClassId) (k7 : ClassId) (k11 : ClassId) (sz : Nat) (v0 : Nat → Int32) (v1 : Nat → Int32) (f4 : Nat → Int32) (f3 : Nat → Int32) (f2 : Nat → Int32) (f5 : Nat → Int32) (f6 : Nat → Int32) (f7 : Nat → Int32) (v10 : Nat → Int32) (f11 : Nat → Int32) (hv1 : zR rg_Postings v1) (hf3 : zA 0 1250 f3) (hf6 : zA 0 832 f6) (hv10 : zR rg_Documents v10) : Met l yX8_tallyDocuments (zw yX8_tallyDocuments cX8_tallyDocuments 4 (some .int)) { frames := 4, cells := 0, slots := 0, locals := 88 } (zPc dC dI adK adV [.ref h0, .ref h10] sz [(h0, .inr (8, mX8 h1 v0)), (h1, .inr (6, mX6 h2 h3 h4 h5 h6 h7 h8 h9 v1)), (h4, zi k4 833 f4), (h3, zi k3 833 f3), (h2, zi k2 1250 f2), (h5, zi k5 400 f5), (h6, zi k6 400 f6), (h7, zi k7 400 f7), (h10, .inr (0, mX0 h11 h12 h13 h14 v10)), (h11, zi k11 120 f11)] [(k4, .int), (k3, .int), (k2, .int), (k5, .int), (k6, .int), (k7, .int), (k11, .boolean)]) (va_Qi (fun (r : Int32) (u : Nat → Int32) => (0 ≤ r.toInt ∧ r.toInt ≤ 120) ∧ (zQf zf1 f2 f3 f4 f5 f6 f7 (v1 8).toInt (v1 9).toInt (v1 10).toInt (v1 11).toInt f11 (v10 4).toInt (v0 1).toInt (v0 2).toInt (v0 3).toInt (v0 4).toInt (v0 5).toInt (v0 7).toInt r.toInt)) (fun (u : Nat → Int32) (t : State) => ∃ (ww : Nat → Int64) (aa : Nat → Nat → Int32) (bb : Nat → Nat → Int64), va_P (dC, dI) vwCl [(h0, .inr (8, mX8 h1 (upd (upd (upd (upd (upd (upd (upd (upd v0 1 (u 0)) 2 (u 1)) 3 (u 2)) 4 (u 3)) 5 (u 4)) 6 (u 5)) 7 (u 6)) 8 (u 7)))), (h1, .inr (6, mX6 h2 h3 h4 h5 h6 h7 h8 h9 v1)), (h4, zi k4 833 f4), (h3, zi k3 833 f3), (h2, zi k2 1250 f2), (h5, zi k5 400 f5), (h6, zi k6 400 f6), (h7, zi k7 400 f7), (h10, .inr (0, mX0 h11 h12 h13 h14 v10)), (h11, zi k11 120 f11)] t.heap ∧ va_K (dC, dI) vwCl [(k4, .int), (k3, .int), (k2, .int), (k5, .int), (k6, .int), (k7, .int), (k11, .boolean)] t ∧ va_D (va_A [(h0, .inr (8, mX8 h1 v0)), (h1, .inr (6, mX6 h2 h3 h4 h5 h6 h7 h8 h9 v1)), (h4, zi k4 833 f4), (h3, zi k3 833 f3), (h2, zi k2 1250 f2), (h5, zi k5 400 f5), (h6, zi k6 400 f6), (h7, zi k7 400 f7), (h10, .inr (0, mX0 h11 h12 h13 h14 v10)), (h11, zi k11 120 f11)] sz) [(h0, .inr (8, mX8 h1 (upd (upd (upd (upd (upd (upd (upd (upd v0 1 (u 0)) 2 (u 1)) 3 (u 2)) 4 (u 3)) 5 (u 4)) 6 (u 5)) 7 (u 6)) 8 (u 7)))), (h1, .inr (6, mX6 h2 h3 h4 h5 h6 h7 h8 h9 v1)), (h4, zi k4 833 f4), (h3, zi k3 833 f3), (h2, zi k2 1250 f2), (h5, zi k5 400 f5), (h6, zi k6 400 f6), (h7, zi k7 400 f7), (h10, .inr (0, mX0 h11 h12 h13 h14 v10)), (h11, zi k11 120 f11)]) (va_A [(h0, .inr (8, mX8 h1 v0)), (h1, .inr (6, mX6 h2 h3 h4 h5 h6 h7 h8 h9 v1)), (h4, zi k4 833 f4), (h3, zi k3 833 f3), (h2, zi k2 1250 f2), (h5, zi k5 400 f5), (h6, zi k6 400 f6), (h7, zi k7 400 f7), (h10, .inr (0, mX0 h11 h12 h13 h14 v10)), (h11, zi k11 120 f11)] sz)) 0 0 (va_A [(h0, .inr (8, mX8 h1 v0)), (h1, .inr (6, mX6 h2 h3 h4 h5 h6 h7 h8 h9 v1)), (h4, zi k4 833 f4), (h3, zi k3 833 f3), (h2, zi k2 1250 f2), (h5, zi k5 400 f5), (h6, zi k6 400 f6), (h7, zi k7 400 f7), (h10, .inr (0, mX0 h11 h12 h13 h14 v10)), (h11, zi k11 120 f11)] sz) := by
  refine Met.ofW (cc := cX8_tallyDocuments) (maxL := 4) (ret := (some .int)) (by decide) rfl ?_
  intro p e s m args below meth c s₁ B hml hv
  obtain ⟨rfl, hsz, hP, hK, hD0, hE, hZ⟩ := hv
  have hx := B.exec
  have hb := B.bytes
  have hr := B.returns
  have hG : ∀ w ∈ zG, w.before _ s = true := fun w h => atoms_spec (ws := (zw yX8_tallyDocuments cX8_tallyDocuments 4 (some .int))) B.pre w (List.mem_cons_of_mem _ h)
  have hown : s.vm.findClass RX8 = some m.cls := findClass_of_methodNamed B.named
  have hlocks := B.notSynchronized

  subst hsz
  have hD := hD0.self (sz := s.heap.size)
  generalize hAe : va_A [(h0, .inr (8, mX8 h1 v0)), (h1, .inr (6, mX6 h2 h3 h4 h5 h6 h7 h8 h9 v1)), (h4, zi k4 833 f4), (h3, zi k3 833 f3), (h2, zi k2 1250 f2), (h5, zi k5 400 f5), (h6, zi k6 400 f6), (h7, zi k7 400 f7), (h10, .inr (0, mX0 h11 h12 h13 h14 v10)), (h11, zi k11 120 f11)] s.heap.size = A at hD hZ ⊢
  have hA : ∀ q : Nat, s.heap.size ≤ q → A q := fun q h => by rw [← hAe]; exact Or.inr h
  have hS : va_S A s.heap s.heap [] := va_S.rf
  have hl := lv_entry ([.ref h0, .ref h10]) (n := 4) (Nat.le_of_ble_eq_true rfl)
  rw [lg_entry_eq]
  generalize (lg_sl ([.ref h0, .ref h10]) ++ List.replicate (4 - (lg_sl ([.ref h0, .ref h10])).length) Slot.unset).toArray = ls at hl ⊢
  have hl : lv_has ls 4 [(0, .ref h0), (1, .ref h10)] := hl
  have b_ := zk_0
  have b_ : 0 ≤ (v1 8).toInt ∧ (v1 8).toInt ≤ 833 := hv1 8
  have b_ : 0 ≤ (v1 9).toInt ∧ (v1 9).toInt ≤ 1250 := hv1 9
  have b_ : -2147483648 ≤ (v1 10).toInt ∧ (v1 10).toInt ≤ 2147483647 := ⟨zlo _, zhi _⟩
  have b_ : -2147483648 ≤ (v1 11).toInt ∧ (v1 11).toInt ≤ 2147483647 := ⟨zlo _, zhi _⟩
  have b_ : 0 ≤ (v10 4).toInt ∧ (v10 4).toInt ≤ 120 := hv10 4
  have b_ : -2147483648 ≤ (v0 1).toInt ∧ (v0 1).toInt ≤ 2147483647 := ⟨zlo _, zhi _⟩
  have b_ : -2147483648 ≤ (v0 2).toInt ∧ (v0 2).toInt ≤ 2147483647 := ⟨zlo _, zhi _⟩
  have b_ : -2147483648 ≤ (v0 3).toInt ∧ (v0 3).toInt ≤ 2147483647 := ⟨zlo _, zhi _⟩
  have b_ : -2147483648 ≤ (v0 4).toInt ∧ (v0 4).toInt ≤ 2147483647 := ⟨zlo _, zhi _⟩
  have b_ : -2147483648 ≤ (v0 5).toInt ∧ (v0 5).toInt ≤ 2147483647 := ⟨zlo _, zhi _⟩
  have b_ : -2147483648 ≤ (v0 7).toInt ∧ (v0 7).toInt ≤ 2147483647 := ⟨zlo _, zhi _⟩
  refine lv_iconst (v := 0) hx hb dX8_tallyDocuments_0 (by decide) ?_
  refine lv_istore_n (lv' := [(2, .int 0), (0, .ref h0), (1, .ref h10)]) hx hb dX8_tallyDocuments_1 rfl hl (by decide) rfl (fun ls hl => ?_)
  refine lv_iconst (v := 0) hx hb dX8_tallyDocuments_2 (by decide) ?_
  refine lv_istore_n (lv' := [(3, .int 0), (2, .int 0), (0, .ref h0), (1, .ref h10)]) hx hb dX8_tallyDocuments_3 rfl hl (by decide) rfl (fun ls hl => ?_)
  refine zcutL (fun u4_ => (120 - (u4_ 1).toInt).toNat) (fun H locs ls u4_ w4_ a4_ b4_ => va_P (dC, dI) vwCl [(h0, .inr (8, mX8 h1 (upd (upd (upd (upd (upd (upd (upd (upd v0 1 (u4_ 2)) 2 (u4_ 3)) 3 (u4_ 4)) 4 (u4_ 5)) 5 (u4_ 6)) 6 (u4_ 7)) 7 (u4_ 8)) 8 (u4_ 9)))), (h1, .inr (6, mX6 h2 h3 h4 h5 h6 h7 h8 h9 v1)), (h4, zi k4 833 f4), (h3, zi k3 833 f3), (h2, zi k2 1250 f2), (h5, zi k5 400 f5), (h6, zi k6 400 f6), (h7, zi k7 400 f7), (h10, .inr (0, mX0 h11 h12 h13 h14 v10)), (h11, zi k11 120 f11)] H ∧ va_D A [(h0, .inr (8, mX8 h1 (upd (upd (upd (upd (upd (upd (upd (upd v0 1 (u4_ 2)) 2 (u4_ 3)) 3 (u4_ 4)) 4 (u4_ 5)) 5 (u4_ 6)) 6 (u4_ 7)) 7 (u4_ 8)) 8 (u4_ 9)))), (h1, .inr (6, mX6 h2 h3 h4 h5 h6 h7 h8 h9 v1)), (h4, zi k4 833 f4), (h3, zi k3 833 f3), (h2, zi k2 1250 f2), (h5, zi k5 400 f5), (h6, zi k6 400 f6), (h7, zi k7 400 f7), (h10, .inr (0, mX0 h11 h12 h13 h14 v10)), (h11, zi k11 120 f11)] ∧ va_S A s.heap H locs ∧ lv_has ls 4 [(0, .ref h0), (1, .ref h10), (2, .int (u4_ 0)), (3, .int (u4_ 1))] ∧ (0 ≤ (u4_ 0).toInt ∧ (u4_ 0).toInt ≤ 120) ∧ (0 ≤ (u4_ 1).toInt ∧ (u4_ 1).toInt ≤ 120) ∧ (zQo zf1 f2 f3 f4 f5 f6 f7 (v1 8).toInt (v1 9).toInt (v1 10).toInt (v1 11).toInt f11 (v10 4).toInt (v0 1).toInt (v0 2).toInt (v0 3).toInt (v0 4).toInt (v0 5).toInt (v0 7).toInt (u4_ 2).toInt (u4_ 3).toInt (u4_ 4).toInt (u4_ 5).toInt (u4_ 6).toInt (u4_ 8).toInt (u4_ 1).toInt (u4_ 0).toInt) ∧ ((u4_ 0).toInt ≤ (u4_ 1).toInt) ∧ (0 ≤ (u4_ 0).toInt)) (fun ls u4_ w4_ => F0 m 4 ls []) 0 0 ?_ (fun hJ4 => ?_)
  · skip
    intro H locs ls u4_ w4_ a4_ b4_ hc hJ4
    obtain ⟨hP, hD, hS, hl, b_, b_, hI4_0, b_, b_⟩ := hc
    refine lv_iload_n hx hb dX8_tallyDocuments_4 rfl (lv_at hl 3 rfl) ?_
    refine lv_bipush (v := 120) hx hb dX8_tallyDocuments_5 (by decide) ?_
    refine lv_icmp_ge (tgt := 37) hx hb dX8_tallyDocuments_7 (by decide) (fun c_ => ?_) (fun c_ => ?_)
    · skip
      have b_ := zT_ge rfl zk_120 c_
      refine lv_iload_n hx hb dX8_tallyDocuments_37 rfl (lv_at hl 2 rfl) ?_
      refine W.widen (k := 0) (n := 0) (by decide) (by decide) ?_
      have b_ : -2147483648 ≤ (u4_ 2).toInt ∧ (u4_ 2).toInt ≤ 2147483647 := ⟨zlo _, zhi _⟩
      have b_ : -2147483648 ≤ (u4_ 3).toInt ∧ (u4_ 3).toInt ≤ 2147483647 := ⟨zlo _, zhi _⟩
      have b_ : -2147483648 ≤ (u4_ 4).toInt ∧ (u4_ 4).toInt ≤ 2147483647 := ⟨zlo _, zhi _⟩
      have b_ : -2147483648 ≤ (u4_ 5).toInt ∧ (u4_ 5).toInt ≤ 2147483647 := ⟨zlo _, zhi _⟩
      have b_ : -2147483648 ≤ (u4_ 6).toInt ∧ (u4_ 6).toInt ≤ 2147483647 := ⟨zlo _, zhi _⟩
      have b_ : -2147483648 ≤ (u4_ 7).toInt ∧ (u4_ 7).toInt ≤ 2147483647 := ⟨zlo _, zhi _⟩
      have b_ : -2147483648 ≤ (u4_ 8).toInt ∧ (u4_ 8).toInt ≤ 2147483647 := ⟨zlo _, zhi _⟩
      have b_ : -2147483648 ≤ (u4_ 9).toInt ∧ (u4_ 9).toInt ≤ 2147483647 := ⟨zlo _, zhi _⟩
      have hpost : (0 ≤ (u4_ 0).toInt ∧ (u4_ 0).toInt ≤ 120) ∧ (zQf zf1 f2 f3 f4 f5 f6 f7 (v1 8).toInt (v1 9).toInt (v1 10).toInt (v1 11).toInt f11 (v10 4).toInt (v0 1).toInt (v0 2).toInt (v0 3).toInt (v0 4).toInt (v0 5).toInt (v0 7).toInt (u4_ 0).toInt) := ⟨(by first | with_reducible assumption | exact ⟨by omega, by omega⟩), by first | exact zQf_n zf1_b hI4_0 hX11_0 (by omega) rfl | exact zQf_i hI4_0 (by omega) rfl⟩
      have hP9 : va_P (dC, dI) vwCl [(h0, .inr (8, mX8 h1 (upd (upd (upd (upd (upd (upd (upd (upd v0 1 (u4_ 2)) 2 (u4_ 3)) 3 (u4_ 4)) 4 (u4_ 5)) 5 (u4_ 6)) 6 (u4_ 7)) 7 (u4_ 8)) 8 (u4_ 9)))), (h1, .inr (6, mX6 h2 h3 h4 h5 h6 h7 h8 h9 v1)), (h4, zi k4 833 f4), (h3, zi k3 833 f3), (h2, zi k2 1250 f2), (h5, zi k5 400 f5), (h6, zi k6 400 f6), (h7, zi k7 400 f7), (h10, .inr (0, mX0 h11 h12 h13 h14 v10)), (h11, zi k11 120 f11)] H := hP
      have hD9 : va_D A [(h0, .inr (8, mX8 h1 (upd (upd (upd (upd (upd (upd (upd (upd v0 1 (u4_ 2)) 2 (u4_ 3)) 3 (u4_ 4)) 4 (u4_ 5)) 5 (u4_ 6)) 6 (u4_ 7)) 7 (u4_ 8)) 8 (u4_ 9)))), (h1, .inr (6, mX6 h2 h3 h4 h5 h6 h7 h8 h9 v1)), (h4, zi k4 833 f4), (h3, zi k3 833 f3), (h2, zi k2 1250 f2), (h5, zi k5 400 f5), (h6, zi k6 400 f6), (h7, zi k7 400 f7), (h10, .inr (0, mX0 h11 h12 h13 h14 v10)), (h11, zi k11 120 f11)] := hD
      exact W.iret (v := (u4_ 0)) hx hb hr (fun t ht hW => ⟨⟨(u4_ 0), (fun i => ([(u4_ 2), (u4_ 3), (u4_ 4), (u4_ 5), (u4_ 6), (u4_ 7), (u4_ 8), (u4_ 9)] : List (Int32)).getD i 0), rfl, hpost, (fun _ => 0), (fun _ => (fun _ => 0)), (fun _ => (fun _ => 0)), by rw [ht]; exact hP9, va_K.moved hW.alike hK, hD9⟩, hS.F ht⟩) hS.2.2 dX8_tallyDocuments_38
    · skip
      have b_ := zF_ge rfl zk_120 c_
      refine lv_aload_n hx hb dX8_tallyDocuments_10 rfl (lv_at hl 0 rfl) ?_
      have b_ : -2147483648 ≤ (u4_ 2).toInt ∧ (u4_ 2).toInt ≤ 2147483647 := ⟨zlo _, zhi _⟩
      have b_ : -2147483648 ≤ (u4_ 3).toInt ∧ (u4_ 3).toInt ≤ 2147483647 := ⟨zlo _, zhi _⟩
      have b_ : -2147483648 ≤ (u4_ 4).toInt ∧ (u4_ 4).toInt ≤ 2147483647 := ⟨zlo _, zhi _⟩
      have b_ : -2147483648 ≤ (u4_ 5).toInt ∧ (u4_ 5).toInt ≤ 2147483647 := ⟨zlo _, zhi _⟩
      have b_ : -2147483648 ≤ (u4_ 6).toInt ∧ (u4_ 6).toInt ≤ 2147483647 := ⟨zlo _, zhi _⟩
      have b_ : -2147483648 ≤ (u4_ 7).toInt ∧ (u4_ 7).toInt ≤ 2147483647 := ⟨zlo _, zhi _⟩
      have b_ : -2147483648 ≤ (u4_ 8).toInt ∧ (u4_ 8).toInt ≤ 2147483647 := ⟨zlo _, zhi _⟩
      have b_ : -2147483648 ≤ (u4_ 9).toInt ∧ (u4_ 9).toInt ≤ 2147483647 := ⟨zlo _, zhi _⟩
      have hPc := hP.sub (ws' := [(h0, .inr (8, mX8 h1 (upd (upd (upd (upd (upd (upd (upd (upd v0 1 (u4_ 2)) 2 (u4_ 3)) 3 (u4_ 4)) 4 (u4_ 5)) 5 (u4_ 6)) 6 (u4_ 7)) 7 (u4_ 8)) 8 (u4_ 9)))), (h1, .inr (6, mX6 h2 h3 h4 h5 h6 h7 h8 h9 v1)), (h4, zi k4 833 f4), (h3, zi k3 833 f3), (h2, zi k2 1250 f2), (h5, zi k5 400 f5), (h6, zi k6 400 f6), (h7, zi k7 400 f7)]) [0, 1, 2, 3, 4, 5, 6, 7] rfl
      have hDc := hD.sub (ws' := [(h0, .inr (8, mX8 h1 (upd (upd (upd (upd (upd (upd (upd (upd v0 1 (u4_ 2)) 2 (u4_ 3)) 3 (u4_ 4)) 4 (u4_ 5)) 5 (u4_ 6)) 6 (u4_ 7)) 7 (u4_ 8)) 8 (u4_ 9)))), (h1, .inr (6, mX6 h2 h3 h4 h5 h6 h7 h8 h9 v1)), (h4, zi k4 833 f4), (h3, zi k3 833 f3), (h2, zi k2 1250 f2), (h5, zi k5 400 f5), (h6, zi k6 400 f6), (h7, zi k7 400 f7)]) [0, 1, 2, 3, 4, 5, 6, 7] (by decide) rfl
      have hKc := hK.sub (tys' := [(k4, .int), (k3, .int), (k2, .int), (k5, .int), (k6, .int), (k7, .int)]) [0, 1, 2, 3, 4, 5] rfl
      have hFc := va_free (wc := [(h0, .inr (8, mX8 h1 (upd (upd (upd (upd (upd (upd (upd (upd v0 1 (u4_ 2)) 2 (u4_ 3)) 3 (u4_ 4)) 4 (u4_ 5)) 5 (u4_ 6)) 6 (u4_ 7)) 7 (u4_ 8)) 8 (u4_ 9)))), (h1, .inr (6, mX6 h2 h3 h4 h5 h6 h7 h8 h9 v1)), (h4, zi k4 833 f4), (h3, zi k3 833 f3), (h2, zi k2 1250 f2), (h5, zi k5 400 f5), (h6, zi k6 400 f6), (h7, zi k7 400 f7)]) hD hS hA [0, 1, 2, 3, 4, 5, 6, 7] rfl
      refine va_calli (va_runV (As := []) (rest := []) ⟨hx, hb, hml, hown, hG⟩ (sX8_nextDocument_0 l dC dI adK adV h0 h1 h4 h3 h2 h5 h6 h7 h8 h9 k4 k3 k2 k5 k6 k7 H.size (upd (upd (upd (upd (upd (upd (upd (upd v0 1 (u4_ 2)) 2 (u4_ 3)) 3 (u4_ 4)) 4 (u4_ 5)) 5 (u4_ 6)) 6 (u4_ 7)) 7 (u4_ 8)) 8 (u4_ 9)) v1 f4 f3 f2 f5 f6 f7 hv1 hf3 hf6) (cwV 0 hG (zgV zv983 zv911 zv912 zv134 zv913) rfl rfl rfl (by decide +kernel) ⟨Nat.le_of_ble_eq_true rfl, Nat.le_of_ble_eq_true rfl⟩) ⟨zPc_blind, va_recv hKc hPc (ci := 8) (q0 := 0) rfl rfl, zPc_pre hPc hKc hDc hE hS hFc hZ⟩ rfl rfl hl.1 rfl (lv_room (Nat.le_of_ble_eq_true rfl)) dX8_tallyDocuments_11 ⟨Nat.le_of_ble_eq_true rfl, Nat.le_of_ble_eq_true rfl⟩) hS (fun q _ h => hFc q h) hFc (fun r11_ u11_ t H1 locs ht hvm hw hB hz1 hk1 hS => ?_)
      replace hw : (0 ≤ r11_.toInt ∧ r11_.toInt ≤ 1) ∧ (zNo f2 f3 f4 f5 f6 f7 (v1 8).toInt (v1 9).toInt (v1 10).toInt (v1 11).toInt (u4_ 2).toInt (u4_ 3).toInt (u4_ 4).toInt (u4_ 5).toInt (u11_ 0).toInt (u11_ 1).toInt (u11_ 2).toInt (u11_ 3).toInt (u4_ 8).toInt (u4_ 6).toInt (u11_ 4).toInt (u11_ 5).toInt (u11_ 6).toInt (u11_ 7).toInt r11_.toInt) := hw
      obtain ⟨b_, hX11_0⟩ := hw
      obtain ⟨w11_, a11_, b11_, hP1, hK1, hD1⟩ := hB
      rw [ht] at hP1
      obtain ⟨hP, hD⟩ := va_join (wr := [(h10, .inr (0, mX0 h11 h12 h13 h14 v10)), (h11, zi k11 120 f11)]) (w1 := [(h0, .inr (8, mX8 h1 (upd (upd (upd (upd (upd (upd (upd (upd v0 1 (u11_ 0)) 2 (u11_ 1)) 3 (u11_ 2)) 4 (u11_ 3)) 5 (u11_ 4)) 6 (u11_ 5)) 7 (u11_ 6)) 8 (u11_ 7)))), (h1, .inr (6, mX6 h2 h3 h4 h5 h6 h7 h8 h9 v1)), (h4, zi k4 833 f4), (h3, zi k3 833 f3), (h2, zi k2 1250 f2), (h5, zi k5 400 f5), (h6, zi k6 400 f6), (h7, zi k7 400 f7)]) hP hD [0, 1, 2, 3, 4, 5, 6, 7] [8, 9] rfl rfl (by decide) (by decide) hk1 hFc hP1 hD1
      have hP : va_P (dC, dI) vwCl [(h0, .inr (8, mX8 h1 (upd (upd (upd (upd (upd (upd (upd (upd v0 1 (u11_ 0)) 2 (u11_ 1)) 3 (u11_ 2)) 4 (u11_ 3)) 5 (u11_ 4)) 6 (u11_ 5)) 7 (u11_ 6)) 8 (u11_ 7)))), (h1, .inr (6, mX6 h2 h3 h4 h5 h6 h7 h8 h9 v1)), (h4, zi k4 833 f4), (h3, zi k3 833 f3), (h2, zi k2 1250 f2), (h5, zi k5 400 f5), (h6, zi k6 400 f6), (h7, zi k7 400 f7), (h10, .inr (0, mX0 h11 h12 h13 h14 v10)), (h11, zi k11 120 f11)] H1 := hP.sub [2, 3, 4, 5, 6, 7, 8, 9, 0, 1] rfl
      have hD : va_D A [(h0, .inr (8, mX8 h1 (upd (upd (upd (upd (upd (upd (upd (upd v0 1 (u11_ 0)) 2 (u11_ 1)) 3 (u11_ 2)) 4 (u11_ 3)) 5 (u11_ 4)) 6 (u11_ 5)) 7 (u11_ 6)) 8 (u11_ 7)))), (h1, .inr (6, mX6 h2 h3 h4 h5 h6 h7 h8 h9 v1)), (h4, zi k4 833 f4), (h3, zi k3 833 f3), (h2, zi k2 1250 f2), (h5, zi k5 400 f5), (h6, zi k6 400 f6), (h7, zi k7 400 f7), (h10, .inr (0, mX0 h11 h12 h13 h14 v10)), (h11, zi k11 120 f11)] := hD.sub [2, 3, 4, 5, 6, 7, 8, 9, 0, 1] (by decide) rfl
      generalize H1 = H at hP hS ⊢
      clear hz1
      refine lv_if_eq (tgt := 37) hx hb dX8_tallyDocuments_14 (by decide) (fun c_ => ?_) (fun c_ => ?_)
      · skip
        have b_ := zT_eq rfl zk_0 c_
        refine lv_iload_n hx hb dX8_tallyDocuments_37 rfl (lv_at hl 2 rfl) ?_
        refine W.widen (k := 0) (n := 0) (by decide) (by decide) ?_
        have b_ : -2147483648 ≤ (u11_ 0).toInt ∧ (u11_ 0).toInt ≤ 2147483647 := ⟨zlo _, zhi _⟩
        have b_ : -2147483648 ≤ (u11_ 1).toInt ∧ (u11_ 1).toInt ≤ 2147483647 := ⟨zlo _, zhi _⟩
        have b_ : -2147483648 ≤ (u11_ 2).toInt ∧ (u11_ 2).toInt ≤ 2147483647 := ⟨zlo _, zhi _⟩
        have b_ : -2147483648 ≤ (u11_ 3).toInt ∧ (u11_ 3).toInt ≤ 2147483647 := ⟨zlo _, zhi _⟩
        have b_ : -2147483648 ≤ (u11_ 4).toInt ∧ (u11_ 4).toInt ≤ 2147483647 := ⟨zlo _, zhi _⟩
        have b_ : -2147483648 ≤ (u11_ 5).toInt ∧ (u11_ 5).toInt ≤ 2147483647 := ⟨zlo _, zhi _⟩
        have b_ : -2147483648 ≤ (u11_ 6).toInt ∧ (u11_ 6).toInt ≤ 2147483647 := ⟨zlo _, zhi _⟩
        have b_ : -2147483648 ≤ (u11_ 7).toInt ∧ (u11_ 7).toInt ≤ 2147483647 := ⟨zlo _, zhi _⟩
        have hpost : (0 ≤ (u4_ 0).toInt ∧ (u4_ 0).toInt ≤ 120) ∧ (zQf zf1 f2 f3 f4 f5 f6 f7 (v1 8).toInt (v1 9).toInt (v1 10).toInt (v1 11).toInt f11 (v10 4).toInt (v0 1).toInt (v0 2).toInt (v0 3).toInt (v0 4).toInt (v0 5).toInt (v0 7).toInt (u4_ 0).toInt) := ⟨(by first | with_reducible assumption | exact ⟨by omega, by omega⟩), by first | exact zQf_n zf1_b hI4_0 hX11_0 (by omega) rfl | exact zQf_i hI4_0 (by omega) rfl⟩
        have hP9 : va_P (dC, dI) vwCl [(h0, .inr (8, mX8 h1 (upd (upd (upd (upd (upd (upd (upd (upd v0 1 (u11_ 0)) 2 (u11_ 1)) 3 (u11_ 2)) 4 (u11_ 3)) 5 (u11_ 4)) 6 (u11_ 5)) 7 (u11_ 6)) 8 (u11_ 7)))), (h1, .inr (6, mX6 h2 h3 h4 h5 h6 h7 h8 h9 v1)), (h4, zi k4 833 f4), (h3, zi k3 833 f3), (h2, zi k2 1250 f2), (h5, zi k5 400 f5), (h6, zi k6 400 f6), (h7, zi k7 400 f7), (h10, .inr (0, mX0 h11 h12 h13 h14 v10)), (h11, zi k11 120 f11)] H := hP
        have hD9 : va_D A [(h0, .inr (8, mX8 h1 (upd (upd (upd (upd (upd (upd (upd (upd v0 1 (u11_ 0)) 2 (u11_ 1)) 3 (u11_ 2)) 4 (u11_ 3)) 5 (u11_ 4)) 6 (u11_ 5)) 7 (u11_ 6)) 8 (u11_ 7)))), (h1, .inr (6, mX6 h2 h3 h4 h5 h6 h7 h8 h9 v1)), (h4, zi k4 833 f4), (h3, zi k3 833 f3), (h2, zi k2 1250 f2), (h5, zi k5 400 f5), (h6, zi k6 400 f6), (h7, zi k7 400 f7), (h10, .inr (0, mX0 h11 h12 h13 h14 v10)), (h11, zi k11 120 f11)] := hD
        exact W.iret (v := (u4_ 0)) hx hb hr (fun t ht hW => ⟨⟨(u4_ 0), (fun i => ([(u11_ 0), (u11_ 1), (u11_ 2), (u11_ 3), (u11_ 4), (u11_ 5), (u11_ 6), (u11_ 7)] : List (Int32)).getD i 0), rfl, hpost, (fun _ => 0), (fun _ => (fun _ => 0)), (fun _ => (fun _ => 0)), by rw [ht]; exact hP9, va_K.moved hW.alike hK, hD9⟩, hS.F ht⟩) hS.2.2 dX8_tallyDocuments_38
      · skip
        have b_ := zF_eq rfl zk_0 c_
        refine lv_aload_n hx hb dX8_tallyDocuments_17 rfl (lv_at hl 1 rfl) ?_
        refine lv_aload_n hx hb dX8_tallyDocuments_18 rfl (lv_at hl 0 rfl) ?_
        refine va_get (D := (dC, dI)) (ci := 8) (v := .int (u11_ 4)) (C := RX8) (T := TX8) (N := 9) hx hb hG zuX8 hown hK hP 0 rfl rfl 5 (by decide) (hG _ zv296) (fun _ h9 => h9) rfl dX8_tallyDocuments_19 ?_
        have hPc := hP.sub (ws' := [(h10, .inr (0, mX0 h11 h12 h13 h14 v10)), (h11, zi k11 120 f11)]) [8, 9] rfl
        have hDc := hD.sub (ws' := [(h10, .inr (0, mX0 h11 h12 h13 h14 v10)), (h11, zi k11 120 f11)]) [8, 9] (by decide) rfl
        have hKc := hK.sub (tys' := [(k11, .boolean)]) [6] rfl
        have hFc := va_free (wc := [(h10, .inr (0, mX0 h11 h12 h13 h14 v10)), (h11, zi k11 120 f11)]) hD hS hA [8, 9] rfl
        refine va_calli (va_runV (As := [.int (u11_ 4)]) (rest := []) ⟨hx, hb, hml, hown, hG⟩ (sX0_isOn_0 l dC dI adK adV h10 h11 h12 h13 h14 k11 H.size v10 f11 (u11_ 4) hv10) (cwV 1 hG (zgV zv984 zv872 zv873 zv132 zv874) rfl rfl rfl (by decide +kernel) ⟨Nat.le_of_ble_eq_true rfl, Nat.le_of_ble_eq_true rfl⟩) ⟨zPc_blind, va_recv hKc hPc (ci := 0) (q0 := 0) rfl rfl, zPc_pre hPc hKc hDc hE hS hFc hZ⟩ rfl rfl hl.1 rfl (lv_room (Nat.le_of_ble_eq_true rfl)) dX8_tallyDocuments_22 ⟨Nat.le_of_ble_eq_true rfl, Nat.le_of_ble_eq_true rfl⟩) hS (fun q _ h => hFc q h) hFc (fun r22_ u22_ t H1 locs ht hvm hw hB hz1 hk1 hS => ?_)
        replace hw : (0 ≤ r22_.toInt ∧ r22_.toInt ≤ 1) ∧ (r22_.toInt = 1 → (0 ≤ (u11_ 4).toInt ∧ (u11_ 4).toInt ≤ 119)) ∧ (r22_.toInt = 1 → (u11_ 4).toInt < (v10 4).toInt) ∧ (zIo f11 (v10 4).toInt ((u11_ 4) : Int32) r22_.toInt) := hw
        obtain ⟨b_, hX22_0, hX22_1, hX22_2⟩ := hw
        obtain ⟨w22_, a22_, b22_, hP1, hK1, hD1⟩ := hB
        rw [ht] at hP1
        obtain ⟨hP, hD⟩ := va_join (wr := [(h0, .inr (8, mX8 h1 (upd (upd (upd (upd (upd (upd (upd (upd v0 1 (u11_ 0)) 2 (u11_ 1)) 3 (u11_ 2)) 4 (u11_ 3)) 5 (u11_ 4)) 6 (u11_ 5)) 7 (u11_ 6)) 8 (u11_ 7)))), (h1, .inr (6, mX6 h2 h3 h4 h5 h6 h7 h8 h9 v1)), (h4, zi k4 833 f4), (h3, zi k3 833 f3), (h2, zi k2 1250 f2), (h5, zi k5 400 f5), (h6, zi k6 400 f6), (h7, zi k7 400 f7)]) (w1 := [(h10, .inr (0, mX0 h11 h12 h13 h14 v10)), (h11, zi k11 120 f11)]) hP hD [8, 9] [0, 1, 2, 3, 4, 5, 6, 7] rfl rfl (by decide) (by decide) hk1 hFc hP1 hD1
        have hP : va_P (dC, dI) vwCl [(h0, .inr (8, mX8 h1 (upd (upd (upd (upd (upd (upd (upd (upd v0 1 (u11_ 0)) 2 (u11_ 1)) 3 (u11_ 2)) 4 (u11_ 3)) 5 (u11_ 4)) 6 (u11_ 5)) 7 (u11_ 6)) 8 (u11_ 7)))), (h1, .inr (6, mX6 h2 h3 h4 h5 h6 h7 h8 h9 v1)), (h4, zi k4 833 f4), (h3, zi k3 833 f3), (h2, zi k2 1250 f2), (h5, zi k5 400 f5), (h6, zi k6 400 f6), (h7, zi k7 400 f7), (h10, .inr (0, mX0 h11 h12 h13 h14 v10)), (h11, zi k11 120 f11)] H1 := hP.sub [0, 1, 2, 3, 4, 5, 6, 7, 8, 9] rfl
        have hD : va_D A [(h0, .inr (8, mX8 h1 (upd (upd (upd (upd (upd (upd (upd (upd v0 1 (u11_ 0)) 2 (u11_ 1)) 3 (u11_ 2)) 4 (u11_ 3)) 5 (u11_ 4)) 6 (u11_ 5)) 7 (u11_ 6)) 8 (u11_ 7)))), (h1, .inr (6, mX6 h2 h3 h4 h5 h6 h7 h8 h9 v1)), (h4, zi k4 833 f4), (h3, zi k3 833 f3), (h2, zi k2 1250 f2), (h5, zi k5 400 f5), (h6, zi k6 400 f6), (h7, zi k7 400 f7), (h10, .inr (0, mX0 h11 h12 h13 h14 v10)), (h11, zi k11 120 f11)] := hD.sub [0, 1, 2, 3, 4, 5, 6, 7, 8, 9] (by decide) rfl
        generalize H1 = H at hP hS ⊢
        clear hz1
        refine lv_if_eq (tgt := 31) hx hb dX8_tallyDocuments_25 (by decide) (fun c_ => ?_) (fun c_ => ?_)
        · skip
          have b_ := zT_eq rfl zk_0 c_
          obtain ⟨z31, e_z31⟩ : ∃ z : Int32, z = (u4_ 1) + Int32.ofInt 1 := ⟨_, rfl⟩
          have b_ := zadd (x := (u4_ 1)) (y := Int32.ofInt 1) rfl (show (Int32.ofInt 1).toInt = 1 from by decide) e_z31 (by omega) (by omega)
          refine lv_iinc (v := z31) (lv' := [(3, .int z31), (0, .ref h0), (1, .ref h10), (2, .int (u4_ 0))]) hx hb dX8_tallyDocuments_31 hl (k := 3) rfl e_z31.symm (by decide) rfl (fun ls hl => ?_)
          have hqo9 : zQo zf1 f2 f3 f4 f5 f6 f7 (v1 8).toInt (v1 9).toInt (v1 10).toInt (v1 11).toInt f11 (v10 4).toInt (v0 1).toInt (v0 2).toInt (v0 3).toInt (v0 4).toInt (v0 5).toInt (v0 7).toInt (u11_ 0).toInt (u11_ 1).toInt (u11_ 2).toInt (u11_ 3).toInt (u11_ 4).toInt (u11_ 6).toInt z31.toInt (u4_ 0).toInt := zQo_s zf1_b hI4_0 hX11_0 (by omega) (Or.inr ⟨zIo_0 hX22_2 (by omega), rfl⟩) (by omega)
          refine lv_goto (tgt := 4) hx hb dX8_tallyDocuments_34 (by decide) ?_
          have hc : va_P (dC, dI) vwCl [(h0, .inr (8, mX8 h1 (upd (upd (upd (upd (upd (upd (upd (upd v0 1 (u11_ 0)) 2 (u11_ 1)) 3 (u11_ 2)) 4 (u11_ 3)) 5 (u11_ 4)) 6 (u11_ 5)) 7 (u11_ 6)) 8 (u11_ 7)))), (h1, .inr (6, mX6 h2 h3 h4 h5 h6 h7 h8 h9 v1)), (h4, zi k4 833 f4), (h3, zi k3 833 f3), (h2, zi k2 1250 f2), (h5, zi k5 400 f5), (h6, zi k6 400 f6), (h7, zi k7 400 f7), (h10, .inr (0, mX0 h11 h12 h13 h14 v10)), (h11, zi k11 120 f11)] H ∧ va_D A [(h0, .inr (8, mX8 h1 (upd (upd (upd (upd (upd (upd (upd (upd v0 1 (u11_ 0)) 2 (u11_ 1)) 3 (u11_ 2)) 4 (u11_ 3)) 5 (u11_ 4)) 6 (u11_ 5)) 7 (u11_ 6)) 8 (u11_ 7)))), (h1, .inr (6, mX6 h2 h3 h4 h5 h6 h7 h8 h9 v1)), (h4, zi k4 833 f4), (h3, zi k3 833 f3), (h2, zi k2 1250 f2), (h5, zi k5 400 f5), (h6, zi k6 400 f6), (h7, zi k7 400 f7), (h10, .inr (0, mX0 h11 h12 h13 h14 v10)), (h11, zi k11 120 f11)] ∧ va_S A s.heap H locs ∧ lv_has ls 4 [(0, .ref h0), (1, .ref h10), (2, .int (u4_ 0)), (3, .int z31)] ∧ (0 ≤ (u4_ 0).toInt ∧ (u4_ 0).toInt ≤ 120) ∧ (0 ≤ z31.toInt ∧ z31.toInt ≤ 120) ∧ (zQo zf1 f2 f3 f4 f5 f6 f7 (v1 8).toInt (v1 9).toInt (v1 10).toInt (v1 11).toInt f11 (v10 4).toInt (v0 1).toInt (v0 2).toInt (v0 3).toInt (v0 4).toInt (v0 5).toInt (v0 7).toInt (u11_ 0).toInt (u11_ 1).toInt (u11_ 2).toInt (u11_ 3).toInt (u11_ 4).toInt (u11_ 6).toInt z31.toInt (u4_ 0).toInt) ∧ ((u4_ 0).toInt ≤ z31.toInt) ∧ (0 ≤ (u4_ 0).toInt) := ⟨hP, hD, hS, lv_sub hl [1, 2, 3, 0] rfl, (by first | with_reducible assumption | exact ⟨by omega, by omega⟩), (by first | with_reducible assumption | exact ⟨by omega, by omega⟩), by first | exact hqo9 | exact zQo_0 (by decide) (by decide), by omega, by omega⟩
          exact hJ4 H locs ls (fun i => ([(u4_ 0), z31, (u11_ 0), (u11_ 1), (u11_ 2), (u11_ 3), (u11_ 4), (u11_ 5), (u11_ 6), (u11_ 7)] : List (Int32)).getD i 0) (fun _ => 0) (fun _ => (fun _ => 0)) (fun _ => (fun _ => 0)) hc (show (120 - z31.toInt).toNat < (120 - (u4_ 1).toInt).toNat from by omega)
        · skip
          have b_ := zF_eq rfl zk_0 c_
          obtain ⟨z28, e_z28⟩ : ∃ z : Int32, z = (u4_ 0) + Int32.ofInt 1 := ⟨_, rfl⟩
          have b_ := zadd (x := (u4_ 0)) (y := Int32.ofInt 1) rfl (show (Int32.ofInt 1).toInt = 1 from by decide) e_z28 (by omega) (by omega)
          refine lv_iinc (v := z28) (lv' := [(2, .int z28), (0, .ref h0), (1, .ref h10), (3, .int (u4_ 1))]) hx hb dX8_tallyDocuments_28 hl (k := 2) rfl e_z28.symm (by decide) rfl (fun ls hl => ?_)
          obtain ⟨z31, e_z31⟩ : ∃ z : Int32, z = (u4_ 1) + Int32.ofInt 1 := ⟨_, rfl⟩
          have b_ := zadd (x := (u4_ 1)) (y := Int32.ofInt 1) rfl (show (Int32.ofInt 1).toInt = 1 from by decide) e_z31 (by omega) (by omega)
          refine lv_iinc (v := z31) (lv' := [(3, .int z31), (2, .int z28), (0, .ref h0), (1, .ref h10)]) hx hb dX8_tallyDocuments_31 hl (k := 3) rfl e_z31.symm (by decide) rfl (fun ls hl => ?_)
          have hqo9 : zQo zf1 f2 f3 f4 f5 f6 f7 (v1 8).toInt (v1 9).toInt (v1 10).toInt (v1 11).toInt f11 (v10 4).toInt (v0 1).toInt (v0 2).toInt (v0 3).toInt (v0 4).toInt (v0 5).toInt (v0 7).toInt (u11_ 0).toInt (u11_ 1).toInt (u11_ 2).toInt (u11_ 3).toInt (u11_ 4).toInt (u11_ 6).toInt z31.toInt z28.toInt := zQo_s zf1_b hI4_0 hX11_0 (by omega) (Or.inl ⟨zIo_1 hX22_2 (by omega), fun q1 q2 q3 q4 => by rw [zf1_p (by omega)]; omega⟩) (by omega)
          refine lv_goto (tgt := 4) hx hb dX8_tallyDocuments_34 (by decide) ?_
          have hc : va_P (dC, dI) vwCl [(h0, .inr (8, mX8 h1 (upd (upd (upd (upd (upd (upd (upd (upd v0 1 (u11_ 0)) 2 (u11_ 1)) 3 (u11_ 2)) 4 (u11_ 3)) 5 (u11_ 4)) 6 (u11_ 5)) 7 (u11_ 6)) 8 (u11_ 7)))), (h1, .inr (6, mX6 h2 h3 h4 h5 h6 h7 h8 h9 v1)), (h4, zi k4 833 f4), (h3, zi k3 833 f3), (h2, zi k2 1250 f2), (h5, zi k5 400 f5), (h6, zi k6 400 f6), (h7, zi k7 400 f7), (h10, .inr (0, mX0 h11 h12 h13 h14 v10)), (h11, zi k11 120 f11)] H ∧ va_D A [(h0, .inr (8, mX8 h1 (upd (upd (upd (upd (upd (upd (upd (upd v0 1 (u11_ 0)) 2 (u11_ 1)) 3 (u11_ 2)) 4 (u11_ 3)) 5 (u11_ 4)) 6 (u11_ 5)) 7 (u11_ 6)) 8 (u11_ 7)))), (h1, .inr (6, mX6 h2 h3 h4 h5 h6 h7 h8 h9 v1)), (h4, zi k4 833 f4), (h3, zi k3 833 f3), (h2, zi k2 1250 f2), (h5, zi k5 400 f5), (h6, zi k6 400 f6), (h7, zi k7 400 f7), (h10, .inr (0, mX0 h11 h12 h13 h14 v10)), (h11, zi k11 120 f11)] ∧ va_S A s.heap H locs ∧ lv_has ls 4 [(0, .ref h0), (1, .ref h10), (2, .int z28), (3, .int z31)] ∧ (0 ≤ z28.toInt ∧ z28.toInt ≤ 120) ∧ (0 ≤ z31.toInt ∧ z31.toInt ≤ 120) ∧ (zQo zf1 f2 f3 f4 f5 f6 f7 (v1 8).toInt (v1 9).toInt (v1 10).toInt (v1 11).toInt f11 (v10 4).toInt (v0 1).toInt (v0 2).toInt (v0 3).toInt (v0 4).toInt (v0 5).toInt (v0 7).toInt (u11_ 0).toInt (u11_ 1).toInt (u11_ 2).toInt (u11_ 3).toInt (u11_ 4).toInt (u11_ 6).toInt z31.toInt z28.toInt) ∧ (z28.toInt ≤ z31.toInt) ∧ (0 ≤ z28.toInt) := ⟨hP, hD, hS, lv_sub hl [2, 3, 1, 0] rfl, (by first | with_reducible assumption | exact ⟨by omega, by omega⟩), (by first | with_reducible assumption | exact ⟨by omega, by omega⟩), by first | exact hqo9 | exact zQo_0 (by decide) (by decide), by omega, by omega⟩
          exact hJ4 H locs ls (fun i => ([z28, z31, (u11_ 0), (u11_ 1), (u11_ 2), (u11_ 3), (u11_ 4), (u11_ 5), (u11_ 6), (u11_ 7)] : List (Int32)).getD i 0) (fun _ => 0) (fun _ => (fun _ => 0)) (fun _ => (fun _ => 0)) hc (show (120 - z31.toInt).toNat < (120 - (u4_ 1).toInt).toNat from by omega)
  · skip
    have hc : va_P (dC, dI) vwCl [(h0, .inr (8, mX8 h1 (upd (upd (upd (upd (upd (upd (upd (upd v0 1 (v0 1)) 2 (v0 2)) 3 (v0 3)) 4 (v0 4)) 5 (v0 5)) 6 (v0 6)) 7 (v0 7)) 8 (v0 8)))), (h1, .inr (6, mX6 h2 h3 h4 h5 h6 h7 h8 h9 v1)), (h4, zi k4 833 f4), (h3, zi k3 833 f3), (h2, zi k2 1250 f2), (h5, zi k5 400 f5), (h6, zi k6 400 f6), (h7, zi k7 400 f7), (h10, .inr (0, mX0 h11 h12 h13 h14 v10)), (h11, zi k11 120 f11)] s.heap ∧ va_D A [(h0, .inr (8, mX8 h1 (upd (upd (upd (upd (upd (upd (upd (upd v0 1 (v0 1)) 2 (v0 2)) 3 (v0 3)) 4 (v0 4)) 5 (v0 5)) 6 (v0 6)) 7 (v0 7)) 8 (v0 8)))), (h1, .inr (6, mX6 h2 h3 h4 h5 h6 h7 h8 h9 v1)), (h4, zi k4 833 f4), (h3, zi k3 833 f3), (h2, zi k2 1250 f2), (h5, zi k5 400 f5), (h6, zi k6 400 f6), (h7, zi k7 400 f7), (h10, .inr (0, mX0 h11 h12 h13 h14 v10)), (h11, zi k11 120 f11)] ∧ va_S A s.heap s.heap [] ∧ lv_has ls 4 [(0, .ref h0), (1, .ref h10), (2, .int 0), (3, .int 0)] ∧ (0 ≤ (0 : Int32).toInt ∧ (0 : Int32).toInt ≤ 120) ∧ (0 ≤ (0 : Int32).toInt ∧ (0 : Int32).toInt ≤ 120) ∧ (zQo zf1 f2 f3 f4 f5 f6 f7 (v1 8).toInt (v1 9).toInt (v1 10).toInt (v1 11).toInt f11 (v10 4).toInt (v0 1).toInt (v0 2).toInt (v0 3).toInt (v0 4).toInt (v0 5).toInt (v0 7).toInt (v0 1).toInt (v0 2).toInt (v0 3).toInt (v0 4).toInt (v0 5).toInt (v0 7).toInt (0 : Int32).toInt (0 : Int32).toInt) ∧ ((0 : Int32).toInt ≤ (0 : Int32).toInt) ∧ (0 ≤ (0 : Int32).toInt) := ⟨hP, hD, hS, lv_sub hl [2, 3, 1, 0] rfl, (by first | with_reducible assumption | exact ⟨by omega, by omega⟩), (by first | with_reducible assumption | exact ⟨by omega, by omega⟩), by first | exact hqo9 | exact zQo_0 (by decide) (by decide), by omega, by omega⟩
    exact hJ4 s.heap [] ls (fun i => ([0, 0, (v0 1), (v0 2), (v0 3), (v0 4), (v0 5), (v0 6), (v0 7), (v0 8)] : List (Int32)).getD i 0) (fun _ => 0) (fun _ => (fun _ => 0)) (fun _ => (fun _ => 0)) hc
set_option maxHeartbeats 8000000 in
set_option maxRecDepth 100000 in
theorem sX8_tallyPlaces_0 (l : Launch) (dC : Nat → ClassId) (dI : Nat → Nat → Nat) (adK adV : Nat → Nat) (h0 : Nat) (h1 : Nat) (h4 : Nat) (h3 : Nat) (h2 : Nat) (h5 : Nat) (h6 : Nat) (h7 : Nat) (h10 : Nat) (h11 : Nat) (h8 : Nat) (h9 : Nat) (h12 : Nat) (h13 : Nat) (h14 : Nat) (k4 : ClassId) (k3 : ClassId) (k2 : ClassId) (k5 : ClassId) (k6 : ClassId) (k7 : ClassId) (k11 : ClassId) (sz : Nat) (v0 : Nat → Int32) (v1 : Nat → Int32) (f4 : Nat → Int32) (f3 : Nat → Int32) (f2 : Nat → Int32) (f5 : Nat → Int32) (f6 : Nat → Int32) (f7 : Nat → Int32) (v10 : Nat → Int32) (f11 : Nat → Int32) (hv1 : zR rg_Postings v1) (hf3 : zA 0 1250 f3) (hf6 : zA 0 832 f6) (hv10 : zR rg_Documents v10) : Met l yX8_tallyPlaces (zw yX8_tallyPlaces cX8_tallyPlaces 4 (some .int)) { frames := 4, cells := 0, slots := 0, locals := 88 } (zPc dC dI adK adV [.ref h0, .ref h10] sz [(h0, .inr (8, mX8 h1 v0)), (h1, .inr (6, mX6 h2 h3 h4 h5 h6 h7 h8 h9 v1)), (h4, zi k4 833 f4), (h3, zi k3 833 f3), (h2, zi k2 1250 f2), (h5, zi k5 400 f5), (h6, zi k6 400 f6), (h7, zi k7 400 f7), (h10, .inr (0, mX0 h11 h12 h13 h14 v10)), (h11, zi k11 120 f11)] [(k4, .int), (k3, .int), (k2, .int), (k5, .int), (k6, .int), (k7, .int), (k11, .boolean)]) (va_Qi (fun (r : Int32) (u : Nat → Int32) => (zQf zf2 f2 f3 f4 f5 f6 f7 (v1 8).toInt (v1 9).toInt (v1 10).toInt (v1 11).toInt f11 (v10 4).toInt (v0 1).toInt (v0 2).toInt (v0 3).toInt (v0 4).toInt (v0 5).toInt (v0 7).toInt r.toInt)) (fun (u : Nat → Int32) (t : State) => ∃ (ww : Nat → Int64) (aa : Nat → Nat → Int32) (bb : Nat → Nat → Int64), va_P (dC, dI) vwCl [(h0, .inr (8, mX8 h1 (upd (upd (upd (upd (upd (upd (upd (upd v0 1 (u 0)) 2 (u 1)) 3 (u 2)) 4 (u 3)) 5 (u 4)) 6 (u 5)) 7 (u 6)) 8 (u 7)))), (h1, .inr (6, mX6 h2 h3 h4 h5 h6 h7 h8 h9 v1)), (h4, zi k4 833 f4), (h3, zi k3 833 f3), (h2, zi k2 1250 f2), (h5, zi k5 400 f5), (h6, zi k6 400 f6), (h7, zi k7 400 f7), (h10, .inr (0, mX0 h11 h12 h13 h14 v10)), (h11, zi k11 120 f11)] t.heap ∧ va_K (dC, dI) vwCl [(k4, .int), (k3, .int), (k2, .int), (k5, .int), (k6, .int), (k7, .int), (k11, .boolean)] t ∧ va_D (va_A [(h0, .inr (8, mX8 h1 v0)), (h1, .inr (6, mX6 h2 h3 h4 h5 h6 h7 h8 h9 v1)), (h4, zi k4 833 f4), (h3, zi k3 833 f3), (h2, zi k2 1250 f2), (h5, zi k5 400 f5), (h6, zi k6 400 f6), (h7, zi k7 400 f7), (h10, .inr (0, mX0 h11 h12 h13 h14 v10)), (h11, zi k11 120 f11)] sz) [(h0, .inr (8, mX8 h1 (upd (upd (upd (upd (upd (upd (upd (upd v0 1 (u 0)) 2 (u 1)) 3 (u 2)) 4 (u 3)) 5 (u 4)) 6 (u 5)) 7 (u 6)) 8 (u 7)))), (h1, .inr (6, mX6 h2 h3 h4 h5 h6 h7 h8 h9 v1)), (h4, zi k4 833 f4), (h3, zi k3 833 f3), (h2, zi k2 1250 f2), (h5, zi k5 400 f5), (h6, zi k6 400 f6), (h7, zi k7 400 f7), (h10, .inr (0, mX0 h11 h12 h13 h14 v10)), (h11, zi k11 120 f11)]) (va_A [(h0, .inr (8, mX8 h1 v0)), (h1, .inr (6, mX6 h2 h3 h4 h5 h6 h7 h8 h9 v1)), (h4, zi k4 833 f4), (h3, zi k3 833 f3), (h2, zi k2 1250 f2), (h5, zi k5 400 f5), (h6, zi k6 400 f6), (h7, zi k7 400 f7), (h10, .inr (0, mX0 h11 h12 h13 h14 v10)), (h11, zi k11 120 f11)] sz)) 0 0 (va_A [(h0, .inr (8, mX8 h1 v0)), (h1, .inr (6, mX6 h2 h3 h4 h5 h6 h7 h8 h9 v1)), (h4, zi k4 833 f4), (h3, zi k3 833 f3), (h2, zi k2 1250 f2), (h5, zi k5 400 f5), (h6, zi k6 400 f6), (h7, zi k7 400 f7), (h10, .inr (0, mX0 h11 h12 h13 h14 v10)), (h11, zi k11 120 f11)] sz) := by
  refine Met.ofW (cc := cX8_tallyPlaces) (maxL := 4) (ret := (some .int)) (by decide) rfl ?_
  intro p e s m args below meth c s₁ B hml hv
  obtain ⟨rfl, hsz, hP, hK, hD0, hE, hZ⟩ := hv
  have hx := B.exec
  have hb := B.bytes
  have hr := B.returns
  have hG : ∀ w ∈ zG, w.before _ s = true := fun w h => atoms_spec (ws := (zw yX8_tallyPlaces cX8_tallyPlaces 4 (some .int))) B.pre w (List.mem_cons_of_mem _ h)
  have hown : s.vm.findClass RX8 = some m.cls := findClass_of_methodNamed B.named
  have hlocks := B.notSynchronized

  subst hsz
  have hD := hD0.self (sz := s.heap.size)
  generalize hAe : va_A [(h0, .inr (8, mX8 h1 v0)), (h1, .inr (6, mX6 h2 h3 h4 h5 h6 h7 h8 h9 v1)), (h4, zi k4 833 f4), (h3, zi k3 833 f3), (h2, zi k2 1250 f2), (h5, zi k5 400 f5), (h6, zi k6 400 f6), (h7, zi k7 400 f7), (h10, .inr (0, mX0 h11 h12 h13 h14 v10)), (h11, zi k11 120 f11)] s.heap.size = A at hD hZ ⊢
  have hA : ∀ q : Nat, s.heap.size ≤ q → A q := fun q h => by rw [← hAe]; exact Or.inr h
  have hS : va_S A s.heap s.heap [] := va_S.rf
  have hl := lv_entry ([.ref h0, .ref h10]) (n := 4) (Nat.le_of_ble_eq_true rfl)
  rw [lg_entry_eq]
  generalize (lg_sl ([.ref h0, .ref h10]) ++ List.replicate (4 - (lg_sl ([.ref h0, .ref h10])).length) Slot.unset).toArray = ls at hl ⊢
  have hl : lv_has ls 4 [(0, .ref h0), (1, .ref h10)] := hl
  have b_ := zk_0
  have b_ : 0 ≤ (v1 8).toInt ∧ (v1 8).toInt ≤ 833 := hv1 8
  have b_ : 0 ≤ (v1 9).toInt ∧ (v1 9).toInt ≤ 1250 := hv1 9
  have b_ : -2147483648 ≤ (v1 10).toInt ∧ (v1 10).toInt ≤ 2147483647 := ⟨zlo _, zhi _⟩
  have b_ : -2147483648 ≤ (v1 11).toInt ∧ (v1 11).toInt ≤ 2147483647 := ⟨zlo _, zhi _⟩
  have b_ : 0 ≤ (v10 4).toInt ∧ (v10 4).toInt ≤ 120 := hv10 4
  have b_ : -2147483648 ≤ (v0 1).toInt ∧ (v0 1).toInt ≤ 2147483647 := ⟨zlo _, zhi _⟩
  have b_ : -2147483648 ≤ (v0 2).toInt ∧ (v0 2).toInt ≤ 2147483647 := ⟨zlo _, zhi _⟩
  have b_ : -2147483648 ≤ (v0 3).toInt ∧ (v0 3).toInt ≤ 2147483647 := ⟨zlo _, zhi _⟩
  have b_ : -2147483648 ≤ (v0 4).toInt ∧ (v0 4).toInt ≤ 2147483647 := ⟨zlo _, zhi _⟩
  have b_ : -2147483648 ≤ (v0 5).toInt ∧ (v0 5).toInt ≤ 2147483647 := ⟨zlo _, zhi _⟩
  have b_ : -2147483648 ≤ (v0 7).toInt ∧ (v0 7).toInt ≤ 2147483647 := ⟨zlo _, zhi _⟩
  refine lv_iconst (v := 0) hx hb dX8_tallyPlaces_0 (by decide) ?_
  refine lv_istore_n (lv' := [(2, .int 0), (0, .ref h0), (1, .ref h10)]) hx hb dX8_tallyPlaces_1 rfl hl (by decide) rfl (fun ls hl => ?_)
  refine lv_iconst (v := 0) hx hb dX8_tallyPlaces_2 (by decide) ?_
  refine lv_istore_n (lv' := [(3, .int 0), (2, .int 0), (0, .ref h0), (1, .ref h10)]) hx hb dX8_tallyPlaces_3 rfl hl (by decide) rfl (fun ls hl => ?_)
  refine zcutL (fun u4_ => (120 - (u4_ 1).toInt).toNat) (fun H locs ls u4_ w4_ a4_ b4_ => va_P (dC, dI) vwCl [(h0, .inr (8, mX8 h1 (upd (upd (upd (upd (upd (upd (upd (upd v0 1 (u4_ 2)) 2 (u4_ 3)) 3 (u4_ 4)) 4 (u4_ 5)) 5 (u4_ 6)) 6 (u4_ 7)) 7 (u4_ 8)) 8 (u4_ 9)))), (h1, .inr (6, mX6 h2 h3 h4 h5 h6 h7 h8 h9 v1)), (h4, zi k4 833 f4), (h3, zi k3 833 f3), (h2, zi k2 1250 f2), (h5, zi k5 400 f5), (h6, zi k6 400 f6), (h7, zi k7 400 f7), (h10, .inr (0, mX0 h11 h12 h13 h14 v10)), (h11, zi k11 120 f11)] H ∧ va_D A [(h0, .inr (8, mX8 h1 (upd (upd (upd (upd (upd (upd (upd (upd v0 1 (u4_ 2)) 2 (u4_ 3)) 3 (u4_ 4)) 4 (u4_ 5)) 5 (u4_ 6)) 6 (u4_ 7)) 7 (u4_ 8)) 8 (u4_ 9)))), (h1, .inr (6, mX6 h2 h3 h4 h5 h6 h7 h8 h9 v1)), (h4, zi k4 833 f4), (h3, zi k3 833 f3), (h2, zi k2 1250 f2), (h5, zi k5 400 f5), (h6, zi k6 400 f6), (h7, zi k7 400 f7), (h10, .inr (0, mX0 h11 h12 h13 h14 v10)), (h11, zi k11 120 f11)] ∧ va_S A s.heap H locs ∧ lv_has ls 4 [(0, .ref h0), (1, .ref h10), (2, .int (u4_ 0)), (3, .int (u4_ 1))] ∧ (0 ≤ (u4_ 1).toInt ∧ (u4_ 1).toInt ≤ 120) ∧ (zQo zf2 f2 f3 f4 f5 f6 f7 (v1 8).toInt (v1 9).toInt (v1 10).toInt (v1 11).toInt f11 (v10 4).toInt (v0 1).toInt (v0 2).toInt (v0 3).toInt (v0 4).toInt (v0 5).toInt (v0 7).toInt (u4_ 2).toInt (u4_ 3).toInt (u4_ 4).toInt (u4_ 5).toInt (u4_ 6).toInt (u4_ 8).toInt (u4_ 1).toInt (u4_ 0).toInt)) (fun ls u4_ w4_ => F0 m 4 ls []) 0 0 ?_ (fun hJ4 => ?_)
  · skip
    intro H locs ls u4_ w4_ a4_ b4_ hc hJ4
    obtain ⟨hP, hD, hS, hl, b_, hI4_0⟩ := hc
    refine lv_iload_n hx hb dX8_tallyPlaces_4 rfl (lv_at hl 3 rfl) ?_
    refine lv_bipush (v := 120) hx hb dX8_tallyPlaces_5 (by decide) ?_
    refine lv_icmp_ge (tgt := 41) hx hb dX8_tallyPlaces_7 (by decide) (fun c_ => ?_) (fun c_ => ?_)
    · skip
      have b_ := zT_ge rfl zk_120 c_
      refine lv_iload_n hx hb dX8_tallyPlaces_41 rfl (lv_at hl 2 rfl) ?_
      refine W.widen (k := 0) (n := 0) (by decide) (by decide) ?_
      have b_ : -2147483648 ≤ (u4_ 0).toInt ∧ (u4_ 0).toInt ≤ 2147483647 := ⟨zlo _, zhi _⟩
      have b_ : -2147483648 ≤ (u4_ 2).toInt ∧ (u4_ 2).toInt ≤ 2147483647 := ⟨zlo _, zhi _⟩
      have b_ : -2147483648 ≤ (u4_ 3).toInt ∧ (u4_ 3).toInt ≤ 2147483647 := ⟨zlo _, zhi _⟩
      have b_ : -2147483648 ≤ (u4_ 4).toInt ∧ (u4_ 4).toInt ≤ 2147483647 := ⟨zlo _, zhi _⟩
      have b_ : -2147483648 ≤ (u4_ 5).toInt ∧ (u4_ 5).toInt ≤ 2147483647 := ⟨zlo _, zhi _⟩
      have b_ : -2147483648 ≤ (u4_ 6).toInt ∧ (u4_ 6).toInt ≤ 2147483647 := ⟨zlo _, zhi _⟩
      have b_ : -2147483648 ≤ (u4_ 7).toInt ∧ (u4_ 7).toInt ≤ 2147483647 := ⟨zlo _, zhi _⟩
      have b_ : -2147483648 ≤ (u4_ 8).toInt ∧ (u4_ 8).toInt ≤ 2147483647 := ⟨zlo _, zhi _⟩
      have b_ : -2147483648 ≤ (u4_ 9).toInt ∧ (u4_ 9).toInt ≤ 2147483647 := ⟨zlo _, zhi _⟩
      have hpost : (zQf zf2 f2 f3 f4 f5 f6 f7 (v1 8).toInt (v1 9).toInt (v1 10).toInt (v1 11).toInt f11 (v10 4).toInt (v0 1).toInt (v0 2).toInt (v0 3).toInt (v0 4).toInt (v0 5).toInt (v0 7).toInt (u4_ 0).toInt) := by first | exact zQf_n zf2_b hI4_0 hX11_0 (by omega) rfl | exact zQf_i hI4_0 (by omega) rfl
      have hP9 : va_P (dC, dI) vwCl [(h0, .inr (8, mX8 h1 (upd (upd (upd (upd (upd (upd (upd (upd v0 1 (u4_ 2)) 2 (u4_ 3)) 3 (u4_ 4)) 4 (u4_ 5)) 5 (u4_ 6)) 6 (u4_ 7)) 7 (u4_ 8)) 8 (u4_ 9)))), (h1, .inr (6, mX6 h2 h3 h4 h5 h6 h7 h8 h9 v1)), (h4, zi k4 833 f4), (h3, zi k3 833 f3), (h2, zi k2 1250 f2), (h5, zi k5 400 f5), (h6, zi k6 400 f6), (h7, zi k7 400 f7), (h10, .inr (0, mX0 h11 h12 h13 h14 v10)), (h11, zi k11 120 f11)] H := hP
      have hD9 : va_D A [(h0, .inr (8, mX8 h1 (upd (upd (upd (upd (upd (upd (upd (upd v0 1 (u4_ 2)) 2 (u4_ 3)) 3 (u4_ 4)) 4 (u4_ 5)) 5 (u4_ 6)) 6 (u4_ 7)) 7 (u4_ 8)) 8 (u4_ 9)))), (h1, .inr (6, mX6 h2 h3 h4 h5 h6 h7 h8 h9 v1)), (h4, zi k4 833 f4), (h3, zi k3 833 f3), (h2, zi k2 1250 f2), (h5, zi k5 400 f5), (h6, zi k6 400 f6), (h7, zi k7 400 f7), (h10, .inr (0, mX0 h11 h12 h13 h14 v10)), (h11, zi k11 120 f11)] := hD
      exact W.iret (v := (u4_ 0)) hx hb hr (fun t ht hW => ⟨⟨(u4_ 0), (fun i => ([(u4_ 2), (u4_ 3), (u4_ 4), (u4_ 5), (u4_ 6), (u4_ 7), (u4_ 8), (u4_ 9)] : List (Int32)).getD i 0), rfl, hpost, (fun _ => 0), (fun _ => (fun _ => 0)), (fun _ => (fun _ => 0)), by rw [ht]; exact hP9, va_K.moved hW.alike hK, hD9⟩, hS.F ht⟩) hS.2.2 dX8_tallyPlaces_42
    · skip
      have b_ := zF_ge rfl zk_120 c_
      refine lv_aload_n hx hb dX8_tallyPlaces_10 rfl (lv_at hl 0 rfl) ?_
      have b_ : -2147483648 ≤ (u4_ 2).toInt ∧ (u4_ 2).toInt ≤ 2147483647 := ⟨zlo _, zhi _⟩
      have b_ : -2147483648 ≤ (u4_ 3).toInt ∧ (u4_ 3).toInt ≤ 2147483647 := ⟨zlo _, zhi _⟩
      have b_ : -2147483648 ≤ (u4_ 4).toInt ∧ (u4_ 4).toInt ≤ 2147483647 := ⟨zlo _, zhi _⟩
      have b_ : -2147483648 ≤ (u4_ 5).toInt ∧ (u4_ 5).toInt ≤ 2147483647 := ⟨zlo _, zhi _⟩
      have b_ : -2147483648 ≤ (u4_ 6).toInt ∧ (u4_ 6).toInt ≤ 2147483647 := ⟨zlo _, zhi _⟩
      have b_ : -2147483648 ≤ (u4_ 7).toInt ∧ (u4_ 7).toInt ≤ 2147483647 := ⟨zlo _, zhi _⟩
      have b_ : -2147483648 ≤ (u4_ 8).toInt ∧ (u4_ 8).toInt ≤ 2147483647 := ⟨zlo _, zhi _⟩
      have b_ : -2147483648 ≤ (u4_ 9).toInt ∧ (u4_ 9).toInt ≤ 2147483647 := ⟨zlo _, zhi _⟩
      have hPc := hP.sub (ws' := [(h0, .inr (8, mX8 h1 (upd (upd (upd (upd (upd (upd (upd (upd v0 1 (u4_ 2)) 2 (u4_ 3)) 3 (u4_ 4)) 4 (u4_ 5)) 5 (u4_ 6)) 6 (u4_ 7)) 7 (u4_ 8)) 8 (u4_ 9)))), (h1, .inr (6, mX6 h2 h3 h4 h5 h6 h7 h8 h9 v1)), (h4, zi k4 833 f4), (h3, zi k3 833 f3), (h2, zi k2 1250 f2), (h5, zi k5 400 f5), (h6, zi k6 400 f6), (h7, zi k7 400 f7)]) [0, 1, 2, 3, 4, 5, 6, 7] rfl
      have hDc := hD.sub (ws' := [(h0, .inr (8, mX8 h1 (upd (upd (upd (upd (upd (upd (upd (upd v0 1 (u4_ 2)) 2 (u4_ 3)) 3 (u4_ 4)) 4 (u4_ 5)) 5 (u4_ 6)) 6 (u4_ 7)) 7 (u4_ 8)) 8 (u4_ 9)))), (h1, .inr (6, mX6 h2 h3 h4 h5 h6 h7 h8 h9 v1)), (h4, zi k4 833 f4), (h3, zi k3 833 f3), (h2, zi k2 1250 f2), (h5, zi k5 400 f5), (h6, zi k6 400 f6), (h7, zi k7 400 f7)]) [0, 1, 2, 3, 4, 5, 6, 7] (by decide) rfl
      have hKc := hK.sub (tys' := [(k4, .int), (k3, .int), (k2, .int), (k5, .int), (k6, .int), (k7, .int)]) [0, 1, 2, 3, 4, 5] rfl
      have hFc := va_free (wc := [(h0, .inr (8, mX8 h1 (upd (upd (upd (upd (upd (upd (upd (upd v0 1 (u4_ 2)) 2 (u4_ 3)) 3 (u4_ 4)) 4 (u4_ 5)) 5 (u4_ 6)) 6 (u4_ 7)) 7 (u4_ 8)) 8 (u4_ 9)))), (h1, .inr (6, mX6 h2 h3 h4 h5 h6 h7 h8 h9 v1)), (h4, zi k4 833 f4), (h3, zi k3 833 f3), (h2, zi k2 1250 f2), (h5, zi k5 400 f5), (h6, zi k6 400 f6), (h7, zi k7 400 f7)]) hD hS hA [0, 1, 2, 3, 4, 5, 6, 7] rfl
      refine va_calli (va_runV (As := []) (rest := []) ⟨hx, hb, hml, hown, hG⟩ (sX8_nextDocument_0 l dC dI adK adV h0 h1 h4 h3 h2 h5 h6 h7 h8 h9 k4 k3 k2 k5 k6 k7 H.size (upd (upd (upd (upd (upd (upd (upd (upd v0 1 (u4_ 2)) 2 (u4_ 3)) 3 (u4_ 4)) 4 (u4_ 5)) 5 (u4_ 6)) 6 (u4_ 7)) 7 (u4_ 8)) 8 (u4_ 9)) v1 f4 f3 f2 f5 f6 f7 hv1 hf3 hf6) (cwV 0 hG (zgV zv983 zv911 zv912 zv134 zv913) rfl rfl rfl (by decide +kernel) ⟨Nat.le_of_ble_eq_true rfl, Nat.le_of_ble_eq_true rfl⟩) ⟨zPc_blind, va_recv hKc hPc (ci := 8) (q0 := 0) rfl rfl, zPc_pre hPc hKc hDc hE hS hFc hZ⟩ rfl rfl hl.1 rfl (lv_room (Nat.le_of_ble_eq_true rfl)) dX8_tallyPlaces_11 ⟨Nat.le_of_ble_eq_true rfl, Nat.le_of_ble_eq_true rfl⟩) hS (fun q _ h => hFc q h) hFc (fun r11_ u11_ t H1 locs ht hvm hw hB hz1 hk1 hS => ?_)
      replace hw : (0 ≤ r11_.toInt ∧ r11_.toInt ≤ 1) ∧ (zNo f2 f3 f4 f5 f6 f7 (v1 8).toInt (v1 9).toInt (v1 10).toInt (v1 11).toInt (u4_ 2).toInt (u4_ 3).toInt (u4_ 4).toInt (u4_ 5).toInt (u11_ 0).toInt (u11_ 1).toInt (u11_ 2).toInt (u11_ 3).toInt (u4_ 8).toInt (u4_ 6).toInt (u11_ 4).toInt (u11_ 5).toInt (u11_ 6).toInt (u11_ 7).toInt r11_.toInt) := hw
      obtain ⟨b_, hX11_0⟩ := hw
      obtain ⟨w11_, a11_, b11_, hP1, hK1, hD1⟩ := hB
      rw [ht] at hP1
      obtain ⟨hP, hD⟩ := va_join (wr := [(h10, .inr (0, mX0 h11 h12 h13 h14 v10)), (h11, zi k11 120 f11)]) (w1 := [(h0, .inr (8, mX8 h1 (upd (upd (upd (upd (upd (upd (upd (upd v0 1 (u11_ 0)) 2 (u11_ 1)) 3 (u11_ 2)) 4 (u11_ 3)) 5 (u11_ 4)) 6 (u11_ 5)) 7 (u11_ 6)) 8 (u11_ 7)))), (h1, .inr (6, mX6 h2 h3 h4 h5 h6 h7 h8 h9 v1)), (h4, zi k4 833 f4), (h3, zi k3 833 f3), (h2, zi k2 1250 f2), (h5, zi k5 400 f5), (h6, zi k6 400 f6), (h7, zi k7 400 f7)]) hP hD [0, 1, 2, 3, 4, 5, 6, 7] [8, 9] rfl rfl (by decide) (by decide) hk1 hFc hP1 hD1
      have hP : va_P (dC, dI) vwCl [(h0, .inr (8, mX8 h1 (upd (upd (upd (upd (upd (upd (upd (upd v0 1 (u11_ 0)) 2 (u11_ 1)) 3 (u11_ 2)) 4 (u11_ 3)) 5 (u11_ 4)) 6 (u11_ 5)) 7 (u11_ 6)) 8 (u11_ 7)))), (h1, .inr (6, mX6 h2 h3 h4 h5 h6 h7 h8 h9 v1)), (h4, zi k4 833 f4), (h3, zi k3 833 f3), (h2, zi k2 1250 f2), (h5, zi k5 400 f5), (h6, zi k6 400 f6), (h7, zi k7 400 f7), (h10, .inr (0, mX0 h11 h12 h13 h14 v10)), (h11, zi k11 120 f11)] H1 := hP.sub [2, 3, 4, 5, 6, 7, 8, 9, 0, 1] rfl
      have hD : va_D A [(h0, .inr (8, mX8 h1 (upd (upd (upd (upd (upd (upd (upd (upd v0 1 (u11_ 0)) 2 (u11_ 1)) 3 (u11_ 2)) 4 (u11_ 3)) 5 (u11_ 4)) 6 (u11_ 5)) 7 (u11_ 6)) 8 (u11_ 7)))), (h1, .inr (6, mX6 h2 h3 h4 h5 h6 h7 h8 h9 v1)), (h4, zi k4 833 f4), (h3, zi k3 833 f3), (h2, zi k2 1250 f2), (h5, zi k5 400 f5), (h6, zi k6 400 f6), (h7, zi k7 400 f7), (h10, .inr (0, mX0 h11 h12 h13 h14 v10)), (h11, zi k11 120 f11)] := hD.sub [2, 3, 4, 5, 6, 7, 8, 9, 0, 1] (by decide) rfl
      generalize H1 = H at hP hS ⊢
      clear hz1
      refine lv_if_eq (tgt := 41) hx hb dX8_tallyPlaces_14 (by decide) (fun c_ => ?_) (fun c_ => ?_)
      · skip
        have b_ := zT_eq rfl zk_0 c_
        refine lv_iload_n hx hb dX8_tallyPlaces_41 rfl (lv_at hl 2 rfl) ?_
        refine W.widen (k := 0) (n := 0) (by decide) (by decide) ?_
        have b_ : -2147483648 ≤ (u4_ 0).toInt ∧ (u4_ 0).toInt ≤ 2147483647 := ⟨zlo _, zhi _⟩
        have b_ : -2147483648 ≤ (u11_ 0).toInt ∧ (u11_ 0).toInt ≤ 2147483647 := ⟨zlo _, zhi _⟩
        have b_ : -2147483648 ≤ (u11_ 1).toInt ∧ (u11_ 1).toInt ≤ 2147483647 := ⟨zlo _, zhi _⟩
        have b_ : -2147483648 ≤ (u11_ 2).toInt ∧ (u11_ 2).toInt ≤ 2147483647 := ⟨zlo _, zhi _⟩
        have b_ : -2147483648 ≤ (u11_ 3).toInt ∧ (u11_ 3).toInt ≤ 2147483647 := ⟨zlo _, zhi _⟩
        have b_ : -2147483648 ≤ (u11_ 4).toInt ∧ (u11_ 4).toInt ≤ 2147483647 := ⟨zlo _, zhi _⟩
        have b_ : -2147483648 ≤ (u11_ 5).toInt ∧ (u11_ 5).toInt ≤ 2147483647 := ⟨zlo _, zhi _⟩
        have b_ : -2147483648 ≤ (u11_ 6).toInt ∧ (u11_ 6).toInt ≤ 2147483647 := ⟨zlo _, zhi _⟩
        have b_ : -2147483648 ≤ (u11_ 7).toInt ∧ (u11_ 7).toInt ≤ 2147483647 := ⟨zlo _, zhi _⟩
        have hpost : (zQf zf2 f2 f3 f4 f5 f6 f7 (v1 8).toInt (v1 9).toInt (v1 10).toInt (v1 11).toInt f11 (v10 4).toInt (v0 1).toInt (v0 2).toInt (v0 3).toInt (v0 4).toInt (v0 5).toInt (v0 7).toInt (u4_ 0).toInt) := by first | exact zQf_n zf2_b hI4_0 hX11_0 (by omega) rfl | exact zQf_i hI4_0 (by omega) rfl
        have hP9 : va_P (dC, dI) vwCl [(h0, .inr (8, mX8 h1 (upd (upd (upd (upd (upd (upd (upd (upd v0 1 (u11_ 0)) 2 (u11_ 1)) 3 (u11_ 2)) 4 (u11_ 3)) 5 (u11_ 4)) 6 (u11_ 5)) 7 (u11_ 6)) 8 (u11_ 7)))), (h1, .inr (6, mX6 h2 h3 h4 h5 h6 h7 h8 h9 v1)), (h4, zi k4 833 f4), (h3, zi k3 833 f3), (h2, zi k2 1250 f2), (h5, zi k5 400 f5), (h6, zi k6 400 f6), (h7, zi k7 400 f7), (h10, .inr (0, mX0 h11 h12 h13 h14 v10)), (h11, zi k11 120 f11)] H := hP
        have hD9 : va_D A [(h0, .inr (8, mX8 h1 (upd (upd (upd (upd (upd (upd (upd (upd v0 1 (u11_ 0)) 2 (u11_ 1)) 3 (u11_ 2)) 4 (u11_ 3)) 5 (u11_ 4)) 6 (u11_ 5)) 7 (u11_ 6)) 8 (u11_ 7)))), (h1, .inr (6, mX6 h2 h3 h4 h5 h6 h7 h8 h9 v1)), (h4, zi k4 833 f4), (h3, zi k3 833 f3), (h2, zi k2 1250 f2), (h5, zi k5 400 f5), (h6, zi k6 400 f6), (h7, zi k7 400 f7), (h10, .inr (0, mX0 h11 h12 h13 h14 v10)), (h11, zi k11 120 f11)] := hD
        exact W.iret (v := (u4_ 0)) hx hb hr (fun t ht hW => ⟨⟨(u4_ 0), (fun i => ([(u11_ 0), (u11_ 1), (u11_ 2), (u11_ 3), (u11_ 4), (u11_ 5), (u11_ 6), (u11_ 7)] : List (Int32)).getD i 0), rfl, hpost, (fun _ => 0), (fun _ => (fun _ => 0)), (fun _ => (fun _ => 0)), by rw [ht]; exact hP9, va_K.moved hW.alike hK, hD9⟩, hS.F ht⟩) hS.2.2 dX8_tallyPlaces_42
      · skip
        have b_ := zF_eq rfl zk_0 c_
        refine lv_aload_n hx hb dX8_tallyPlaces_17 rfl (lv_at hl 1 rfl) ?_
        refine lv_aload_n hx hb dX8_tallyPlaces_18 rfl (lv_at hl 0 rfl) ?_
        refine va_get (D := (dC, dI)) (ci := 8) (v := .int (u11_ 4)) (C := RX8) (T := TX8) (N := 9) hx hb hG zuX8 hown hK hP 0 rfl rfl 5 (by decide) (hG _ zv296) (fun _ h9 => h9) rfl dX8_tallyPlaces_19 ?_
        have hPc := hP.sub (ws' := [(h10, .inr (0, mX0 h11 h12 h13 h14 v10)), (h11, zi k11 120 f11)]) [8, 9] rfl
        have hDc := hD.sub (ws' := [(h10, .inr (0, mX0 h11 h12 h13 h14 v10)), (h11, zi k11 120 f11)]) [8, 9] (by decide) rfl
        have hKc := hK.sub (tys' := [(k11, .boolean)]) [6] rfl
        have hFc := va_free (wc := [(h10, .inr (0, mX0 h11 h12 h13 h14 v10)), (h11, zi k11 120 f11)]) hD hS hA [8, 9] rfl
        refine va_calli (va_runV (As := [.int (u11_ 4)]) (rest := []) ⟨hx, hb, hml, hown, hG⟩ (sX0_isOn_0 l dC dI adK adV h10 h11 h12 h13 h14 k11 H.size v10 f11 (u11_ 4) hv10) (cwV 1 hG (zgV zv984 zv872 zv873 zv132 zv874) rfl rfl rfl (by decide +kernel) ⟨Nat.le_of_ble_eq_true rfl, Nat.le_of_ble_eq_true rfl⟩) ⟨zPc_blind, va_recv hKc hPc (ci := 0) (q0 := 0) rfl rfl, zPc_pre hPc hKc hDc hE hS hFc hZ⟩ rfl rfl hl.1 rfl (lv_room (Nat.le_of_ble_eq_true rfl)) dX8_tallyPlaces_22 ⟨Nat.le_of_ble_eq_true rfl, Nat.le_of_ble_eq_true rfl⟩) hS (fun q _ h => hFc q h) hFc (fun r22_ u22_ t H1 locs ht hvm hw hB hz1 hk1 hS => ?_)
        replace hw : (0 ≤ r22_.toInt ∧ r22_.toInt ≤ 1) ∧ (r22_.toInt = 1 → (0 ≤ (u11_ 4).toInt ∧ (u11_ 4).toInt ≤ 119)) ∧ (r22_.toInt = 1 → (u11_ 4).toInt < (v10 4).toInt) ∧ (zIo f11 (v10 4).toInt ((u11_ 4) : Int32) r22_.toInt) := hw
        obtain ⟨b_, hX22_0, hX22_1, hX22_2⟩ := hw
        obtain ⟨w22_, a22_, b22_, hP1, hK1, hD1⟩ := hB
        rw [ht] at hP1
        obtain ⟨hP, hD⟩ := va_join (wr := [(h0, .inr (8, mX8 h1 (upd (upd (upd (upd (upd (upd (upd (upd v0 1 (u11_ 0)) 2 (u11_ 1)) 3 (u11_ 2)) 4 (u11_ 3)) 5 (u11_ 4)) 6 (u11_ 5)) 7 (u11_ 6)) 8 (u11_ 7)))), (h1, .inr (6, mX6 h2 h3 h4 h5 h6 h7 h8 h9 v1)), (h4, zi k4 833 f4), (h3, zi k3 833 f3), (h2, zi k2 1250 f2), (h5, zi k5 400 f5), (h6, zi k6 400 f6), (h7, zi k7 400 f7)]) (w1 := [(h10, .inr (0, mX0 h11 h12 h13 h14 v10)), (h11, zi k11 120 f11)]) hP hD [8, 9] [0, 1, 2, 3, 4, 5, 6, 7] rfl rfl (by decide) (by decide) hk1 hFc hP1 hD1
        have hP : va_P (dC, dI) vwCl [(h0, .inr (8, mX8 h1 (upd (upd (upd (upd (upd (upd (upd (upd v0 1 (u11_ 0)) 2 (u11_ 1)) 3 (u11_ 2)) 4 (u11_ 3)) 5 (u11_ 4)) 6 (u11_ 5)) 7 (u11_ 6)) 8 (u11_ 7)))), (h1, .inr (6, mX6 h2 h3 h4 h5 h6 h7 h8 h9 v1)), (h4, zi k4 833 f4), (h3, zi k3 833 f3), (h2, zi k2 1250 f2), (h5, zi k5 400 f5), (h6, zi k6 400 f6), (h7, zi k7 400 f7), (h10, .inr (0, mX0 h11 h12 h13 h14 v10)), (h11, zi k11 120 f11)] H1 := hP.sub [0, 1, 2, 3, 4, 5, 6, 7, 8, 9] rfl
        have hD : va_D A [(h0, .inr (8, mX8 h1 (upd (upd (upd (upd (upd (upd (upd (upd v0 1 (u11_ 0)) 2 (u11_ 1)) 3 (u11_ 2)) 4 (u11_ 3)) 5 (u11_ 4)) 6 (u11_ 5)) 7 (u11_ 6)) 8 (u11_ 7)))), (h1, .inr (6, mX6 h2 h3 h4 h5 h6 h7 h8 h9 v1)), (h4, zi k4 833 f4), (h3, zi k3 833 f3), (h2, zi k2 1250 f2), (h5, zi k5 400 f5), (h6, zi k6 400 f6), (h7, zi k7 400 f7), (h10, .inr (0, mX0 h11 h12 h13 h14 v10)), (h11, zi k11 120 f11)] := hD.sub [0, 1, 2, 3, 4, 5, 6, 7, 8, 9] (by decide) rfl
        generalize H1 = H at hP hS ⊢
        clear hz1
        refine lv_if_eq (tgt := 35) hx hb dX8_tallyPlaces_25 (by decide) (fun c_ => ?_) (fun c_ => ?_)
        · skip
          have b_ := zT_eq rfl zk_0 c_
          obtain ⟨z35, e_z35⟩ : ∃ z : Int32, z = (u4_ 1) + Int32.ofInt 1 := ⟨_, rfl⟩
          have b_ := zadd (x := (u4_ 1)) (y := Int32.ofInt 1) rfl (show (Int32.ofInt 1).toInt = 1 from by decide) e_z35 (by omega) (by omega)
          refine lv_iinc (v := z35) (lv' := [(3, .int z35), (0, .ref h0), (1, .ref h10), (2, .int (u4_ 0))]) hx hb dX8_tallyPlaces_35 hl (k := 3) rfl e_z35.symm (by decide) rfl (fun ls hl => ?_)
          have hqo9 : zQo zf2 f2 f3 f4 f5 f6 f7 (v1 8).toInt (v1 9).toInt (v1 10).toInt (v1 11).toInt f11 (v10 4).toInt (v0 1).toInt (v0 2).toInt (v0 3).toInt (v0 4).toInt (v0 5).toInt (v0 7).toInt (u11_ 0).toInt (u11_ 1).toInt (u11_ 2).toInt (u11_ 3).toInt (u11_ 4).toInt (u11_ 6).toInt z35.toInt (u4_ 0).toInt := zQo_s zf2_b hI4_0 hX11_0 (by omega) (Or.inr ⟨zIo_0 hX22_2 (by omega), rfl⟩) (by omega)
          refine lv_goto (tgt := 4) hx hb dX8_tallyPlaces_38 (by decide) ?_
          have b_ : -2147483648 ≤ (u4_ 0).toInt ∧ (u4_ 0).toInt ≤ 2147483647 := ⟨zlo _, zhi _⟩
          have hc : va_P (dC, dI) vwCl [(h0, .inr (8, mX8 h1 (upd (upd (upd (upd (upd (upd (upd (upd v0 1 (u11_ 0)) 2 (u11_ 1)) 3 (u11_ 2)) 4 (u11_ 3)) 5 (u11_ 4)) 6 (u11_ 5)) 7 (u11_ 6)) 8 (u11_ 7)))), (h1, .inr (6, mX6 h2 h3 h4 h5 h6 h7 h8 h9 v1)), (h4, zi k4 833 f4), (h3, zi k3 833 f3), (h2, zi k2 1250 f2), (h5, zi k5 400 f5), (h6, zi k6 400 f6), (h7, zi k7 400 f7), (h10, .inr (0, mX0 h11 h12 h13 h14 v10)), (h11, zi k11 120 f11)] H ∧ va_D A [(h0, .inr (8, mX8 h1 (upd (upd (upd (upd (upd (upd (upd (upd v0 1 (u11_ 0)) 2 (u11_ 1)) 3 (u11_ 2)) 4 (u11_ 3)) 5 (u11_ 4)) 6 (u11_ 5)) 7 (u11_ 6)) 8 (u11_ 7)))), (h1, .inr (6, mX6 h2 h3 h4 h5 h6 h7 h8 h9 v1)), (h4, zi k4 833 f4), (h3, zi k3 833 f3), (h2, zi k2 1250 f2), (h5, zi k5 400 f5), (h6, zi k6 400 f6), (h7, zi k7 400 f7), (h10, .inr (0, mX0 h11 h12 h13 h14 v10)), (h11, zi k11 120 f11)] ∧ va_S A s.heap H locs ∧ lv_has ls 4 [(0, .ref h0), (1, .ref h10), (2, .int (u4_ 0)), (3, .int z35)] ∧ (0 ≤ z35.toInt ∧ z35.toInt ≤ 120) ∧ (zQo zf2 f2 f3 f4 f5 f6 f7 (v1 8).toInt (v1 9).toInt (v1 10).toInt (v1 11).toInt f11 (v10 4).toInt (v0 1).toInt (v0 2).toInt (v0 3).toInt (v0 4).toInt (v0 5).toInt (v0 7).toInt (u11_ 0).toInt (u11_ 1).toInt (u11_ 2).toInt (u11_ 3).toInt (u11_ 4).toInt (u11_ 6).toInt z35.toInt (u4_ 0).toInt) := ⟨hP, hD, hS, lv_sub hl [1, 2, 3, 0] rfl, (by first | with_reducible assumption | exact ⟨by omega, by omega⟩), by first | exact hqo9 | exact zQo_0 (by decide) (by decide)⟩
          exact hJ4 H locs ls (fun i => ([(u4_ 0), z35, (u11_ 0), (u11_ 1), (u11_ 2), (u11_ 3), (u11_ 4), (u11_ 5), (u11_ 6), (u11_ 7)] : List (Int32)).getD i 0) (fun _ => 0) (fun _ => (fun _ => 0)) (fun _ => (fun _ => 0)) hc (show (120 - z35.toInt).toNat < (120 - (u4_ 1).toInt).toNat from by omega)
        · skip
          have b_ := zF_eq rfl zk_0 c_
          refine lv_iload_n hx hb dX8_tallyPlaces_28 rfl (lv_at hl 2 rfl) ?_
          refine lv_aload_n hx hb dX8_tallyPlaces_29 rfl (lv_at hl 0 rfl) ?_
          refine va_get (D := (dC, dI)) (ci := 8) (v := .int (u11_ 5)) (C := RX8) (T := TX8) (N := 9) hx hb hG zuX8 hown hK hP 0 rfl rfl 6 (by decide) (hG _ zv297) (fun _ h9 => h9) rfl dX8_tallyPlaces_30 ?_
          have b_ : -2147483648 ≤ (u4_ 0).toInt ∧ (u4_ 0).toInt ≤ 2147483647 := ⟨zlo _, zhi _⟩
          have b_ : -2147483648 ≤ (u11_ 5).toInt ∧ (u11_ 5).toInt ≤ 2147483647 := ⟨zlo _, zhi _⟩
          refine lv_iadd hx hb dX8_tallyPlaces_33 ?_
          refine lv_topi (fun z33 e_z33 => ?_)
          refine lv_istore_n (lv' := [(2, .int z33), (0, .ref h0), (1, .ref h10), (3, .int (u4_ 1))]) hx hb dX8_tallyPlaces_34 rfl hl (by decide) rfl (fun ls hl => ?_)
          obtain ⟨z35, e_z35⟩ : ∃ z : Int32, z = (u4_ 1) + Int32.ofInt 1 := ⟨_, rfl⟩
          have b_ := zadd (x := (u4_ 1)) (y := Int32.ofInt 1) rfl (show (Int32.ofInt 1).toInt = 1 from by decide) e_z35 (by omega) (by omega)
          refine lv_iinc (v := z35) (lv' := [(3, .int z35), (2, .int z33), (0, .ref h0), (1, .ref h10)]) hx hb dX8_tallyPlaces_35 hl (k := 3) rfl e_z35.symm (by decide) rfl (fun ls hl => ?_)
          have hqo9 : zQo zf2 f2 f3 f4 f5 f6 f7 (v1 8).toInt (v1 9).toInt (v1 10).toInt (v1 11).toInt f11 (v10 4).toInt (v0 1).toInt (v0 2).toInt (v0 3).toInt (v0 4).toInt (v0 5).toInt (v0 7).toInt (u11_ 0).toInt (u11_ 1).toInt (u11_ 2).toInt (u11_ 3).toInt (u11_ 4).toInt (u11_ 6).toInt z35.toInt z33.toInt := zQo_s zf2_b hI4_0 hX11_0 (by omega) (Or.inl ⟨zIo_1 hX22_2 (by omega), fun q1 q2 q3 q4 => by have a := zadd rfl rfl e_z33 (by omega) (by omega); unfold zf2; omega⟩) (by omega)
          refine lv_goto (tgt := 4) hx hb dX8_tallyPlaces_38 (by decide) ?_
          have b_ : -2147483648 ≤ z33.toInt ∧ z33.toInt ≤ 2147483647 := ⟨zlo _, zhi _⟩
          have hc : va_P (dC, dI) vwCl [(h0, .inr (8, mX8 h1 (upd (upd (upd (upd (upd (upd (upd (upd v0 1 (u11_ 0)) 2 (u11_ 1)) 3 (u11_ 2)) 4 (u11_ 3)) 5 (u11_ 4)) 6 (u11_ 5)) 7 (u11_ 6)) 8 (u11_ 7)))), (h1, .inr (6, mX6 h2 h3 h4 h5 h6 h7 h8 h9 v1)), (h4, zi k4 833 f4), (h3, zi k3 833 f3), (h2, zi k2 1250 f2), (h5, zi k5 400 f5), (h6, zi k6 400 f6), (h7, zi k7 400 f7), (h10, .inr (0, mX0 h11 h12 h13 h14 v10)), (h11, zi k11 120 f11)] H ∧ va_D A [(h0, .inr (8, mX8 h1 (upd (upd (upd (upd (upd (upd (upd (upd v0 1 (u11_ 0)) 2 (u11_ 1)) 3 (u11_ 2)) 4 (u11_ 3)) 5 (u11_ 4)) 6 (u11_ 5)) 7 (u11_ 6)) 8 (u11_ 7)))), (h1, .inr (6, mX6 h2 h3 h4 h5 h6 h7 h8 h9 v1)), (h4, zi k4 833 f4), (h3, zi k3 833 f3), (h2, zi k2 1250 f2), (h5, zi k5 400 f5), (h6, zi k6 400 f6), (h7, zi k7 400 f7), (h10, .inr (0, mX0 h11 h12 h13 h14 v10)), (h11, zi k11 120 f11)] ∧ va_S A s.heap H locs ∧ lv_has ls 4 [(0, .ref h0), (1, .ref h10), (2, .int z33), (3, .int z35)] ∧ (0 ≤ z35.toInt ∧ z35.toInt ≤ 120) ∧ (zQo zf2 f2 f3 f4 f5 f6 f7 (v1 8).toInt (v1 9).toInt (v1 10).toInt (v1 11).toInt f11 (v10 4).toInt (v0 1).toInt (v0 2).toInt (v0 3).toInt (v0 4).toInt (v0 5).toInt (v0 7).toInt (u11_ 0).toInt (u11_ 1).toInt (u11_ 2).toInt (u11_ 3).toInt (u11_ 4).toInt (u11_ 6).toInt z35.toInt z33.toInt) := ⟨hP, hD, hS, lv_sub hl [2, 3, 1, 0] rfl, (by first | with_reducible assumption | exact ⟨by omega, by omega⟩), by first | exact hqo9 | exact zQo_0 (by decide) (by decide)⟩
          exact hJ4 H locs ls (fun i => ([z33, z35, (u11_ 0), (u11_ 1), (u11_ 2), (u11_ 3), (u11_ 4), (u11_ 5), (u11_ 6), (u11_ 7)] : List (Int32)).getD i 0) (fun _ => 0) (fun _ => (fun _ => 0)) (fun _ => (fun _ => 0)) hc (show (120 - z35.toInt).toNat < (120 - (u4_ 1).toInt).toNat from by omega)
  · skip
    have hc : va_P (dC, dI) vwCl [(h0, .inr (8, mX8 h1 (upd (upd (upd (upd (upd (upd (upd (upd v0 1 (v0 1)) 2 (v0 2)) 3 (v0 3)) 4 (v0 4)) 5 (v0 5)) 6 (v0 6)) 7 (v0 7)) 8 (v0 8)))), (h1, .inr (6, mX6 h2 h3 h4 h5 h6 h7 h8 h9 v1)), (h4, zi k4 833 f4), (h3, zi k3 833 f3), (h2, zi k2 1250 f2), (h5, zi k5 400 f5), (h6, zi k6 400 f6), (h7, zi k7 400 f7), (h10, .inr (0, mX0 h11 h12 h13 h14 v10)), (h11, zi k11 120 f11)] s.heap ∧ va_D A [(h0, .inr (8, mX8 h1 (upd (upd (upd (upd (upd (upd (upd (upd v0 1 (v0 1)) 2 (v0 2)) 3 (v0 3)) 4 (v0 4)) 5 (v0 5)) 6 (v0 6)) 7 (v0 7)) 8 (v0 8)))), (h1, .inr (6, mX6 h2 h3 h4 h5 h6 h7 h8 h9 v1)), (h4, zi k4 833 f4), (h3, zi k3 833 f3), (h2, zi k2 1250 f2), (h5, zi k5 400 f5), (h6, zi k6 400 f6), (h7, zi k7 400 f7), (h10, .inr (0, mX0 h11 h12 h13 h14 v10)), (h11, zi k11 120 f11)] ∧ va_S A s.heap s.heap [] ∧ lv_has ls 4 [(0, .ref h0), (1, .ref h10), (2, .int 0), (3, .int 0)] ∧ (0 ≤ (0 : Int32).toInt ∧ (0 : Int32).toInt ≤ 120) ∧ (zQo zf2 f2 f3 f4 f5 f6 f7 (v1 8).toInt (v1 9).toInt (v1 10).toInt (v1 11).toInt f11 (v10 4).toInt (v0 1).toInt (v0 2).toInt (v0 3).toInt (v0 4).toInt (v0 5).toInt (v0 7).toInt (v0 1).toInt (v0 2).toInt (v0 3).toInt (v0 4).toInt (v0 5).toInt (v0 7).toInt (0 : Int32).toInt (0 : Int32).toInt) := ⟨hP, hD, hS, lv_sub hl [2, 3, 1, 0] rfl, (by first | with_reducible assumption | exact ⟨by omega, by omega⟩), by first | exact hqo9 | exact zQo_0 (by decide) (by decide)⟩
    exact hJ4 s.heap [] ls (fun i => ([0, 0, (v0 1), (v0 2), (v0 3), (v0 4), (v0 5), (v0 6), (v0 7), (v0 8)] : List (Int32)).getD i 0) (fun _ => 0) (fun _ => (fun _ => 0)) (fun _ => (fun _ => 0)) hc
set_option maxHeartbeats 8000000 in
set_option maxRecDepth 100000 in
theorem sX11_posting_0 (l : Launch) (dC : Nat → ClassId) (dI : Nat → Nat → Nat) (adK adV : Nat → Nat) (h0 : Nat) (h4 : Nat) (h5 : Nat) (h6 : Nat) (h23 : Nat) (h29 : Nat) (h32 : Nat) (h27 : Nat) (h24 : Nat) (h25 : Nat) (h26 : Nat) (h28 : Nat) (h18 : Nat) (h19 : Nat) (h7 : Nat) (h30 : Nat) (h31 : Nat) (h1 : Nat) (h11 : Nat) (h33 : Nat) (h40 : Nat) (h48 : Nat) (h49 : Nat) (h8 : Nat) (h9 : Nat) (h10 : Nat) (h20 : Nat) (h21 : Nat) (h22 : Nat) (k5 : ClassId) (k6 : ClassId) (k29 : ClassId) (k27 : ClassId) (k24 : ClassId) (k25 : ClassId) (k26 : ClassId) (k28 : ClassId) (k19 : ClassId) (k7 : ClassId) (k30 : ClassId) (k31 : ClassId) (sz : Nat) (sp0 : Value) (lw0 : Int64) (v4 : Nat → Int32) (f5 : Nat → Int64) (f6 : Nat → Int32) (v23 : Nat → Int32) (f29 : Nat → Int32) (v32 : Nat → Int32) (f27 : Nat → Int32) (f24 : Nat → Int32) (f25 : Nat → Int32) (f26 : Nat → Int32) (f28 : Nat → Int32) (v18 : Nat → Int32) (f19 : Nat → Int32) (f7 : Nat → Int32) (f30 : Nat → Int32) (f31 : Nat → Int32) (x1 : Int32) (hv4 : zR rg_Words400 v4) (hf6 : zA 0 399 f6) (hv23 : zR rg_Postings v23) (hf25 : zA 0 1250 f25) (hf28 : zA 0 832 f28) (hv18 : zR rg_Documents v18) (hf7 : zA (-1) 399 f7) : Met l yX11_posting (zw yX11_posting cX11_posting 4 (some .int)) { frames := 5, cells := 0, slots := 0, locals := 111 } (zPc dC dI adK adV [.ref h0, .int x1] sz [(h0, .inr (11, mX11 h1 h4 h11 h18 h23 h32 h33 h40 h48 h49 sp0 lw0)), (h4, .inr (10, mX10 h5 h6 h7 h8 h9 h10 v4)), (h5, .inl (k5, 400, .inr (.inl f5))), (h6, zi k6 400 f6), (h23, .inr (6, mX6 h24 h25 h26 h27 h28 h29 h30 h31 v23)), (h29, zi k29 400 f29), (h32, .inr (8, mX8 h23 v32)), (h27, zi k27 400 f27), (h24, zi k24 1250 f24), (h25, zi k25 833 f25), (h26, zi k26 833 f26), (h28, zi k28 400 f28), (h18, .inr (0, mX0 h19 h20 h21 h22 v18)), (h19, zi k19 120 f19), (h7, zi k7 400 f7), (h30, zi k30 400 f30), (h31, zi k31 400 f31)] [(k5, .long), (k6, .int), (k29, .int), (k27, .int), (k24, .int), (k25, .int), (k26, .int), (k28, .int), (k19, .boolean), (k7, .int), (k30, .int), (k31, .int)]) (va_Qi (fun (r : Int32) (u : Nat → Int32) => (zPp f5 f6 f7 (v4 7).toInt f24 f25 f26 f27 f28 f29 (v23 8).toInt (v23 9).toInt (v23 10).toInt (v23 11).toInt f30 f31 (v18 4).toInt f19 x1.toInt lw0.toInt r.toInt)) (fun (u : Nat → Int32) (t : State) => ∃ (ww : Nat → Int64) (aa : Nat → Nat → Int32) (bb : Nat → Nat → Int64), va_P (dC, dI) vwCl [(h0, .inr (11, mX11 h1 h4 h11 h18 h23 h32 h33 h40 h48 h49 sp0 lw0)), (h4, .inr (10, mX10 h5 h6 h7 h8 h9 h10 v4)), (h5, .inl (k5, 400, .inr (.inl f5))), (h6, zi k6 400 f6), (h23, .inr (6, mX6 h24 h25 h26 h27 h28 h29 h30 h31 v23)), (h29, zi k29 400 f29), (h32, .inr (8, mX8 h23 (upd (upd (upd (upd (upd (upd (upd (upd v32 1 (u 0)) 2 (u 1)) 3 (u 2)) 4 (u 3)) 5 (u 4)) 6 (u 5)) 7 (u 6)) 8 (u 7)))), (h27, zi k27 400 f27), (h24, zi k24 1250 f24), (h25, zi k25 833 f25), (h26, zi k26 833 f26), (h28, zi k28 400 f28), (h18, .inr (0, mX0 h19 h20 h21 h22 v18)), (h19, zi k19 120 f19), (h7, zi k7 400 f7), (h30, zi k30 400 f30), (h31, zi k31 400 f31)] t.heap ∧ va_K (dC, dI) vwCl [(k5, .long), (k6, .int), (k29, .int), (k27, .int), (k24, .int), (k25, .int), (k26, .int), (k28, .int), (k19, .boolean), (k7, .int), (k30, .int), (k31, .int)] t ∧ va_D (va_A [(h0, .inr (11, mX11 h1 h4 h11 h18 h23 h32 h33 h40 h48 h49 sp0 lw0)), (h4, .inr (10, mX10 h5 h6 h7 h8 h9 h10 v4)), (h5, .inl (k5, 400, .inr (.inl f5))), (h6, zi k6 400 f6), (h23, .inr (6, mX6 h24 h25 h26 h27 h28 h29 h30 h31 v23)), (h29, zi k29 400 f29), (h32, .inr (8, mX8 h23 v32)), (h27, zi k27 400 f27), (h24, zi k24 1250 f24), (h25, zi k25 833 f25), (h26, zi k26 833 f26), (h28, zi k28 400 f28), (h18, .inr (0, mX0 h19 h20 h21 h22 v18)), (h19, zi k19 120 f19), (h7, zi k7 400 f7), (h30, zi k30 400 f30), (h31, zi k31 400 f31)] sz) [(h0, .inr (11, mX11 h1 h4 h11 h18 h23 h32 h33 h40 h48 h49 sp0 lw0)), (h4, .inr (10, mX10 h5 h6 h7 h8 h9 h10 v4)), (h5, .inl (k5, 400, .inr (.inl f5))), (h6, zi k6 400 f6), (h23, .inr (6, mX6 h24 h25 h26 h27 h28 h29 h30 h31 v23)), (h29, zi k29 400 f29), (h32, .inr (8, mX8 h23 (upd (upd (upd (upd (upd (upd (upd (upd v32 1 (u 0)) 2 (u 1)) 3 (u 2)) 4 (u 3)) 5 (u 4)) 6 (u 5)) 7 (u 6)) 8 (u 7)))), (h27, zi k27 400 f27), (h24, zi k24 1250 f24), (h25, zi k25 833 f25), (h26, zi k26 833 f26), (h28, zi k28 400 f28), (h18, .inr (0, mX0 h19 h20 h21 h22 v18)), (h19, zi k19 120 f19), (h7, zi k7 400 f7), (h30, zi k30 400 f30), (h31, zi k31 400 f31)]) (va_A [(h0, .inr (11, mX11 h1 h4 h11 h18 h23 h32 h33 h40 h48 h49 sp0 lw0)), (h4, .inr (10, mX10 h5 h6 h7 h8 h9 h10 v4)), (h5, .inl (k5, 400, .inr (.inl f5))), (h6, zi k6 400 f6), (h23, .inr (6, mX6 h24 h25 h26 h27 h28 h29 h30 h31 v23)), (h29, zi k29 400 f29), (h32, .inr (8, mX8 h23 v32)), (h27, zi k27 400 f27), (h24, zi k24 1250 f24), (h25, zi k25 833 f25), (h26, zi k26 833 f26), (h28, zi k28 400 f28), (h18, .inr (0, mX0 h19 h20 h21 h22 v18)), (h19, zi k19 120 f19), (h7, zi k7 400 f7), (h30, zi k30 400 f30), (h31, zi k31 400 f31)] sz)) 0 0 (va_A [(h0, .inr (11, mX11 h1 h4 h11 h18 h23 h32 h33 h40 h48 h49 sp0 lw0)), (h4, .inr (10, mX10 h5 h6 h7 h8 h9 h10 v4)), (h5, .inl (k5, 400, .inr (.inl f5))), (h6, zi k6 400 f6), (h23, .inr (6, mX6 h24 h25 h26 h27 h28 h29 h30 h31 v23)), (h29, zi k29 400 f29), (h32, .inr (8, mX8 h23 v32)), (h27, zi k27 400 f27), (h24, zi k24 1250 f24), (h25, zi k25 833 f25), (h26, zi k26 833 f26), (h28, zi k28 400 f28), (h18, .inr (0, mX0 h19 h20 h21 h22 v18)), (h19, zi k19 120 f19), (h7, zi k7 400 f7), (h30, zi k30 400 f30), (h31, zi k31 400 f31)] sz) := by
  refine Met.ofW (cc := cX11_posting) (maxL := 4) (ret := (some .int)) (by decide) rfl ?_
  intro p e s m args below meth c s₁ B hml hv
  obtain ⟨rfl, hsz, hP, hK, hD0, hE, hZ⟩ := hv
  have hx := B.exec
  have hb := B.bytes
  have hr := B.returns
  have hG : ∀ w ∈ zG, w.before _ s = true := fun w h => atoms_spec (ws := (zw yX11_posting cX11_posting 4 (some .int))) B.pre w (List.mem_cons_of_mem _ h)
  have hown : s.vm.findClass RX11 = some m.cls := findClass_of_methodNamed B.named
  have hlocks := B.notSynchronized

  subst hsz
  have hD := hD0.self (sz := s.heap.size)
  generalize hAe : va_A [(h0, .inr (11, mX11 h1 h4 h11 h18 h23 h32 h33 h40 h48 h49 sp0 lw0)), (h4, .inr (10, mX10 h5 h6 h7 h8 h9 h10 v4)), (h5, .inl (k5, 400, .inr (.inl f5))), (h6, zi k6 400 f6), (h23, .inr (6, mX6 h24 h25 h26 h27 h28 h29 h30 h31 v23)), (h29, zi k29 400 f29), (h32, .inr (8, mX8 h23 v32)), (h27, zi k27 400 f27), (h24, zi k24 1250 f24), (h25, zi k25 833 f25), (h26, zi k26 833 f26), (h28, zi k28 400 f28), (h18, .inr (0, mX0 h19 h20 h21 h22 v18)), (h19, zi k19 120 f19), (h7, zi k7 400 f7), (h30, zi k30 400 f30), (h31, zi k31 400 f31)] s.heap.size = A at hD hZ ⊢
  have hA : ∀ q : Nat, s.heap.size ≤ q → A q := fun q h => by rw [← hAe]; exact Or.inr h
  have hS : va_S A s.heap s.heap [] := va_S.rf
  have hl := lv_entry ([.ref h0, .int x1]) (n := 4) (Nat.le_of_ble_eq_true rfl)
  rw [lg_entry_eq]
  generalize (lg_sl ([.ref h0, .int x1]) ++ List.replicate (4 - (lg_sl ([.ref h0, .int x1])).length) Slot.unset).toArray = ls at hl ⊢
  have hl : lv_has ls 4 [(0, .ref h0), (1, .int x1)] := hl
  have b_ := zk_m1
  have b_ := zk_0
  have b_ := zk_1
  have b_ := zk_2
  have b_ := zk_3
  have b_ : 0 ≤ (v4 7).toInt ∧ (v4 7).toInt ≤ 400 := hv4 7
  have b_ : 0 ≤ (v23 8).toInt ∧ (v23 8).toInt ≤ 833 := hv23 8
  have b_ : 0 ≤ (v23 9).toInt ∧ (v23 9).toInt ≤ 1250 := hv23 9
  have b_ : -2147483648 ≤ (v23 10).toInt ∧ (v23 10).toInt ≤ 2147483647 := ⟨zlo _, zhi _⟩
  have b_ : -2147483648 ≤ (v23 11).toInt ∧ (v23 11).toInt ≤ 2147483647 := ⟨zlo _, zhi _⟩
  have b_ : 0 ≤ (v18 4).toInt ∧ (v18 4).toInt ≤ 120 := hv18 4
  refine lv_aload_n hx hb dX11_posting_0 rfl (lv_at hl 0 rfl) ?_
  refine va_get (D := (dC, dI)) (ci := 11) (v := .long lw0) (C := RX11) (T := TX11) (N := 12) hx hb hG zuX11 hown hK hP 0 rfl rfl 11 (by decide) (hG _ zv568) (fun _ h9 => h9) rfl dX11_posting_1 ?_
  refine lv_ldc2 hx hb hown (hG _ zv556) dX11_posting_4 ?_
  refine W.lcmp hx hb dX11_posting_7 ?_
  refine lv_topi (fun z7 e_z7 => ?_)
  have b_ : (-1 : Int64).toInt = -1 := by decide
  have b_ := zlcmp e_z7
  have b_ : -2147483648 ≤ z7.toInt ∧ z7.toInt ≤ 2147483647 := ⟨zlo _, zhi _⟩
  refine lv_if_eq (tgt := 20) hx hb dX11_posting_8 (by decide) (fun c_ => ?_) (fun c_ => ?_)
  · skip
    have b_ := zT_eq rfl zk_0 c_
    refine lv_iconst (v := (-1)) hx hb dX11_posting_20 (by decide) ?_
    refine W.widen (k := 0) (n := 0) (by decide) (by decide) ?_
    have b_ : -2147483648 ≤ (v32 1).toInt ∧ (v32 1).toInt ≤ 2147483647 := ⟨zlo _, zhi _⟩
    have b_ : -2147483648 ≤ (v32 2).toInt ∧ (v32 2).toInt ≤ 2147483647 := ⟨zlo _, zhi _⟩
    have b_ : -2147483648 ≤ (v32 3).toInt ∧ (v32 3).toInt ≤ 2147483647 := ⟨zlo _, zhi _⟩
    have b_ : -2147483648 ≤ (v32 4).toInt ∧ (v32 4).toInt ≤ 2147483647 := ⟨zlo _, zhi _⟩
    have b_ : -2147483648 ≤ (v32 5).toInt ∧ (v32 5).toInt ≤ 2147483647 := ⟨zlo _, zhi _⟩
    have b_ : -2147483648 ≤ (v32 6).toInt ∧ (v32 6).toInt ≤ 2147483647 := ⟨zlo _, zhi _⟩
    have b_ : -2147483648 ≤ (v32 7).toInt ∧ (v32 7).toInt ≤ 2147483647 := ⟨zlo _, zhi _⟩
    have b_ : -2147483648 ≤ (v32 8).toInt ∧ (v32 8).toInt ≤ 2147483647 := ⟨zlo _, zhi _⟩
    have hpost : (zPp f5 f6 f7 (v4 7).toInt f24 f25 f26 f27 f28 f29 (v23 8).toInt (v23 9).toInt (v23 10).toInt (v23 11).toInt f30 f31 (v18 4).toInt f19 x1.toInt lw0.toInt ((-1) : Int32).toInt) := by first | exact zPp_k (by omega) hX30_1 (by omega) rfl (by omega) | exact zPp_b (by omega) hX30_1 (by omega) hX46_0 hX85_0 (by omega) | exact zPp_c (by omega) hX30_1 (by omega) hX46_0 hX94_0 hX97_0 (by omega) | exact zPp_t (by omega) hX30_1 (by omega) hX46_0 hX106_3 hX117_0 (by omega) (by omega) (Or.inl ⟨by omega, rfl⟩) | exact zPp_t (by omega) hX30_1 (by omega) hX46_0 hX126_3 hX137_0 (by omega) (by omega) (Or.inr ⟨by omega, rfl⟩) | exact zPp_0 (by omega) (by omega) (by omega) hX30_1 (by omega) (by decide) | exact zPp_n (by omega) (by decide)
    have hP9 : va_P (dC, dI) vwCl [(h0, .inr (11, mX11 h1 h4 h11 h18 h23 h32 h33 h40 h48 h49 sp0 lw0)), (h4, .inr (10, mX10 h5 h6 h7 h8 h9 h10 v4)), (h5, .inl (k5, 400, .inr (.inl f5))), (h6, zi k6 400 f6), (h23, .inr (6, mX6 h24 h25 h26 h27 h28 h29 h30 h31 v23)), (h29, zi k29 400 f29), (h32, .inr (8, mX8 h23 (upd (upd (upd (upd (upd (upd (upd (upd v32 1 (v32 1)) 2 (v32 2)) 3 (v32 3)) 4 (v32 4)) 5 (v32 5)) 6 (v32 6)) 7 (v32 7)) 8 (v32 8)))), (h27, zi k27 400 f27), (h24, zi k24 1250 f24), (h25, zi k25 833 f25), (h26, zi k26 833 f26), (h28, zi k28 400 f28), (h18, .inr (0, mX0 h19 h20 h21 h22 v18)), (h19, zi k19 120 f19), (h7, zi k7 400 f7), (h30, zi k30 400 f30), (h31, zi k31 400 f31)] s.heap := hP
    have hD9 : va_D A [(h0, .inr (11, mX11 h1 h4 h11 h18 h23 h32 h33 h40 h48 h49 sp0 lw0)), (h4, .inr (10, mX10 h5 h6 h7 h8 h9 h10 v4)), (h5, .inl (k5, 400, .inr (.inl f5))), (h6, zi k6 400 f6), (h23, .inr (6, mX6 h24 h25 h26 h27 h28 h29 h30 h31 v23)), (h29, zi k29 400 f29), (h32, .inr (8, mX8 h23 (upd (upd (upd (upd (upd (upd (upd (upd v32 1 (v32 1)) 2 (v32 2)) 3 (v32 3)) 4 (v32 4)) 5 (v32 5)) 6 (v32 6)) 7 (v32 7)) 8 (v32 8)))), (h27, zi k27 400 f27), (h24, zi k24 1250 f24), (h25, zi k25 833 f25), (h26, zi k26 833 f26), (h28, zi k28 400 f28), (h18, .inr (0, mX0 h19 h20 h21 h22 v18)), (h19, zi k19 120 f19), (h7, zi k7 400 f7), (h30, zi k30 400 f30), (h31, zi k31 400 f31)] := hD
    exact W.iret (v := (-1)) hx hb hr (fun t ht hW => ⟨⟨(-1), (fun i => ([(v32 1), (v32 2), (v32 3), (v32 4), (v32 5), (v32 6), (v32 7), (v32 8)] : List (Int32)).getD i 0), rfl, hpost, (fun _ => 0), (fun _ => (fun _ => 0)), (fun _ => (fun _ => 0)), by rw [ht]; exact hP9, va_K.moved hW.alike hK, hD9⟩, hS.F ht⟩) hS.2.2 dX11_posting_21
  · skip
    have b_ := zF_eq rfl zk_0 c_
    refine lv_iload_n hx hb dX11_posting_11 rfl (lv_at hl 1 rfl) ?_
    have b_ : -2147483648 ≤ x1.toInt ∧ x1.toInt ≤ 2147483647 := ⟨zlo _, zhi _⟩
    refine lv_if_lt (tgt := 20) hx hb dX11_posting_12 (by decide) (fun c_ => ?_) (fun c_ => ?_)
    · skip
      have b_ := zT_lt rfl zk_0 c_
      refine lv_iconst (v := (-1)) hx hb dX11_posting_20 (by decide) ?_
      refine W.widen (k := 0) (n := 0) (by decide) (by decide) ?_
      have b_ : -2147483648 ≤ (v32 1).toInt ∧ (v32 1).toInt ≤ 2147483647 := ⟨zlo _, zhi _⟩
      have b_ : -2147483648 ≤ (v32 2).toInt ∧ (v32 2).toInt ≤ 2147483647 := ⟨zlo _, zhi _⟩
      have b_ : -2147483648 ≤ (v32 3).toInt ∧ (v32 3).toInt ≤ 2147483647 := ⟨zlo _, zhi _⟩
      have b_ : -2147483648 ≤ (v32 4).toInt ∧ (v32 4).toInt ≤ 2147483647 := ⟨zlo _, zhi _⟩
      have b_ : -2147483648 ≤ (v32 5).toInt ∧ (v32 5).toInt ≤ 2147483647 := ⟨zlo _, zhi _⟩
      have b_ : -2147483648 ≤ (v32 6).toInt ∧ (v32 6).toInt ≤ 2147483647 := ⟨zlo _, zhi _⟩
      have b_ : -2147483648 ≤ (v32 7).toInt ∧ (v32 7).toInt ≤ 2147483647 := ⟨zlo _, zhi _⟩
      have b_ : -2147483648 ≤ (v32 8).toInt ∧ (v32 8).toInt ≤ 2147483647 := ⟨zlo _, zhi _⟩
      have hpost : (zPp f5 f6 f7 (v4 7).toInt f24 f25 f26 f27 f28 f29 (v23 8).toInt (v23 9).toInt (v23 10).toInt (v23 11).toInt f30 f31 (v18 4).toInt f19 x1.toInt lw0.toInt ((-1) : Int32).toInt) := by first | exact zPp_k (by omega) hX30_1 (by omega) rfl (by omega) | exact zPp_b (by omega) hX30_1 (by omega) hX46_0 hX85_0 (by omega) | exact zPp_c (by omega) hX30_1 (by omega) hX46_0 hX94_0 hX97_0 (by omega) | exact zPp_t (by omega) hX30_1 (by omega) hX46_0 hX106_3 hX117_0 (by omega) (by omega) (Or.inl ⟨by omega, rfl⟩) | exact zPp_t (by omega) hX30_1 (by omega) hX46_0 hX126_3 hX137_0 (by omega) (by omega) (Or.inr ⟨by omega, rfl⟩) | exact zPp_0 (by omega) (by omega) (by omega) hX30_1 (by omega) (by decide) | exact zPp_n (by omega) (by decide)
      have hP9 : va_P (dC, dI) vwCl [(h0, .inr (11, mX11 h1 h4 h11 h18 h23 h32 h33 h40 h48 h49 sp0 lw0)), (h4, .inr (10, mX10 h5 h6 h7 h8 h9 h10 v4)), (h5, .inl (k5, 400, .inr (.inl f5))), (h6, zi k6 400 f6), (h23, .inr (6, mX6 h24 h25 h26 h27 h28 h29 h30 h31 v23)), (h29, zi k29 400 f29), (h32, .inr (8, mX8 h23 (upd (upd (upd (upd (upd (upd (upd (upd v32 1 (v32 1)) 2 (v32 2)) 3 (v32 3)) 4 (v32 4)) 5 (v32 5)) 6 (v32 6)) 7 (v32 7)) 8 (v32 8)))), (h27, zi k27 400 f27), (h24, zi k24 1250 f24), (h25, zi k25 833 f25), (h26, zi k26 833 f26), (h28, zi k28 400 f28), (h18, .inr (0, mX0 h19 h20 h21 h22 v18)), (h19, zi k19 120 f19), (h7, zi k7 400 f7), (h30, zi k30 400 f30), (h31, zi k31 400 f31)] s.heap := hP
      have hD9 : va_D A [(h0, .inr (11, mX11 h1 h4 h11 h18 h23 h32 h33 h40 h48 h49 sp0 lw0)), (h4, .inr (10, mX10 h5 h6 h7 h8 h9 h10 v4)), (h5, .inl (k5, 400, .inr (.inl f5))), (h6, zi k6 400 f6), (h23, .inr (6, mX6 h24 h25 h26 h27 h28 h29 h30 h31 v23)), (h29, zi k29 400 f29), (h32, .inr (8, mX8 h23 (upd (upd (upd (upd (upd (upd (upd (upd v32 1 (v32 1)) 2 (v32 2)) 3 (v32 3)) 4 (v32 4)) 5 (v32 5)) 6 (v32 6)) 7 (v32 7)) 8 (v32 8)))), (h27, zi k27 400 f27), (h24, zi k24 1250 f24), (h25, zi k25 833 f25), (h26, zi k26 833 f26), (h28, zi k28 400 f28), (h18, .inr (0, mX0 h19 h20 h21 h22 v18)), (h19, zi k19 120 f19), (h7, zi k7 400 f7), (h30, zi k30 400 f30), (h31, zi k31 400 f31)] := hD
      exact W.iret (v := (-1)) hx hb hr (fun t ht hW => ⟨⟨(-1), (fun i => ([(v32 1), (v32 2), (v32 3), (v32 4), (v32 5), (v32 6), (v32 7), (v32 8)] : List (Int32)).getD i 0), rfl, hpost, (fun _ => 0), (fun _ => (fun _ => 0)), (fun _ => (fun _ => 0)), by rw [ht]; exact hP9, va_K.moved hW.alike hK, hD9⟩, hS.F ht⟩) hS.2.2 dX11_posting_21
    · skip
      have b_ := zF_lt rfl zk_0 c_
      refine lv_iload_n hx hb dX11_posting_15 rfl (lv_at hl 1 rfl) ?_
      refine lv_iconst (v := 4) hx hb dX11_posting_16 (by decide) ?_
      refine lv_icmp_le (tgt := 22) hx hb dX11_posting_17 (by decide) (fun c_ => ?_) (fun c_ => ?_)
      · skip
        have b_ := zT_le rfl zk_4 c_
        refine lv_aload_n hx hb dX11_posting_22 rfl (lv_at hl 0 rfl) ?_
        refine va_get (D := (dC, dI)) (ci := 11) (v := .ref h4) (C := RX11) (T := TX11) (N := 12) hx hb hG zuX11 hown hK hP 0 rfl rfl 1 (by decide) (hG _ zv558) (fun _ h9 => h9) rfl dX11_posting_23 ?_
        refine lv_aload_n hx hb dX11_posting_26 rfl (lv_at hl 0 rfl) ?_
        refine va_get (D := (dC, dI)) (ci := 11) (v := .long lw0) (C := RX11) (T := TX11) (N := 12) hx hb hG zuX11 hown hK hP 0 rfl rfl 11 (by decide) (hG _ zv568) (fun _ h9 => h9) rfl dX11_posting_27 ?_
        have hPc := hP.sub (ws' := [(h4, .inr (10, mX10 h5 h6 h7 h8 h9 h10 v4)), (h5, .inl (k5, 400, .inr (.inl f5)))]) [1, 2] rfl
        have hDc := hD.sub (ws' := [(h4, .inr (10, mX10 h5 h6 h7 h8 h9 h10 v4)), (h5, .inl (k5, 400, .inr (.inl f5)))]) [1, 2] (by decide) rfl
        have hKc := hK.sub (tys' := [(k5, .long)]) [0] rfl
        have hFc := va_free (wc := [(h4, .inr (10, mX10 h5 h6 h7 h8 h9 h10 v4)), (h5, .inl (k5, 400, .inr (.inl f5)))]) hD hS hA [1, 2] rfl
        refine va_calli (va_runV (As := [.long lw0]) (rest := []) ⟨hx, hb, hml, hown, hG⟩ (sX10_rankOf_1 l dC dI adK adV h4 h5 h6 h7 h8 h9 h10 k5 s.heap.size v4 f5 lw0 hv4) (cwV 1 hG (zgV zv961 zv740 zv741 zv131 zv742) rfl rfl rfl (by decide +kernel) ⟨Nat.le_of_ble_eq_true rfl, Nat.le_of_ble_eq_true rfl⟩) ⟨zPc_blind, va_recv hKc hPc (ci := 10) (q0 := 0) rfl rfl, zPc_pre hPc hKc hDc hE hS hFc hZ⟩ rfl rfl hl.1 rfl (lv_room (Nat.le_of_ble_eq_true rfl)) dX11_posting_30 ⟨Nat.le_of_ble_eq_true rfl, Nat.le_of_ble_eq_true rfl⟩) hS (fun q _ h => hFc q h) hFc (fun r30_ u30_ t H1 locs ht hvm hw hB hz1 hk1 hS => ?_)
        replace hw : ((-1) ≤ r30_.toInt ∧ r30_.toInt ≤ 399) ∧ (r30_.toInt < (v4 7).toInt) ∧ (zRf f5 (v4 7).toInt lw0.toInt r30_.toInt) := hw
        obtain ⟨b_, hX30_0, hX30_1⟩ := hw
        obtain ⟨w30_, a30_, b30_, hP1, hK1, hD1⟩ := hB
        rw [ht] at hP1
        obtain ⟨hP, hD⟩ := va_join (wr := [(h0, .inr (11, mX11 h1 h4 h11 h18 h23 h32 h33 h40 h48 h49 sp0 lw0)), (h6, zi k6 400 f6), (h23, .inr (6, mX6 h24 h25 h26 h27 h28 h29 h30 h31 v23)), (h29, zi k29 400 f29), (h32, .inr (8, mX8 h23 v32)), (h27, zi k27 400 f27), (h24, zi k24 1250 f24), (h25, zi k25 833 f25), (h26, zi k26 833 f26), (h28, zi k28 400 f28), (h18, .inr (0, mX0 h19 h20 h21 h22 v18)), (h19, zi k19 120 f19), (h7, zi k7 400 f7), (h30, zi k30 400 f30), (h31, zi k31 400 f31)]) (w1 := [(h4, .inr (10, mX10 h5 h6 h7 h8 h9 h10 v4)), (h5, .inl (k5, 400, .inr (.inl f5)))]) hP hD [1, 2] [0, 3, 4, 5, 6, 7, 8, 9, 10, 11, 12, 13, 14, 15, 16] rfl rfl (by decide) (by decide) hk1 hFc hP1 hD1
        have hP : va_P (dC, dI) vwCl [(h0, .inr (11, mX11 h1 h4 h11 h18 h23 h32 h33 h40 h48 h49 sp0 lw0)), (h4, .inr (10, mX10 h5 h6 h7 h8 h9 h10 v4)), (h5, .inl (k5, 400, .inr (.inl f5))), (h6, zi k6 400 f6), (h23, .inr (6, mX6 h24 h25 h26 h27 h28 h29 h30 h31 v23)), (h29, zi k29 400 f29), (h32, .inr (8, mX8 h23 v32)), (h27, zi k27 400 f27), (h24, zi k24 1250 f24), (h25, zi k25 833 f25), (h26, zi k26 833 f26), (h28, zi k28 400 f28), (h18, .inr (0, mX0 h19 h20 h21 h22 v18)), (h19, zi k19 120 f19), (h7, zi k7 400 f7), (h30, zi k30 400 f30), (h31, zi k31 400 f31)] H1 := hP.sub [0, 15, 16, 1, 2, 3, 4, 5, 6, 7, 8, 9, 10, 11, 12, 13, 14] rfl
        have hD : va_D A [(h0, .inr (11, mX11 h1 h4 h11 h18 h23 h32 h33 h40 h48 h49 sp0 lw0)), (h4, .inr (10, mX10 h5 h6 h7 h8 h9 h10 v4)), (h5, .inl (k5, 400, .inr (.inl f5))), (h6, zi k6 400 f6), (h23, .inr (6, mX6 h24 h25 h26 h27 h28 h29 h30 h31 v23)), (h29, zi k29 400 f29), (h32, .inr (8, mX8 h23 v32)), (h27, zi k27 400 f27), (h24, zi k24 1250 f24), (h25, zi k25 833 f25), (h26, zi k26 833 f26), (h28, zi k28 400 f28), (h18, .inr (0, mX0 h19 h20 h21 h22 v18)), (h19, zi k19 120 f19), (h7, zi k7 400 f7), (h30, zi k30 400 f30), (h31, zi k31 400 f31)] := hD.sub [0, 15, 16, 1, 2, 3, 4, 5, 6, 7, 8, 9, 10, 11, 12, 13, 14] (by decide) rfl
        generalize H1 = H at hP hS ⊢
        clear hz1
        refine lv_istore_n (lv' := [(2, .int r30_), (0, .ref h0), (1, .int x1)]) hx hb dX11_posting_33 rfl hl (by decide) rfl (fun ls hl => ?_)
        refine lv_iload_n hx hb dX11_posting_34 rfl (lv_at hl 0 rfl) ?_
        refine lv_iconst (v := (-1)) hx hb dX11_posting_35 (by decide) ?_
        refine lv_icmp_ne (tgt := 41) hx hb dX11_posting_36 (by decide) (fun c_ => ?_) (fun c_ => ?_)
        · skip
          have b_ := zT_ne rfl zk_m1 c_
          refine lv_aload_n hx hb dX11_posting_41 rfl (lv_at hl 1 rfl) ?_
          refine va_get (D := (dC, dI)) (ci := 11) (v := .ref h4) (C := RX11) (T := TX11) (N := 12) hx hb hG zuX11 hown hK hP 0 rfl rfl 1 (by decide) (hG _ zv558) (fun _ h9 => h9) rfl dX11_posting_42 ?_
          refine lv_iload_n hx hb dX11_posting_45 rfl (lv_at hl 0 rfl) ?_
          have hPc := hP.sub (ws' := [(h4, .inr (10, mX10 h5 h6 h7 h8 h9 h10 v4)), (h6, zi k6 400 f6)]) [1, 3] rfl
          have hDc := hD.sub (ws' := [(h4, .inr (10, mX10 h5 h6 h7 h8 h9 h10 v4)), (h6, zi k6 400 f6)]) [1, 3] (by decide) rfl
          have hKc := hK.sub (tys' := [(k6, .int)]) [1] rfl
          have hFc := va_free (wc := [(h4, .inr (10, mX10 h5 h6 h7 h8 h9 h10 v4)), (h6, zi k6 400 f6)]) hD hS hA [1, 3] rfl
          refine va_calli (va_runV (As := [.int r30_]) (rest := []) ⟨hx, hb, hml, hown, hG⟩ (sX10_idAt_0 l dC dI adK adV h4 h6 h5 h7 h8 h9 h10 k6 H.size v4 f6 r30_ hv4 hf6) (cwV 1 hG (zgV zv963 zv753 zv754 zv131 zv755) rfl rfl rfl (by decide +kernel) ⟨Nat.le_of_ble_eq_true rfl, Nat.le_of_ble_eq_true rfl⟩) ⟨zPc_blind, va_recv hKc hPc (ci := 10) (q0 := 0) rfl rfl, zPc_pre hPc hKc hDc hE hS hFc hZ⟩ rfl rfl hl.1 rfl (lv_room (Nat.le_of_ble_eq_true rfl)) dX11_posting_46 ⟨Nat.le_of_ble_eq_true rfl, Nat.le_of_ble_eq_true rfl⟩) hS (fun q _ h => hFc q h) hFc (fun r46_ u46_ t H1 locs ht hvm hw hB hz1 hk1 hS => ?_)
          replace hw : ((-1) ≤ r46_.toInt ∧ r46_.toInt ≤ 399) ∧ (0 ≤ r30_.toInt ∧ r30_.toInt < (v4 7).toInt → r46_.toInt = (f6 ((r30_ : Int32)).toNatClampNeg).toInt) ∧ (r30_.toInt < 0 → r46_.toInt = -1) := hw
          obtain ⟨b_, hX46_0, hX46_1⟩ := hw
          obtain ⟨w46_, a46_, b46_, hP1, hK1, hD1⟩ := hB
          rw [ht] at hP1
          obtain ⟨hP, hD⟩ := va_join (wr := [(h0, .inr (11, mX11 h1 h4 h11 h18 h23 h32 h33 h40 h48 h49 sp0 lw0)), (h5, .inl (k5, 400, .inr (.inl f5))), (h23, .inr (6, mX6 h24 h25 h26 h27 h28 h29 h30 h31 v23)), (h29, zi k29 400 f29), (h32, .inr (8, mX8 h23 v32)), (h27, zi k27 400 f27), (h24, zi k24 1250 f24), (h25, zi k25 833 f25), (h26, zi k26 833 f26), (h28, zi k28 400 f28), (h18, .inr (0, mX0 h19 h20 h21 h22 v18)), (h19, zi k19 120 f19), (h7, zi k7 400 f7), (h30, zi k30 400 f30), (h31, zi k31 400 f31)]) (w1 := [(h4, .inr (10, mX10 h5 h6 h7 h8 h9 h10 v4)), (h6, zi k6 400 f6)]) hP hD [1, 3] [0, 2, 4, 5, 6, 7, 8, 9, 10, 11, 12, 13, 14, 15, 16] rfl rfl (by decide) (by decide) hk1 hFc hP1 hD1
          have hP : va_P (dC, dI) vwCl [(h0, .inr (11, mX11 h1 h4 h11 h18 h23 h32 h33 h40 h48 h49 sp0 lw0)), (h4, .inr (10, mX10 h5 h6 h7 h8 h9 h10 v4)), (h5, .inl (k5, 400, .inr (.inl f5))), (h6, zi k6 400 f6), (h23, .inr (6, mX6 h24 h25 h26 h27 h28 h29 h30 h31 v23)), (h29, zi k29 400 f29), (h32, .inr (8, mX8 h23 v32)), (h27, zi k27 400 f27), (h24, zi k24 1250 f24), (h25, zi k25 833 f25), (h26, zi k26 833 f26), (h28, zi k28 400 f28), (h18, .inr (0, mX0 h19 h20 h21 h22 v18)), (h19, zi k19 120 f19), (h7, zi k7 400 f7), (h30, zi k30 400 f30), (h31, zi k31 400 f31)] H1 := hP.sub [0, 15, 1, 16, 2, 3, 4, 5, 6, 7, 8, 9, 10, 11, 12, 13, 14] rfl
          have hD : va_D A [(h0, .inr (11, mX11 h1 h4 h11 h18 h23 h32 h33 h40 h48 h49 sp0 lw0)), (h4, .inr (10, mX10 h5 h6 h7 h8 h9 h10 v4)), (h5, .inl (k5, 400, .inr (.inl f5))), (h6, zi k6 400 f6), (h23, .inr (6, mX6 h24 h25 h26 h27 h28 h29 h30 h31 v23)), (h29, zi k29 400 f29), (h32, .inr (8, mX8 h23 v32)), (h27, zi k27 400 f27), (h24, zi k24 1250 f24), (h25, zi k25 833 f25), (h26, zi k26 833 f26), (h28, zi k28 400 f28), (h18, .inr (0, mX0 h19 h20 h21 h22 v18)), (h19, zi k19 120 f19), (h7, zi k7 400 f7), (h30, zi k30 400 f30), (h31, zi k31 400 f31)] := hD.sub [0, 15, 1, 16, 2, 3, 4, 5, 6, 7, 8, 9, 10, 11, 12, 13, 14] (by decide) rfl
          generalize H1 = H at hP hS ⊢
          clear hz1
          refine lv_istore_n (lv' := [(3, .int r46_), (2, .int r30_), (0, .ref h0), (1, .int x1)]) hx hb dX11_posting_49 rfl hl (by decide) rfl (fun ls hl => ?_)
          refine lv_iload_n hx hb dX11_posting_50 rfl (lv_at hl 3 rfl) ?_
          rcases Classical.em (x1 = (0 : Int32)) with c_ | c_
          · skip
            have b_ : x1.toInt = 0 := by rw [c_]; exact zk_0
            refine lv_tableIn (off := 29) (tgt := 80) hx hb dX11_posting_51 (by omega) (by omega) (by rw [b_]; decide) (by decide) ?_
            refine lv_aload_n hx hb dX11_posting_80 rfl (lv_at hl 2 rfl) ?_
            refine va_get (D := (dC, dI)) (ci := 11) (v := .ref h23) (C := RX11) (T := TX11) (N := 12) hx hb hG zuX11 hown hK hP 0 rfl rfl 4 (by decide) (hG _ zv561) (fun _ h9 => h9) rfl dX11_posting_81 ?_
            refine lv_iload_n hx hb dX11_posting_84 rfl (lv_at hl 0 rfl) ?_
            have hPc := hP.sub (ws' := [(h23, .inr (6, mX6 h24 h25 h26 h27 h28 h29 h30 h31 v23)), (h29, zi k29 400 f29)]) [4, 5] rfl
            have hDc := hD.sub (ws' := [(h23, .inr (6, mX6 h24 h25 h26 h27 h28 h29 h30 h31 v23)), (h29, zi k29 400 f29)]) [4, 5] (by decide) rfl
            have hKc := hK.sub (tys' := [(k29, .int)]) [2] rfl
            have hFc := va_free (wc := [(h23, .inr (6, mX6 h24 h25 h26 h27 h28 h29 h30 h31 v23)), (h29, zi k29 400 f29)]) hD hS hA [4, 5] rfl
            refine va_calli (va_runV (As := [.int r46_]) (rest := []) ⟨hx, hb, hml, hown, hG⟩ (sX6_bitsOf_0 l dC dI adK adV h23 h29 h24 h25 h26 h27 h28 h30 h31 k29 H.size v23 f29 r46_ hv23) (cwV 1 hG (zgV zv977 zv772 zv773 zv133 zv774) rfl rfl rfl (by decide +kernel) ⟨Nat.le_of_ble_eq_true rfl, Nat.le_of_ble_eq_true rfl⟩) ⟨zPc_blind, va_recv hKc hPc (ci := 6) (q0 := 0) rfl rfl, zPc_pre hPc hKc hDc hE hS hFc hZ⟩ rfl rfl hl.1 rfl (lv_room (Nat.le_of_ble_eq_true rfl)) dX11_posting_85 ⟨Nat.le_of_ble_eq_true rfl, Nat.le_of_ble_eq_true rfl⟩) hS (fun q _ h => hFc q h) hFc (fun r85_ u85_ t H1 locs ht hvm hw hB hz1 hk1 hS => ?_)
            replace hw : (zW (0 ≤ r46_.toInt → r46_.toInt ≤ 399 → r85_.toInt = (f29 ((r46_ : Int32)).toNatClampNeg).toInt)) ∧ ((r46_.toInt < 0 ∨ 399 < r46_.toInt) → r85_.toInt = 0) := hw
            obtain ⟨hX85_0, hX85_1⟩ := hw
            obtain ⟨w85_, a85_, b85_, hP1, hK1, hD1⟩ := hB
            rw [ht] at hP1
            obtain ⟨hP, hD⟩ := va_join (wr := [(h0, .inr (11, mX11 h1 h4 h11 h18 h23 h32 h33 h40 h48 h49 sp0 lw0)), (h4, .inr (10, mX10 h5 h6 h7 h8 h9 h10 v4)), (h5, .inl (k5, 400, .inr (.inl f5))), (h6, zi k6 400 f6), (h32, .inr (8, mX8 h23 v32)), (h27, zi k27 400 f27), (h24, zi k24 1250 f24), (h25, zi k25 833 f25), (h26, zi k26 833 f26), (h28, zi k28 400 f28), (h18, .inr (0, mX0 h19 h20 h21 h22 v18)), (h19, zi k19 120 f19), (h7, zi k7 400 f7), (h30, zi k30 400 f30), (h31, zi k31 400 f31)]) (w1 := [(h23, .inr (6, mX6 h24 h25 h26 h27 h28 h29 h30 h31 v23)), (h29, zi k29 400 f29)]) hP hD [4, 5] [0, 1, 2, 3, 6, 7, 8, 9, 10, 11, 12, 13, 14, 15, 16] rfl rfl (by decide) (by decide) hk1 hFc hP1 hD1
            have hP : va_P (dC, dI) vwCl [(h0, .inr (11, mX11 h1 h4 h11 h18 h23 h32 h33 h40 h48 h49 sp0 lw0)), (h4, .inr (10, mX10 h5 h6 h7 h8 h9 h10 v4)), (h5, .inl (k5, 400, .inr (.inl f5))), (h6, zi k6 400 f6), (h23, .inr (6, mX6 h24 h25 h26 h27 h28 h29 h30 h31 v23)), (h29, zi k29 400 f29), (h32, .inr (8, mX8 h23 v32)), (h27, zi k27 400 f27), (h24, zi k24 1250 f24), (h25, zi k25 833 f25), (h26, zi k26 833 f26), (h28, zi k28 400 f28), (h18, .inr (0, mX0 h19 h20 h21 h22 v18)), (h19, zi k19 120 f19), (h7, zi k7 400 f7), (h30, zi k30 400 f30), (h31, zi k31 400 f31)] H1 := hP.sub [0, 1, 2, 3, 15, 16, 4, 5, 6, 7, 8, 9, 10, 11, 12, 13, 14] rfl
            have hD : va_D A [(h0, .inr (11, mX11 h1 h4 h11 h18 h23 h32 h33 h40 h48 h49 sp0 lw0)), (h4, .inr (10, mX10 h5 h6 h7 h8 h9 h10 v4)), (h5, .inl (k5, 400, .inr (.inl f5))), (h6, zi k6 400 f6), (h23, .inr (6, mX6 h24 h25 h26 h27 h28 h29 h30 h31 v23)), (h29, zi k29 400 f29), (h32, .inr (8, mX8 h23 v32)), (h27, zi k27 400 f27), (h24, zi k24 1250 f24), (h25, zi k25 833 f25), (h26, zi k26 833 f26), (h28, zi k28 400 f28), (h18, .inr (0, mX0 h19 h20 h21 h22 v18)), (h19, zi k19 120 f19), (h7, zi k7 400 f7), (h30, zi k30 400 f30), (h31, zi k31 400 f31)] := hD.sub [0, 1, 2, 3, 15, 16, 4, 5, 6, 7, 8, 9, 10, 11, 12, 13, 14] (by decide) rfl
            generalize H1 = H at hP hS ⊢
            clear hz1
            refine W.widen (k := 0) (n := 0) (by decide) (by decide) ?_
            have b_ : -2147483648 ≤ r85_.toInt ∧ r85_.toInt ≤ 2147483647 := ⟨zlo _, zhi _⟩
            have b_ : -2147483648 ≤ (v32 1).toInt ∧ (v32 1).toInt ≤ 2147483647 := ⟨zlo _, zhi _⟩
            have b_ : -2147483648 ≤ (v32 2).toInt ∧ (v32 2).toInt ≤ 2147483647 := ⟨zlo _, zhi _⟩
            have b_ : -2147483648 ≤ (v32 3).toInt ∧ (v32 3).toInt ≤ 2147483647 := ⟨zlo _, zhi _⟩
            have b_ : -2147483648 ≤ (v32 4).toInt ∧ (v32 4).toInt ≤ 2147483647 := ⟨zlo _, zhi _⟩
            have b_ : -2147483648 ≤ (v32 5).toInt ∧ (v32 5).toInt ≤ 2147483647 := ⟨zlo _, zhi _⟩
            have b_ : -2147483648 ≤ (v32 6).toInt ∧ (v32 6).toInt ≤ 2147483647 := ⟨zlo _, zhi _⟩
            have b_ : -2147483648 ≤ (v32 7).toInt ∧ (v32 7).toInt ≤ 2147483647 := ⟨zlo _, zhi _⟩
            have b_ : -2147483648 ≤ (v32 8).toInt ∧ (v32 8).toInt ≤ 2147483647 := ⟨zlo _, zhi _⟩
            have hpost : (zPp f5 f6 f7 (v4 7).toInt f24 f25 f26 f27 f28 f29 (v23 8).toInt (v23 9).toInt (v23 10).toInt (v23 11).toInt f30 f31 (v18 4).toInt f19 x1.toInt lw0.toInt r85_.toInt) := by first | exact zPp_k (by omega) hX30_1 (by omega) rfl (by omega) | exact zPp_b (by omega) hX30_1 (by omega) hX46_0 hX85_0 (by omega) | exact zPp_c (by omega) hX30_1 (by omega) hX46_0 hX94_0 hX97_0 (by omega) | exact zPp_t (by omega) hX30_1 (by omega) hX46_0 hX106_3 hX117_0 (by omega) (by omega) (Or.inl ⟨by omega, rfl⟩) | exact zPp_t (by omega) hX30_1 (by omega) hX46_0 hX126_3 hX137_0 (by omega) (by omega) (Or.inr ⟨by omega, rfl⟩) | exact zPp_0 (by omega) (by omega) (by omega) hX30_1 (by omega) (by decide) | exact zPp_n (by omega) (by decide)
            have hP9 : va_P (dC, dI) vwCl [(h0, .inr (11, mX11 h1 h4 h11 h18 h23 h32 h33 h40 h48 h49 sp0 lw0)), (h4, .inr (10, mX10 h5 h6 h7 h8 h9 h10 v4)), (h5, .inl (k5, 400, .inr (.inl f5))), (h6, zi k6 400 f6), (h23, .inr (6, mX6 h24 h25 h26 h27 h28 h29 h30 h31 v23)), (h29, zi k29 400 f29), (h32, .inr (8, mX8 h23 (upd (upd (upd (upd (upd (upd (upd (upd v32 1 (v32 1)) 2 (v32 2)) 3 (v32 3)) 4 (v32 4)) 5 (v32 5)) 6 (v32 6)) 7 (v32 7)) 8 (v32 8)))), (h27, zi k27 400 f27), (h24, zi k24 1250 f24), (h25, zi k25 833 f25), (h26, zi k26 833 f26), (h28, zi k28 400 f28), (h18, .inr (0, mX0 h19 h20 h21 h22 v18)), (h19, zi k19 120 f19), (h7, zi k7 400 f7), (h30, zi k30 400 f30), (h31, zi k31 400 f31)] H := hP
            have hD9 : va_D A [(h0, .inr (11, mX11 h1 h4 h11 h18 h23 h32 h33 h40 h48 h49 sp0 lw0)), (h4, .inr (10, mX10 h5 h6 h7 h8 h9 h10 v4)), (h5, .inl (k5, 400, .inr (.inl f5))), (h6, zi k6 400 f6), (h23, .inr (6, mX6 h24 h25 h26 h27 h28 h29 h30 h31 v23)), (h29, zi k29 400 f29), (h32, .inr (8, mX8 h23 (upd (upd (upd (upd (upd (upd (upd (upd v32 1 (v32 1)) 2 (v32 2)) 3 (v32 3)) 4 (v32 4)) 5 (v32 5)) 6 (v32 6)) 7 (v32 7)) 8 (v32 8)))), (h27, zi k27 400 f27), (h24, zi k24 1250 f24), (h25, zi k25 833 f25), (h26, zi k26 833 f26), (h28, zi k28 400 f28), (h18, .inr (0, mX0 h19 h20 h21 h22 v18)), (h19, zi k19 120 f19), (h7, zi k7 400 f7), (h30, zi k30 400 f30), (h31, zi k31 400 f31)] := hD
            exact W.iret (v := r85_) hx hb hr (fun t ht hW => ⟨⟨r85_, (fun i => ([(v32 1), (v32 2), (v32 3), (v32 4), (v32 5), (v32 6), (v32 7), (v32 8)] : List (Int32)).getD i 0), rfl, hpost, (fun _ => 0), (fun _ => (fun _ => 0)), (fun _ => (fun _ => 0)), by rw [ht]; exact hP9, va_K.moved hW.alike hK, hD9⟩, hS.F ht⟩) hS.2.2 dX11_posting_88
          · skip
            have b_ : x1.toInt ≠ 0 := fun h => c_ (zeqi.mpr (h.trans zk_0.symm))
            rcases Classical.em (x1 = (1 : Int32)) with c_ | c_
            · skip
              have b_ : x1.toInt = 1 := by rw [c_]; exact zk_1
              refine lv_tableIn (off := 38) (tgt := 89) hx hb dX11_posting_51 (by omega) (by omega) (by rw [b_]; decide) (by decide) ?_
              refine lv_aload_n hx hb dX11_posting_89 rfl (lv_at hl 2 rfl) ?_
              refine va_get (D := (dC, dI)) (ci := 11) (v := .ref h23) (C := RX11) (T := TX11) (N := 12) hx hb hG zuX11 hown hK hP 0 rfl rfl 4 (by decide) (hG _ zv561) (fun _ h9 => h9) rfl dX11_posting_90 ?_
              refine lv_iload_n hx hb dX11_posting_93 rfl (lv_at hl 0 rfl) ?_
              have hPc := hP.sub (ws' := [(h23, .inr (6, mX6 h24 h25 h26 h27 h28 h29 h30 h31 v23)), (h29, zi k29 400 f29)]) [4, 5] rfl
              have hDc := hD.sub (ws' := [(h23, .inr (6, mX6 h24 h25 h26 h27 h28 h29 h30 h31 v23)), (h29, zi k29 400 f29)]) [4, 5] (by decide) rfl
              have hKc := hK.sub (tys' := [(k29, .int)]) [2] rfl
              have hFc := va_free (wc := [(h23, .inr (6, mX6 h24 h25 h26 h27 h28 h29 h30 h31 v23)), (h29, zi k29 400 f29)]) hD hS hA [4, 5] rfl
              refine va_calli (va_runV (As := [.int r46_]) (rest := []) ⟨hx, hb, hml, hown, hG⟩ (sX6_bitsOf_0 l dC dI adK adV h23 h29 h24 h25 h26 h27 h28 h30 h31 k29 H.size v23 f29 r46_ hv23) (cwV 1 hG (zgV zv977 zv772 zv773 zv133 zv774) rfl rfl rfl (by decide +kernel) ⟨Nat.le_of_ble_eq_true rfl, Nat.le_of_ble_eq_true rfl⟩) ⟨zPc_blind, va_recv hKc hPc (ci := 6) (q0 := 0) rfl rfl, zPc_pre hPc hKc hDc hE hS hFc hZ⟩ rfl rfl hl.1 rfl (lv_room (Nat.le_of_ble_eq_true rfl)) dX11_posting_94 ⟨Nat.le_of_ble_eq_true rfl, Nat.le_of_ble_eq_true rfl⟩) hS (fun q _ h => hFc q h) hFc (fun r94_ u94_ t H1 locs ht hvm hw hB hz1 hk1 hS => ?_)
              replace hw : (zW (0 ≤ r46_.toInt → r46_.toInt ≤ 399 → r94_.toInt = (f29 ((r46_ : Int32)).toNatClampNeg).toInt)) ∧ ((r46_.toInt < 0 ∨ 399 < r46_.toInt) → r94_.toInt = 0) := hw
              obtain ⟨hX94_0, hX94_1⟩ := hw
              obtain ⟨w94_, a94_, b94_, hP1, hK1, hD1⟩ := hB
              rw [ht] at hP1
              obtain ⟨hP, hD⟩ := va_join (wr := [(h0, .inr (11, mX11 h1 h4 h11 h18 h23 h32 h33 h40 h48 h49 sp0 lw0)), (h4, .inr (10, mX10 h5 h6 h7 h8 h9 h10 v4)), (h5, .inl (k5, 400, .inr (.inl f5))), (h6, zi k6 400 f6), (h32, .inr (8, mX8 h23 v32)), (h27, zi k27 400 f27), (h24, zi k24 1250 f24), (h25, zi k25 833 f25), (h26, zi k26 833 f26), (h28, zi k28 400 f28), (h18, .inr (0, mX0 h19 h20 h21 h22 v18)), (h19, zi k19 120 f19), (h7, zi k7 400 f7), (h30, zi k30 400 f30), (h31, zi k31 400 f31)]) (w1 := [(h23, .inr (6, mX6 h24 h25 h26 h27 h28 h29 h30 h31 v23)), (h29, zi k29 400 f29)]) hP hD [4, 5] [0, 1, 2, 3, 6, 7, 8, 9, 10, 11, 12, 13, 14, 15, 16] rfl rfl (by decide) (by decide) hk1 hFc hP1 hD1
              have hP : va_P (dC, dI) vwCl [(h0, .inr (11, mX11 h1 h4 h11 h18 h23 h32 h33 h40 h48 h49 sp0 lw0)), (h4, .inr (10, mX10 h5 h6 h7 h8 h9 h10 v4)), (h5, .inl (k5, 400, .inr (.inl f5))), (h6, zi k6 400 f6), (h23, .inr (6, mX6 h24 h25 h26 h27 h28 h29 h30 h31 v23)), (h29, zi k29 400 f29), (h32, .inr (8, mX8 h23 v32)), (h27, zi k27 400 f27), (h24, zi k24 1250 f24), (h25, zi k25 833 f25), (h26, zi k26 833 f26), (h28, zi k28 400 f28), (h18, .inr (0, mX0 h19 h20 h21 h22 v18)), (h19, zi k19 120 f19), (h7, zi k7 400 f7), (h30, zi k30 400 f30), (h31, zi k31 400 f31)] H1 := hP.sub [0, 1, 2, 3, 15, 16, 4, 5, 6, 7, 8, 9, 10, 11, 12, 13, 14] rfl
              have hD : va_D A [(h0, .inr (11, mX11 h1 h4 h11 h18 h23 h32 h33 h40 h48 h49 sp0 lw0)), (h4, .inr (10, mX10 h5 h6 h7 h8 h9 h10 v4)), (h5, .inl (k5, 400, .inr (.inl f5))), (h6, zi k6 400 f6), (h23, .inr (6, mX6 h24 h25 h26 h27 h28 h29 h30 h31 v23)), (h29, zi k29 400 f29), (h32, .inr (8, mX8 h23 v32)), (h27, zi k27 400 f27), (h24, zi k24 1250 f24), (h25, zi k25 833 f25), (h26, zi k26 833 f26), (h28, zi k28 400 f28), (h18, .inr (0, mX0 h19 h20 h21 h22 v18)), (h19, zi k19 120 f19), (h7, zi k7 400 f7), (h30, zi k30 400 f30), (h31, zi k31 400 f31)] := hD.sub [0, 1, 2, 3, 15, 16, 4, 5, 6, 7, 8, 9, 10, 11, 12, 13, 14] (by decide) rfl
              generalize H1 = H at hP hS ⊢
              clear hz1
              have hPc := hP.sub (ws' := []) [] rfl
              have hDc := hD.sub (ws' := []) [] (by decide) rfl
              have hKc := hK.sub (tys' := []) [] rfl
              have hFc := va_free (wc := []) hD hS hA [] rfl
              refine va_calli (va_runS (As := [.int r94_]) (rest := []) ⟨hx, hb, hml, hown, hG⟩ (sX6_chunksFor_0 l dC dI adK adV H.size r94_) (va_cwS 1 hG (zgS zv978 zv800 zv133 zv801) rfl rfl rfl (by decide +kernel) ⟨Nat.le_of_ble_eq_true rfl, Nat.le_of_ble_eq_true rfl⟩) ⟨zPc_blind, zPc_pre hPc hKc hDc hE hS hFc hZ⟩ rfl rfl hl.1 rfl (lv_room (Nat.le_of_ble_eq_true rfl)) dX11_posting_97 ⟨Nat.le_of_ble_eq_true rfl, Nat.le_of_ble_eq_true rfl⟩) hS (fun q _ h => hFc q h) hFc (fun r97_ u97_ t H1 locs ht hvm hw hB hz1 hk1 hS => ?_)
              replace hw : (0 ≤ r97_.toInt ∧ r97_.toInt ≤ 8388611) ∧ (0 ≤ r94_.toInt → r97_.toInt = (znc (r94_.toInt).toNat : Int)) := hw
              obtain ⟨b_, hX97_0⟩ := hw
              obtain ⟨w97_, a97_, b97_, hP1, hK1, hD1⟩ := hB
              rw [ht] at hP1
              obtain ⟨hP, hD⟩ := va_join (wr := [(h0, .inr (11, mX11 h1 h4 h11 h18 h23 h32 h33 h40 h48 h49 sp0 lw0)), (h4, .inr (10, mX10 h5 h6 h7 h8 h9 h10 v4)), (h5, .inl (k5, 400, .inr (.inl f5))), (h6, zi k6 400 f6), (h23, .inr (6, mX6 h24 h25 h26 h27 h28 h29 h30 h31 v23)), (h29, zi k29 400 f29), (h32, .inr (8, mX8 h23 v32)), (h27, zi k27 400 f27), (h24, zi k24 1250 f24), (h25, zi k25 833 f25), (h26, zi k26 833 f26), (h28, zi k28 400 f28), (h18, .inr (0, mX0 h19 h20 h21 h22 v18)), (h19, zi k19 120 f19), (h7, zi k7 400 f7), (h30, zi k30 400 f30), (h31, zi k31 400 f31)]) (w1 := []) hP hD [] [0, 1, 2, 3, 4, 5, 6, 7, 8, 9, 10, 11, 12, 13, 14, 15, 16] rfl rfl (by decide) (by decide) hk1 hFc hP1 hD1
              have hP : va_P (dC, dI) vwCl [(h0, .inr (11, mX11 h1 h4 h11 h18 h23 h32 h33 h40 h48 h49 sp0 lw0)), (h4, .inr (10, mX10 h5 h6 h7 h8 h9 h10 v4)), (h5, .inl (k5, 400, .inr (.inl f5))), (h6, zi k6 400 f6), (h23, .inr (6, mX6 h24 h25 h26 h27 h28 h29 h30 h31 v23)), (h29, zi k29 400 f29), (h32, .inr (8, mX8 h23 v32)), (h27, zi k27 400 f27), (h24, zi k24 1250 f24), (h25, zi k25 833 f25), (h26, zi k26 833 f26), (h28, zi k28 400 f28), (h18, .inr (0, mX0 h19 h20 h21 h22 v18)), (h19, zi k19 120 f19), (h7, zi k7 400 f7), (h30, zi k30 400 f30), (h31, zi k31 400 f31)] H1 := hP.sub [0, 1, 2, 3, 4, 5, 6, 7, 8, 9, 10, 11, 12, 13, 14, 15, 16] rfl
              have hD : va_D A [(h0, .inr (11, mX11 h1 h4 h11 h18 h23 h32 h33 h40 h48 h49 sp0 lw0)), (h4, .inr (10, mX10 h5 h6 h7 h8 h9 h10 v4)), (h5, .inl (k5, 400, .inr (.inl f5))), (h6, zi k6 400 f6), (h23, .inr (6, mX6 h24 h25 h26 h27 h28 h29 h30 h31 v23)), (h29, zi k29 400 f29), (h32, .inr (8, mX8 h23 v32)), (h27, zi k27 400 f27), (h24, zi k24 1250 f24), (h25, zi k25 833 f25), (h26, zi k26 833 f26), (h28, zi k28 400 f28), (h18, .inr (0, mX0 h19 h20 h21 h22 v18)), (h19, zi k19 120 f19), (h7, zi k7 400 f7), (h30, zi k30 400 f30), (h31, zi k31 400 f31)] := hD.sub [0, 1, 2, 3, 4, 5, 6, 7, 8, 9, 10, 11, 12, 13, 14, 15, 16] (by decide) rfl
              generalize H1 = H at hP hS ⊢
              clear hz1
              refine W.widen (k := 0) (n := 0) (by decide) (by decide) ?_
              have b_ : -2147483648 ≤ (v32 1).toInt ∧ (v32 1).toInt ≤ 2147483647 := ⟨zlo _, zhi _⟩
              have b_ : -2147483648 ≤ (v32 2).toInt ∧ (v32 2).toInt ≤ 2147483647 := ⟨zlo _, zhi _⟩
              have b_ : -2147483648 ≤ (v32 3).toInt ∧ (v32 3).toInt ≤ 2147483647 := ⟨zlo _, zhi _⟩
              have b_ : -2147483648 ≤ (v32 4).toInt ∧ (v32 4).toInt ≤ 2147483647 := ⟨zlo _, zhi _⟩
              have b_ : -2147483648 ≤ (v32 5).toInt ∧ (v32 5).toInt ≤ 2147483647 := ⟨zlo _, zhi _⟩
              have b_ : -2147483648 ≤ (v32 6).toInt ∧ (v32 6).toInt ≤ 2147483647 := ⟨zlo _, zhi _⟩
              have b_ : -2147483648 ≤ (v32 7).toInt ∧ (v32 7).toInt ≤ 2147483647 := ⟨zlo _, zhi _⟩
              have b_ : -2147483648 ≤ (v32 8).toInt ∧ (v32 8).toInt ≤ 2147483647 := ⟨zlo _, zhi _⟩
              have hpost : (zPp f5 f6 f7 (v4 7).toInt f24 f25 f26 f27 f28 f29 (v23 8).toInt (v23 9).toInt (v23 10).toInt (v23 11).toInt f30 f31 (v18 4).toInt f19 x1.toInt lw0.toInt r97_.toInt) := by first | exact zPp_k (by omega) hX30_1 (by omega) rfl (by omega) | exact zPp_b (by omega) hX30_1 (by omega) hX46_0 hX85_0 (by omega) | exact zPp_c (by omega) hX30_1 (by omega) hX46_0 hX94_0 hX97_0 (by omega) | exact zPp_t (by omega) hX30_1 (by omega) hX46_0 hX106_3 hX117_0 (by omega) (by omega) (Or.inl ⟨by omega, rfl⟩) | exact zPp_t (by omega) hX30_1 (by omega) hX46_0 hX126_3 hX137_0 (by omega) (by omega) (Or.inr ⟨by omega, rfl⟩) | exact zPp_0 (by omega) (by omega) (by omega) hX30_1 (by omega) (by decide) | exact zPp_n (by omega) (by decide)
              have hP9 : va_P (dC, dI) vwCl [(h0, .inr (11, mX11 h1 h4 h11 h18 h23 h32 h33 h40 h48 h49 sp0 lw0)), (h4, .inr (10, mX10 h5 h6 h7 h8 h9 h10 v4)), (h5, .inl (k5, 400, .inr (.inl f5))), (h6, zi k6 400 f6), (h23, .inr (6, mX6 h24 h25 h26 h27 h28 h29 h30 h31 v23)), (h29, zi k29 400 f29), (h32, .inr (8, mX8 h23 (upd (upd (upd (upd (upd (upd (upd (upd v32 1 (v32 1)) 2 (v32 2)) 3 (v32 3)) 4 (v32 4)) 5 (v32 5)) 6 (v32 6)) 7 (v32 7)) 8 (v32 8)))), (h27, zi k27 400 f27), (h24, zi k24 1250 f24), (h25, zi k25 833 f25), (h26, zi k26 833 f26), (h28, zi k28 400 f28), (h18, .inr (0, mX0 h19 h20 h21 h22 v18)), (h19, zi k19 120 f19), (h7, zi k7 400 f7), (h30, zi k30 400 f30), (h31, zi k31 400 f31)] H := hP
              have hD9 : va_D A [(h0, .inr (11, mX11 h1 h4 h11 h18 h23 h32 h33 h40 h48 h49 sp0 lw0)), (h4, .inr (10, mX10 h5 h6 h7 h8 h9 h10 v4)), (h5, .inl (k5, 400, .inr (.inl f5))), (h6, zi k6 400 f6), (h23, .inr (6, mX6 h24 h25 h26 h27 h28 h29 h30 h31 v23)), (h29, zi k29 400 f29), (h32, .inr (8, mX8 h23 (upd (upd (upd (upd (upd (upd (upd (upd v32 1 (v32 1)) 2 (v32 2)) 3 (v32 3)) 4 (v32 4)) 5 (v32 5)) 6 (v32 6)) 7 (v32 7)) 8 (v32 8)))), (h27, zi k27 400 f27), (h24, zi k24 1250 f24), (h25, zi k25 833 f25), (h26, zi k26 833 f26), (h28, zi k28 400 f28), (h18, .inr (0, mX0 h19 h20 h21 h22 v18)), (h19, zi k19 120 f19), (h7, zi k7 400 f7), (h30, zi k30 400 f30), (h31, zi k31 400 f31)] := hD
              exact W.iret (v := r97_) hx hb hr (fun t ht hW => ⟨⟨r97_, (fun i => ([(v32 1), (v32 2), (v32 3), (v32 4), (v32 5), (v32 6), (v32 7), (v32 8)] : List (Int32)).getD i 0), rfl, hpost, (fun _ => 0), (fun _ => (fun _ => 0)), (fun _ => (fun _ => 0)), by rw [ht]; exact hP9, va_K.moved hW.alike hK, hD9⟩, hS.F ht⟩) hS.2.2 dX11_posting_100
            · skip
              have b_ : x1.toInt ≠ 1 := fun h => c_ (zeqi.mpr (h.trans zk_1.symm))
              rcases Classical.em (x1 = (2 : Int32)) with c_ | c_
              · skip
                have b_ : x1.toInt = 2 := by rw [c_]; exact zk_2
                refine lv_tableIn (off := 50) (tgt := 101) hx hb dX11_posting_51 (by omega) (by omega) (by rw [b_]; decide) (by decide) ?_
                refine lv_aload_n hx hb dX11_posting_101 rfl (lv_at hl 2 rfl) ?_
                refine va_get (D := (dC, dI)) (ci := 11) (v := .ref h32) (C := RX11) (T := TX11) (N := 12) hx hb hG zuX11 hown hK hP 0 rfl rfl 5 (by decide) (hG _ zv562) (fun _ h9 => h9) rfl dX11_posting_102 ?_
                refine lv_iload_n hx hb dX11_posting_105 rfl (lv_at hl 0 rfl) ?_
                have hPc := hP.sub (ws' := [(h32, .inr (8, mX8 h23 v32)), (h23, .inr (6, mX6 h24 h25 h26 h27 h28 h29 h30 h31 v23)), (h29, zi k29 400 f29), (h27, zi k27 400 f27), (h24, zi k24 1250 f24), (h25, zi k25 833 f25), (h26, zi k26 833 f26), (h28, zi k28 400 f28)]) [6, 4, 5, 7, 8, 9, 10, 11] rfl
                have hDc := hD.sub (ws' := [(h32, .inr (8, mX8 h23 v32)), (h23, .inr (6, mX6 h24 h25 h26 h27 h28 h29 h30 h31 v23)), (h29, zi k29 400 f29), (h27, zi k27 400 f27), (h24, zi k24 1250 f24), (h25, zi k25 833 f25), (h26, zi k26 833 f26), (h28, zi k28 400 f28)]) [6, 4, 5, 7, 8, 9, 10, 11] (by decide) rfl
                have hKc := hK.sub (tys' := [(k29, .int), (k27, .int), (k24, .int), (k25, .int), (k26, .int), (k28, .int)]) [2, 3, 4, 5, 6, 7] rfl
                have hFc := va_free (wc := [(h32, .inr (8, mX8 h23 v32)), (h23, .inr (6, mX6 h24 h25 h26 h27 h28 h29 h30 h31 v23)), (h29, zi k29 400 f29), (h27, zi k27 400 f27), (h24, zi k24 1250 f24), (h25, zi k25 833 f25), (h26, zi k26 833 f26), (h28, zi k28 400 f28)]) hD hS hA [6, 4, 5, 7, 8, 9, 10, 11] rfl
                refine va_callv (va_runV (As := [.int r46_]) (rest := []) ⟨hx, hb, hml, hown, hG⟩ (sX8_open_0 l dC dI adK adV h32 h23 h29 h27 h24 h25 h26 h28 h30 h31 k29 k27 k24 k25 k26 k28 H.size v32 v23 f29 f27 f24 f25 f26 f28 r46_ hv23 hf25 hf28) (cwV 1 hG (zgV zv897 zv898 zv899 zv134 zv900) rfl rfl rfl (by decide +kernel) ⟨Nat.le_of_ble_eq_true rfl, Nat.le_of_ble_eq_true rfl⟩) ⟨zPc_blind, va_recv hKc hPc (ci := 8) (q0 := 0) rfl rfl, zPc_pre hPc hKc hDc hE hS hFc hZ⟩ rfl rfl hl.1 rfl (lv_room (Nat.le_of_ble_eq_true rfl)) dX11_posting_106 ⟨Nat.le_of_ble_eq_true rfl, Nat.le_of_ble_eq_true rfl⟩) hS (fun q _ h => hFc q h) hFc (fun u106_ t H1 locs ht hvm hw hB hz1 hk1 hS => ?_)
                replace hw : (0 ≤ (u106_ 2).toInt ∧ (u106_ 2).toInt ≤ 0) ∧ (0 ≤ (u106_ 3).toInt ∧ (u106_ 3).toInt ≤ 0) ∧ ((-1) ≤ (u106_ 4).toInt ∧ (u106_ 4).toInt ≤ (-1)) ∧ (0 ≤ (u106_ 5).toInt ∧ (u106_ 5).toInt ≤ 0) ∧ (0 ≤ (u106_ 6).toInt ∧ (u106_ 6).toInt ≤ 0) ∧ ((u106_ 4).toInt = -1) ∧ ((u106_ 5).toInt = 0) ∧ ((u106_ 6).toInt = 0) ∧ (zW (0 ≤ r46_.toInt → r46_.toInt ≤ 399 → ∀ B : Nat → List Bool, zPB f24 f25 f26 f27 f28 f29 (v23 8).toInt (v23 9).toInt (v23 10).toInt (v23 11).toInt B → zRr f27 f26 B (u106_ 0).toInt (u106_ 1).toInt (u106_ 2).toInt (u106_ 3).toInt (B ((r46_ : Int32)).toNatClampNeg))) := hw
                obtain ⟨b_, b_, b_, b_, b_, hX106_0, hX106_1, hX106_2, hX106_3⟩ := hw
                obtain ⟨w106_, a106_, b106_, hP1, hK1, hD1⟩ := hB
                rw [ht] at hP1
                obtain ⟨hP, hD⟩ := va_join (wr := [(h0, .inr (11, mX11 h1 h4 h11 h18 h23 h32 h33 h40 h48 h49 sp0 lw0)), (h4, .inr (10, mX10 h5 h6 h7 h8 h9 h10 v4)), (h5, .inl (k5, 400, .inr (.inl f5))), (h6, zi k6 400 f6), (h18, .inr (0, mX0 h19 h20 h21 h22 v18)), (h19, zi k19 120 f19), (h7, zi k7 400 f7), (h30, zi k30 400 f30), (h31, zi k31 400 f31)]) (w1 := [(h32, .inr (8, mX8 h23 (upd (upd (upd (upd (upd (upd (upd v32 1 (u106_ 0)) 2 (u106_ 1)) 3 (u106_ 2)) 4 (u106_ 3)) 5 (u106_ 4)) 6 (u106_ 5)) 7 (u106_ 6)))), (h23, .inr (6, mX6 h24 h25 h26 h27 h28 h29 h30 h31 v23)), (h29, zi k29 400 f29), (h27, zi k27 400 f27), (h24, zi k24 1250 f24), (h25, zi k25 833 f25), (h26, zi k26 833 f26), (h28, zi k28 400 f28)]) hP hD [6, 4, 5, 7, 8, 9, 10, 11] [0, 1, 2, 3, 12, 13, 14, 15, 16] rfl rfl (by decide) (by decide) hk1 hFc hP1 hD1
                have hP : va_P (dC, dI) vwCl [(h0, .inr (11, mX11 h1 h4 h11 h18 h23 h32 h33 h40 h48 h49 sp0 lw0)), (h4, .inr (10, mX10 h5 h6 h7 h8 h9 h10 v4)), (h5, .inl (k5, 400, .inr (.inl f5))), (h6, zi k6 400 f6), (h23, .inr (6, mX6 h24 h25 h26 h27 h28 h29 h30 h31 v23)), (h29, zi k29 400 f29), (h32, .inr (8, mX8 h23 (upd (upd (upd (upd (upd (upd (upd v32 1 (u106_ 0)) 2 (u106_ 1)) 3 (u106_ 2)) 4 (u106_ 3)) 5 (u106_ 4)) 6 (u106_ 5)) 7 (u106_ 6)))), (h27, zi k27 400 f27), (h24, zi k24 1250 f24), (h25, zi k25 833 f25), (h26, zi k26 833 f26), (h28, zi k28 400 f28), (h18, .inr (0, mX0 h19 h20 h21 h22 v18)), (h19, zi k19 120 f19), (h7, zi k7 400 f7), (h30, zi k30 400 f30), (h31, zi k31 400 f31)] H1 := hP.sub [0, 1, 2, 3, 10, 11, 9, 12, 13, 14, 15, 16, 4, 5, 6, 7, 8] rfl
                have hD : va_D A [(h0, .inr (11, mX11 h1 h4 h11 h18 h23 h32 h33 h40 h48 h49 sp0 lw0)), (h4, .inr (10, mX10 h5 h6 h7 h8 h9 h10 v4)), (h5, .inl (k5, 400, .inr (.inl f5))), (h6, zi k6 400 f6), (h23, .inr (6, mX6 h24 h25 h26 h27 h28 h29 h30 h31 v23)), (h29, zi k29 400 f29), (h32, .inr (8, mX8 h23 (upd (upd (upd (upd (upd (upd (upd v32 1 (u106_ 0)) 2 (u106_ 1)) 3 (u106_ 2)) 4 (u106_ 3)) 5 (u106_ 4)) 6 (u106_ 5)) 7 (u106_ 6)))), (h27, zi k27 400 f27), (h24, zi k24 1250 f24), (h25, zi k25 833 f25), (h26, zi k26 833 f26), (h28, zi k28 400 f28), (h18, .inr (0, mX0 h19 h20 h21 h22 v18)), (h19, zi k19 120 f19), (h7, zi k7 400 f7), (h30, zi k30 400 f30), (h31, zi k31 400 f31)] := hD.sub [0, 1, 2, 3, 10, 11, 9, 12, 13, 14, 15, 16, 4, 5, 6, 7, 8] (by decide) rfl
                generalize H1 = H at hP hS ⊢
                clear hz1
                refine lv_aload_n hx hb dX11_posting_109 rfl (lv_at hl 2 rfl) ?_
                refine va_get (D := (dC, dI)) (ci := 11) (v := .ref h32) (C := RX11) (T := TX11) (N := 12) hx hb hG zuX11 hown hK hP 0 rfl rfl 5 (by decide) (hG _ zv562) (fun _ h9 => h9) rfl dX11_posting_110 ?_
                refine lv_aload_n hx hb dX11_posting_113 rfl (lv_at hl 2 rfl) ?_
                refine va_get (D := (dC, dI)) (ci := 11) (v := .ref h18) (C := RX11) (T := TX11) (N := 12) hx hb hG zuX11 hown hK hP 0 rfl rfl 3 (by decide) (hG _ zv560) (fun _ h9 => h9) rfl dX11_posting_114 ?_
                have b_ : -2147483648 ≤ (u106_ 0).toInt ∧ (u106_ 0).toInt ≤ 2147483647 := ⟨zlo _, zhi _⟩
                have b_ : -2147483648 ≤ (u106_ 1).toInt ∧ (u106_ 1).toInt ≤ 2147483647 := ⟨zlo _, zhi _⟩
                have hPc := hP.sub (ws' := [(h32, .inr (8, mX8 h23 (upd (upd (upd (upd (upd (upd (upd v32 1 (u106_ 0)) 2 (u106_ 1)) 3 (u106_ 2)) 4 (u106_ 3)) 5 (u106_ 4)) 6 (u106_ 5)) 7 (u106_ 6)))), (h23, .inr (6, mX6 h24 h25 h26 h27 h28 h29 h30 h31 v23)), (h26, zi k26 833 f26), (h25, zi k25 833 f25), (h24, zi k24 1250 f24), (h27, zi k27 400 f27), (h28, zi k28 400 f28), (h29, zi k29 400 f29), (h18, .inr (0, mX0 h19 h20 h21 h22 v18)), (h19, zi k19 120 f19)]) [6, 4, 10, 9, 8, 7, 11, 5, 12, 13] rfl
                have hDc := hD.sub (ws' := [(h32, .inr (8, mX8 h23 (upd (upd (upd (upd (upd (upd (upd v32 1 (u106_ 0)) 2 (u106_ 1)) 3 (u106_ 2)) 4 (u106_ 3)) 5 (u106_ 4)) 6 (u106_ 5)) 7 (u106_ 6)))), (h23, .inr (6, mX6 h24 h25 h26 h27 h28 h29 h30 h31 v23)), (h26, zi k26 833 f26), (h25, zi k25 833 f25), (h24, zi k24 1250 f24), (h27, zi k27 400 f27), (h28, zi k28 400 f28), (h29, zi k29 400 f29), (h18, .inr (0, mX0 h19 h20 h21 h22 v18)), (h19, zi k19 120 f19)]) [6, 4, 10, 9, 8, 7, 11, 5, 12, 13] (by decide) rfl
                have hKc := hK.sub (tys' := [(k26, .int), (k25, .int), (k24, .int), (k27, .int), (k28, .int), (k29, .int), (k19, .boolean)]) [6, 5, 4, 3, 7, 2, 8] rfl
                have hFc := va_free (wc := [(h32, .inr (8, mX8 h23 (upd (upd (upd (upd (upd (upd (upd v32 1 (u106_ 0)) 2 (u106_ 1)) 3 (u106_ 2)) 4 (u106_ 3)) 5 (u106_ 4)) 6 (u106_ 5)) 7 (u106_ 6)))), (h23, .inr (6, mX6 h24 h25 h26 h27 h28 h29 h30 h31 v23)), (h26, zi k26 833 f26), (h25, zi k25 833 f25), (h24, zi k24 1250 f24), (h27, zi k27 400 f27), (h28, zi k28 400 f28), (h29, zi k29 400 f29), (h18, .inr (0, mX0 h19 h20 h21 h22 v18)), (h19, zi k19 120 f19)]) hD hS hA [6, 4, 10, 9, 8, 7, 11, 5, 12, 13] rfl
                refine va_calli (va_runV (As := [.ref h18]) (rest := []) ⟨hx, hb, hml, hown, hG⟩ (sX8_tallyDocuments_0 l dC dI adK adV h32 h23 h26 h25 h24 h27 h28 h29 h18 h19 h30 h31 h20 h21 h22 k26 k25 k24 k27 k28 k29 k19 H.size (upd (upd (upd (upd (upd (upd (upd v32 1 (u106_ 0)) 2 (u106_ 1)) 3 (u106_ 2)) 4 (u106_ 3)) 5 (u106_ 4)) 6 (u106_ 5)) 7 (u106_ 6)) v23 f26 f25 f24 f27 f28 f29 v18 f19 hv23 hf25 hf28 hv18) (cwV 1 hG (zgV zv979 zv980 zv981 zv134 zv982) rfl rfl rfl (by decide +kernel) ⟨Nat.le_of_ble_eq_true rfl, Nat.le_of_ble_eq_true rfl⟩) ⟨zPc_blind, va_recv hKc hPc (ci := 8) (q0 := 0) rfl rfl, zPc_pre hPc hKc hDc hE hS hFc hZ⟩ rfl rfl hl.1 rfl (lv_room (Nat.le_of_ble_eq_true rfl)) dX11_posting_117 ⟨Nat.le_of_ble_eq_true rfl, Nat.le_of_ble_eq_true rfl⟩) hS (fun q _ h => hFc q h) hFc (fun r117_ u117_ t H1 locs ht hvm hw hB hz1 hk1 hS => ?_)
                replace hw : (0 ≤ r117_.toInt ∧ r117_.toInt ≤ 120) ∧ (zQf zf1 f24 f25 f26 f27 f28 f29 (v23 8).toInt (v23 9).toInt (v23 10).toInt (v23 11).toInt f19 (v18 4).toInt (u106_ 0).toInt (u106_ 1).toInt (u106_ 2).toInt (u106_ 3).toInt (u106_ 4).toInt (u106_ 6).toInt r117_.toInt) := hw
                obtain ⟨b_, hX117_0⟩ := hw
                obtain ⟨w117_, a117_, b117_, hP1, hK1, hD1⟩ := hB
                rw [ht] at hP1
                obtain ⟨hP, hD⟩ := va_join (wr := [(h0, .inr (11, mX11 h1 h4 h11 h18 h23 h32 h33 h40 h48 h49 sp0 lw0)), (h4, .inr (10, mX10 h5 h6 h7 h8 h9 h10 v4)), (h5, .inl (k5, 400, .inr (.inl f5))), (h6, zi k6 400 f6), (h7, zi k7 400 f7), (h30, zi k30 400 f30), (h31, zi k31 400 f31)]) (w1 := [(h32, .inr (8, mX8 h23 (upd (upd (upd (upd (upd (upd (upd (upd v32 1 (u117_ 0)) 2 (u117_ 1)) 3 (u117_ 2)) 4 (u117_ 3)) 5 (u117_ 4)) 6 (u117_ 5)) 7 (u117_ 6)) 8 (u117_ 7)))), (h23, .inr (6, mX6 h24 h25 h26 h27 h28 h29 h30 h31 v23)), (h26, zi k26 833 f26), (h25, zi k25 833 f25), (h24, zi k24 1250 f24), (h27, zi k27 400 f27), (h28, zi k28 400 f28), (h29, zi k29 400 f29), (h18, .inr (0, mX0 h19 h20 h21 h22 v18)), (h19, zi k19 120 f19)]) hP hD [6, 4, 10, 9, 8, 7, 11, 5, 12, 13] [0, 1, 2, 3, 14, 15, 16] rfl rfl (by decide) (by decide) hk1 hFc hP1 hD1
                have hP : va_P (dC, dI) vwCl [(h0, .inr (11, mX11 h1 h4 h11 h18 h23 h32 h33 h40 h48 h49 sp0 lw0)), (h4, .inr (10, mX10 h5 h6 h7 h8 h9 h10 v4)), (h5, .inl (k5, 400, .inr (.inl f5))), (h6, zi k6 400 f6), (h23, .inr (6, mX6 h24 h25 h26 h27 h28 h29 h30 h31 v23)), (h29, zi k29 400 f29), (h32, .inr (8, mX8 h23 (upd (upd (upd (upd (upd (upd (upd (upd v32 1 (u117_ 0)) 2 (u117_ 1)) 3 (u117_ 2)) 4 (u117_ 3)) 5 (u117_ 4)) 6 (u117_ 5)) 7 (u117_ 6)) 8 (u117_ 7)))), (h27, zi k27 400 f27), (h24, zi k24 1250 f24), (h25, zi k25 833 f25), (h26, zi k26 833 f26), (h28, zi k28 400 f28), (h18, .inr (0, mX0 h19 h20 h21 h22 v18)), (h19, zi k19 120 f19), (h7, zi k7 400 f7), (h30, zi k30 400 f30), (h31, zi k31 400 f31)] H1 := hP.sub [0, 1, 2, 3, 8, 14, 7, 12, 11, 10, 9, 13, 15, 16, 4, 5, 6] rfl
                have hD : va_D A [(h0, .inr (11, mX11 h1 h4 h11 h18 h23 h32 h33 h40 h48 h49 sp0 lw0)), (h4, .inr (10, mX10 h5 h6 h7 h8 h9 h10 v4)), (h5, .inl (k5, 400, .inr (.inl f5))), (h6, zi k6 400 f6), (h23, .inr (6, mX6 h24 h25 h26 h27 h28 h29 h30 h31 v23)), (h29, zi k29 400 f29), (h32, .inr (8, mX8 h23 (upd (upd (upd (upd (upd (upd (upd (upd v32 1 (u117_ 0)) 2 (u117_ 1)) 3 (u117_ 2)) 4 (u117_ 3)) 5 (u117_ 4)) 6 (u117_ 5)) 7 (u117_ 6)) 8 (u117_ 7)))), (h27, zi k27 400 f27), (h24, zi k24 1250 f24), (h25, zi k25 833 f25), (h26, zi k26 833 f26), (h28, zi k28 400 f28), (h18, .inr (0, mX0 h19 h20 h21 h22 v18)), (h19, zi k19 120 f19), (h7, zi k7 400 f7), (h30, zi k30 400 f30), (h31, zi k31 400 f31)] := hD.sub [0, 1, 2, 3, 8, 14, 7, 12, 11, 10, 9, 13, 15, 16, 4, 5, 6] (by decide) rfl
                generalize H1 = H at hP hS ⊢
                clear hz1
                refine W.widen (k := 0) (n := 0) (by decide) (by decide) ?_
                have b_ : -2147483648 ≤ (u117_ 0).toInt ∧ (u117_ 0).toInt ≤ 2147483647 := ⟨zlo _, zhi _⟩
                have b_ : -2147483648 ≤ (u117_ 1).toInt ∧ (u117_ 1).toInt ≤ 2147483647 := ⟨zlo _, zhi _⟩
                have b_ : -2147483648 ≤ (u117_ 2).toInt ∧ (u117_ 2).toInt ≤ 2147483647 := ⟨zlo _, zhi _⟩
                have b_ : -2147483648 ≤ (u117_ 3).toInt ∧ (u117_ 3).toInt ≤ 2147483647 := ⟨zlo _, zhi _⟩
                have b_ : -2147483648 ≤ (u117_ 4).toInt ∧ (u117_ 4).toInt ≤ 2147483647 := ⟨zlo _, zhi _⟩
                have b_ : -2147483648 ≤ (u117_ 5).toInt ∧ (u117_ 5).toInt ≤ 2147483647 := ⟨zlo _, zhi _⟩
                have b_ : -2147483648 ≤ (u117_ 6).toInt ∧ (u117_ 6).toInt ≤ 2147483647 := ⟨zlo _, zhi _⟩
                have b_ : -2147483648 ≤ (u117_ 7).toInt ∧ (u117_ 7).toInt ≤ 2147483647 := ⟨zlo _, zhi _⟩
                have hpost : (zPp f5 f6 f7 (v4 7).toInt f24 f25 f26 f27 f28 f29 (v23 8).toInt (v23 9).toInt (v23 10).toInt (v23 11).toInt f30 f31 (v18 4).toInt f19 x1.toInt lw0.toInt r117_.toInt) := by first | exact zPp_k (by omega) hX30_1 (by omega) rfl (by omega) | exact zPp_b (by omega) hX30_1 (by omega) hX46_0 hX85_0 (by omega) | exact zPp_c (by omega) hX30_1 (by omega) hX46_0 hX94_0 hX97_0 (by omega) | exact zPp_t (by omega) hX30_1 (by omega) hX46_0 hX106_3 hX117_0 (by omega) (by omega) (Or.inl ⟨by omega, rfl⟩) | exact zPp_t (by omega) hX30_1 (by omega) hX46_0 hX126_3 hX137_0 (by omega) (by omega) (Or.inr ⟨by omega, rfl⟩) | exact zPp_0 (by omega) (by omega) (by omega) hX30_1 (by omega) (by decide) | exact zPp_n (by omega) (by decide)
                have hP9 : va_P (dC, dI) vwCl [(h0, .inr (11, mX11 h1 h4 h11 h18 h23 h32 h33 h40 h48 h49 sp0 lw0)), (h4, .inr (10, mX10 h5 h6 h7 h8 h9 h10 v4)), (h5, .inl (k5, 400, .inr (.inl f5))), (h6, zi k6 400 f6), (h23, .inr (6, mX6 h24 h25 h26 h27 h28 h29 h30 h31 v23)), (h29, zi k29 400 f29), (h32, .inr (8, mX8 h23 (upd (upd (upd (upd (upd (upd (upd (upd v32 1 (u117_ 0)) 2 (u117_ 1)) 3 (u117_ 2)) 4 (u117_ 3)) 5 (u117_ 4)) 6 (u117_ 5)) 7 (u117_ 6)) 8 (u117_ 7)))), (h27, zi k27 400 f27), (h24, zi k24 1250 f24), (h25, zi k25 833 f25), (h26, zi k26 833 f26), (h28, zi k28 400 f28), (h18, .inr (0, mX0 h19 h20 h21 h22 v18)), (h19, zi k19 120 f19), (h7, zi k7 400 f7), (h30, zi k30 400 f30), (h31, zi k31 400 f31)] H := hP
                have hD9 : va_D A [(h0, .inr (11, mX11 h1 h4 h11 h18 h23 h32 h33 h40 h48 h49 sp0 lw0)), (h4, .inr (10, mX10 h5 h6 h7 h8 h9 h10 v4)), (h5, .inl (k5, 400, .inr (.inl f5))), (h6, zi k6 400 f6), (h23, .inr (6, mX6 h24 h25 h26 h27 h28 h29 h30 h31 v23)), (h29, zi k29 400 f29), (h32, .inr (8, mX8 h23 (upd (upd (upd (upd (upd (upd (upd (upd v32 1 (u117_ 0)) 2 (u117_ 1)) 3 (u117_ 2)) 4 (u117_ 3)) 5 (u117_ 4)) 6 (u117_ 5)) 7 (u117_ 6)) 8 (u117_ 7)))), (h27, zi k27 400 f27), (h24, zi k24 1250 f24), (h25, zi k25 833 f25), (h26, zi k26 833 f26), (h28, zi k28 400 f28), (h18, .inr (0, mX0 h19 h20 h21 h22 v18)), (h19, zi k19 120 f19), (h7, zi k7 400 f7), (h30, zi k30 400 f30), (h31, zi k31 400 f31)] := hD
                exact W.iret (v := r117_) hx hb hr (fun t ht hW => ⟨⟨r117_, (fun i => ([(u117_ 0), (u117_ 1), (u117_ 2), (u117_ 3), (u117_ 4), (u117_ 5), (u117_ 6), (u117_ 7)] : List (Int32)).getD i 0), rfl, hpost, (fun _ => 0), (fun _ => (fun _ => 0)), (fun _ => (fun _ => 0)), by rw [ht]; exact hP9, va_K.moved hW.alike hK, hD9⟩, hS.F ht⟩) hS.2.2 dX11_posting_120
              · skip
                have b_ : x1.toInt ≠ 2 := fun h => c_ (zeqi.mpr (h.trans zk_2.symm))
                rcases Classical.em (x1 = (3 : Int32)) with c_ | c_
                · skip
                  have b_ : x1.toInt = 3 := by rw [c_]; exact zk_3
                  refine lv_tableIn (off := 70) (tgt := 121) hx hb dX11_posting_51 (by omega) (by omega) (by rw [b_]; decide) (by decide) ?_
                  refine lv_aload_n hx hb dX11_posting_121 rfl (lv_at hl 2 rfl) ?_
                  refine va_get (D := (dC, dI)) (ci := 11) (v := .ref h32) (C := RX11) (T := TX11) (N := 12) hx hb hG zuX11 hown hK hP 0 rfl rfl 5 (by decide) (hG _ zv562) (fun _ h9 => h9) rfl dX11_posting_122 ?_
                  refine lv_iload_n hx hb dX11_posting_125 rfl (lv_at hl 0 rfl) ?_
                  have hPc := hP.sub (ws' := [(h32, .inr (8, mX8 h23 v32)), (h23, .inr (6, mX6 h24 h25 h26 h27 h28 h29 h30 h31 v23)), (h29, zi k29 400 f29), (h27, zi k27 400 f27), (h24, zi k24 1250 f24), (h25, zi k25 833 f25), (h26, zi k26 833 f26), (h28, zi k28 400 f28)]) [6, 4, 5, 7, 8, 9, 10, 11] rfl
                  have hDc := hD.sub (ws' := [(h32, .inr (8, mX8 h23 v32)), (h23, .inr (6, mX6 h24 h25 h26 h27 h28 h29 h30 h31 v23)), (h29, zi k29 400 f29), (h27, zi k27 400 f27), (h24, zi k24 1250 f24), (h25, zi k25 833 f25), (h26, zi k26 833 f26), (h28, zi k28 400 f28)]) [6, 4, 5, 7, 8, 9, 10, 11] (by decide) rfl
                  have hKc := hK.sub (tys' := [(k29, .int), (k27, .int), (k24, .int), (k25, .int), (k26, .int), (k28, .int)]) [2, 3, 4, 5, 6, 7] rfl
                  have hFc := va_free (wc := [(h32, .inr (8, mX8 h23 v32)), (h23, .inr (6, mX6 h24 h25 h26 h27 h28 h29 h30 h31 v23)), (h29, zi k29 400 f29), (h27, zi k27 400 f27), (h24, zi k24 1250 f24), (h25, zi k25 833 f25), (h26, zi k26 833 f26), (h28, zi k28 400 f28)]) hD hS hA [6, 4, 5, 7, 8, 9, 10, 11] rfl
                  refine va_callv (va_runV (As := [.int r46_]) (rest := []) ⟨hx, hb, hml, hown, hG⟩ (sX8_open_0 l dC dI adK adV h32 h23 h29 h27 h24 h25 h26 h28 h30 h31 k29 k27 k24 k25 k26 k28 H.size v32 v23 f29 f27 f24 f25 f26 f28 r46_ hv23 hf25 hf28) (cwV 1 hG (zgV zv897 zv898 zv899 zv134 zv900) rfl rfl rfl (by decide +kernel) ⟨Nat.le_of_ble_eq_true rfl, Nat.le_of_ble_eq_true rfl⟩) ⟨zPc_blind, va_recv hKc hPc (ci := 8) (q0 := 0) rfl rfl, zPc_pre hPc hKc hDc hE hS hFc hZ⟩ rfl rfl hl.1 rfl (lv_room (Nat.le_of_ble_eq_true rfl)) dX11_posting_126 ⟨Nat.le_of_ble_eq_true rfl, Nat.le_of_ble_eq_true rfl⟩) hS (fun q _ h => hFc q h) hFc (fun u126_ t H1 locs ht hvm hw hB hz1 hk1 hS => ?_)
                  replace hw : (0 ≤ (u126_ 2).toInt ∧ (u126_ 2).toInt ≤ 0) ∧ (0 ≤ (u126_ 3).toInt ∧ (u126_ 3).toInt ≤ 0) ∧ ((-1) ≤ (u126_ 4).toInt ∧ (u126_ 4).toInt ≤ (-1)) ∧ (0 ≤ (u126_ 5).toInt ∧ (u126_ 5).toInt ≤ 0) ∧ (0 ≤ (u126_ 6).toInt ∧ (u126_ 6).toInt ≤ 0) ∧ ((u126_ 4).toInt = -1) ∧ ((u126_ 5).toInt = 0) ∧ ((u126_ 6).toInt = 0) ∧ (zW (0 ≤ r46_.toInt → r46_.toInt ≤ 399 → ∀ B : Nat → List Bool, zPB f24 f25 f26 f27 f28 f29 (v23 8).toInt (v23 9).toInt (v23 10).toInt (v23 11).toInt B → zRr f27 f26 B (u126_ 0).toInt (u126_ 1).toInt (u126_ 2).toInt (u126_ 3).toInt (B ((r46_ : Int32)).toNatClampNeg))) := hw
                  obtain ⟨b_, b_, b_, b_, b_, hX126_0, hX126_1, hX126_2, hX126_3⟩ := hw
                  obtain ⟨w126_, a126_, b126_, hP1, hK1, hD1⟩ := hB
                  rw [ht] at hP1
                  obtain ⟨hP, hD⟩ := va_join (wr := [(h0, .inr (11, mX11 h1 h4 h11 h18 h23 h32 h33 h40 h48 h49 sp0 lw0)), (h4, .inr (10, mX10 h5 h6 h7 h8 h9 h10 v4)), (h5, .inl (k5, 400, .inr (.inl f5))), (h6, zi k6 400 f6), (h18, .inr (0, mX0 h19 h20 h21 h22 v18)), (h19, zi k19 120 f19), (h7, zi k7 400 f7), (h30, zi k30 400 f30), (h31, zi k31 400 f31)]) (w1 := [(h32, .inr (8, mX8 h23 (upd (upd (upd (upd (upd (upd (upd v32 1 (u126_ 0)) 2 (u126_ 1)) 3 (u126_ 2)) 4 (u126_ 3)) 5 (u126_ 4)) 6 (u126_ 5)) 7 (u126_ 6)))), (h23, .inr (6, mX6 h24 h25 h26 h27 h28 h29 h30 h31 v23)), (h29, zi k29 400 f29), (h27, zi k27 400 f27), (h24, zi k24 1250 f24), (h25, zi k25 833 f25), (h26, zi k26 833 f26), (h28, zi k28 400 f28)]) hP hD [6, 4, 5, 7, 8, 9, 10, 11] [0, 1, 2, 3, 12, 13, 14, 15, 16] rfl rfl (by decide) (by decide) hk1 hFc hP1 hD1
                  have hP : va_P (dC, dI) vwCl [(h0, .inr (11, mX11 h1 h4 h11 h18 h23 h32 h33 h40 h48 h49 sp0 lw0)), (h4, .inr (10, mX10 h5 h6 h7 h8 h9 h10 v4)), (h5, .inl (k5, 400, .inr (.inl f5))), (h6, zi k6 400 f6), (h23, .inr (6, mX6 h24 h25 h26 h27 h28 h29 h30 h31 v23)), (h29, zi k29 400 f29), (h32, .inr (8, mX8 h23 (upd (upd (upd (upd (upd (upd (upd v32 1 (u126_ 0)) 2 (u126_ 1)) 3 (u126_ 2)) 4 (u126_ 3)) 5 (u126_ 4)) 6 (u126_ 5)) 7 (u126_ 6)))), (h27, zi k27 400 f27), (h24, zi k24 1250 f24), (h25, zi k25 833 f25), (h26, zi k26 833 f26), (h28, zi k28 400 f28), (h18, .inr (0, mX0 h19 h20 h21 h22 v18)), (h19, zi k19 120 f19), (h7, zi k7 400 f7), (h30, zi k30 400 f30), (h31, zi k31 400 f31)] H1 := hP.sub [0, 1, 2, 3, 10, 11, 9, 12, 13, 14, 15, 16, 4, 5, 6, 7, 8] rfl
                  have hD : va_D A [(h0, .inr (11, mX11 h1 h4 h11 h18 h23 h32 h33 h40 h48 h49 sp0 lw0)), (h4, .inr (10, mX10 h5 h6 h7 h8 h9 h10 v4)), (h5, .inl (k5, 400, .inr (.inl f5))), (h6, zi k6 400 f6), (h23, .inr (6, mX6 h24 h25 h26 h27 h28 h29 h30 h31 v23)), (h29, zi k29 400 f29), (h32, .inr (8, mX8 h23 (upd (upd (upd (upd (upd (upd (upd v32 1 (u126_ 0)) 2 (u126_ 1)) 3 (u126_ 2)) 4 (u126_ 3)) 5 (u126_ 4)) 6 (u126_ 5)) 7 (u126_ 6)))), (h27, zi k27 400 f27), (h24, zi k24 1250 f24), (h25, zi k25 833 f25), (h26, zi k26 833 f26), (h28, zi k28 400 f28), (h18, .inr (0, mX0 h19 h20 h21 h22 v18)), (h19, zi k19 120 f19), (h7, zi k7 400 f7), (h30, zi k30 400 f30), (h31, zi k31 400 f31)] := hD.sub [0, 1, 2, 3, 10, 11, 9, 12, 13, 14, 15, 16, 4, 5, 6, 7, 8] (by decide) rfl
                  generalize H1 = H at hP hS ⊢
                  clear hz1
                  refine lv_aload_n hx hb dX11_posting_129 rfl (lv_at hl 2 rfl) ?_
                  refine va_get (D := (dC, dI)) (ci := 11) (v := .ref h32) (C := RX11) (T := TX11) (N := 12) hx hb hG zuX11 hown hK hP 0 rfl rfl 5 (by decide) (hG _ zv562) (fun _ h9 => h9) rfl dX11_posting_130 ?_
                  refine lv_aload_n hx hb dX11_posting_133 rfl (lv_at hl 2 rfl) ?_
                  refine va_get (D := (dC, dI)) (ci := 11) (v := .ref h18) (C := RX11) (T := TX11) (N := 12) hx hb hG zuX11 hown hK hP 0 rfl rfl 3 (by decide) (hG _ zv560) (fun _ h9 => h9) rfl dX11_posting_134 ?_
                  have b_ : -2147483648 ≤ (u126_ 0).toInt ∧ (u126_ 0).toInt ≤ 2147483647 := ⟨zlo _, zhi _⟩
                  have b_ : -2147483648 ≤ (u126_ 1).toInt ∧ (u126_ 1).toInt ≤ 2147483647 := ⟨zlo _, zhi _⟩
                  have hPc := hP.sub (ws' := [(h32, .inr (8, mX8 h23 (upd (upd (upd (upd (upd (upd (upd v32 1 (u126_ 0)) 2 (u126_ 1)) 3 (u126_ 2)) 4 (u126_ 3)) 5 (u126_ 4)) 6 (u126_ 5)) 7 (u126_ 6)))), (h23, .inr (6, mX6 h24 h25 h26 h27 h28 h29 h30 h31 v23)), (h26, zi k26 833 f26), (h25, zi k25 833 f25), (h24, zi k24 1250 f24), (h27, zi k27 400 f27), (h28, zi k28 400 f28), (h29, zi k29 400 f29), (h18, .inr (0, mX0 h19 h20 h21 h22 v18)), (h19, zi k19 120 f19)]) [6, 4, 10, 9, 8, 7, 11, 5, 12, 13] rfl
                  have hDc := hD.sub (ws' := [(h32, .inr (8, mX8 h23 (upd (upd (upd (upd (upd (upd (upd v32 1 (u126_ 0)) 2 (u126_ 1)) 3 (u126_ 2)) 4 (u126_ 3)) 5 (u126_ 4)) 6 (u126_ 5)) 7 (u126_ 6)))), (h23, .inr (6, mX6 h24 h25 h26 h27 h28 h29 h30 h31 v23)), (h26, zi k26 833 f26), (h25, zi k25 833 f25), (h24, zi k24 1250 f24), (h27, zi k27 400 f27), (h28, zi k28 400 f28), (h29, zi k29 400 f29), (h18, .inr (0, mX0 h19 h20 h21 h22 v18)), (h19, zi k19 120 f19)]) [6, 4, 10, 9, 8, 7, 11, 5, 12, 13] (by decide) rfl
                  have hKc := hK.sub (tys' := [(k26, .int), (k25, .int), (k24, .int), (k27, .int), (k28, .int), (k29, .int), (k19, .boolean)]) [6, 5, 4, 3, 7, 2, 8] rfl
                  have hFc := va_free (wc := [(h32, .inr (8, mX8 h23 (upd (upd (upd (upd (upd (upd (upd v32 1 (u126_ 0)) 2 (u126_ 1)) 3 (u126_ 2)) 4 (u126_ 3)) 5 (u126_ 4)) 6 (u126_ 5)) 7 (u126_ 6)))), (h23, .inr (6, mX6 h24 h25 h26 h27 h28 h29 h30 h31 v23)), (h26, zi k26 833 f26), (h25, zi k25 833 f25), (h24, zi k24 1250 f24), (h27, zi k27 400 f27), (h28, zi k28 400 f28), (h29, zi k29 400 f29), (h18, .inr (0, mX0 h19 h20 h21 h22 v18)), (h19, zi k19 120 f19)]) hD hS hA [6, 4, 10, 9, 8, 7, 11, 5, 12, 13] rfl
                  refine va_calli (va_runV (As := [.ref h18]) (rest := []) ⟨hx, hb, hml, hown, hG⟩ (sX8_tallyPlaces_0 l dC dI adK adV h32 h23 h26 h25 h24 h27 h28 h29 h18 h19 h30 h31 h20 h21 h22 k26 k25 k24 k27 k28 k29 k19 H.size (upd (upd (upd (upd (upd (upd (upd v32 1 (u126_ 0)) 2 (u126_ 1)) 3 (u126_ 2)) 4 (u126_ 3)) 5 (u126_ 4)) 6 (u126_ 5)) 7 (u126_ 6)) v23 f26 f25 f24 f27 f28 f29 v18 f19 hv23 hf25 hf28 hv18) (cwV 1 hG (zgV zv985 zv986 zv987 zv134 zv988) rfl rfl rfl (by decide +kernel) ⟨Nat.le_of_ble_eq_true rfl, Nat.le_of_ble_eq_true rfl⟩) ⟨zPc_blind, va_recv hKc hPc (ci := 8) (q0 := 0) rfl rfl, zPc_pre hPc hKc hDc hE hS hFc hZ⟩ rfl rfl hl.1 rfl (lv_room (Nat.le_of_ble_eq_true rfl)) dX11_posting_137 ⟨Nat.le_of_ble_eq_true rfl, Nat.le_of_ble_eq_true rfl⟩) hS (fun q _ h => hFc q h) hFc (fun r137_ u137_ t H1 locs ht hvm hw hB hz1 hk1 hS => ?_)
                  replace hw : (zQf zf2 f24 f25 f26 f27 f28 f29 (v23 8).toInt (v23 9).toInt (v23 10).toInt (v23 11).toInt f19 (v18 4).toInt (u126_ 0).toInt (u126_ 1).toInt (u126_ 2).toInt (u126_ 3).toInt (u126_ 4).toInt (u126_ 6).toInt r137_.toInt) := hw
                  have hX137_0 := hw
                  obtain ⟨w137_, a137_, b137_, hP1, hK1, hD1⟩ := hB
                  rw [ht] at hP1
                  obtain ⟨hP, hD⟩ := va_join (wr := [(h0, .inr (11, mX11 h1 h4 h11 h18 h23 h32 h33 h40 h48 h49 sp0 lw0)), (h4, .inr (10, mX10 h5 h6 h7 h8 h9 h10 v4)), (h5, .inl (k5, 400, .inr (.inl f5))), (h6, zi k6 400 f6), (h7, zi k7 400 f7), (h30, zi k30 400 f30), (h31, zi k31 400 f31)]) (w1 := [(h32, .inr (8, mX8 h23 (upd (upd (upd (upd (upd (upd (upd (upd v32 1 (u137_ 0)) 2 (u137_ 1)) 3 (u137_ 2)) 4 (u137_ 3)) 5 (u137_ 4)) 6 (u137_ 5)) 7 (u137_ 6)) 8 (u137_ 7)))), (h23, .inr (6, mX6 h24 h25 h26 h27 h28 h29 h30 h31 v23)), (h26, zi k26 833 f26), (h25, zi k25 833 f25), (h24, zi k24 1250 f24), (h27, zi k27 400 f27), (h28, zi k28 400 f28), (h29, zi k29 400 f29), (h18, .inr (0, mX0 h19 h20 h21 h22 v18)), (h19, zi k19 120 f19)]) hP hD [6, 4, 10, 9, 8, 7, 11, 5, 12, 13] [0, 1, 2, 3, 14, 15, 16] rfl rfl (by decide) (by decide) hk1 hFc hP1 hD1
                  have hP : va_P (dC, dI) vwCl [(h0, .inr (11, mX11 h1 h4 h11 h18 h23 h32 h33 h40 h48 h49 sp0 lw0)), (h4, .inr (10, mX10 h5 h6 h7 h8 h9 h10 v4)), (h5, .inl (k5, 400, .inr (.inl f5))), (h6, zi k6 400 f6), (h23, .inr (6, mX6 h24 h25 h26 h27 h28 h29 h30 h31 v23)), (h29, zi k29 400 f29), (h32, .inr (8, mX8 h23 (upd (upd (upd (upd (upd (upd (upd (upd v32 1 (u137_ 0)) 2 (u137_ 1)) 3 (u137_ 2)) 4 (u137_ 3)) 5 (u137_ 4)) 6 (u137_ 5)) 7 (u137_ 6)) 8 (u137_ 7)))), (h27, zi k27 400 f27), (h24, zi k24 1250 f24), (h25, zi k25 833 f25), (h26, zi k26 833 f26), (h28, zi k28 400 f28), (h18, .inr (0, mX0 h19 h20 h21 h22 v18)), (h19, zi k19 120 f19), (h7, zi k7 400 f7), (h30, zi k30 400 f30), (h31, zi k31 400 f31)] H1 := hP.sub [0, 1, 2, 3, 8, 14, 7, 12, 11, 10, 9, 13, 15, 16, 4, 5, 6] rfl
                  have hD : va_D A [(h0, .inr (11, mX11 h1 h4 h11 h18 h23 h32 h33 h40 h48 h49 sp0 lw0)), (h4, .inr (10, mX10 h5 h6 h7 h8 h9 h10 v4)), (h5, .inl (k5, 400, .inr (.inl f5))), (h6, zi k6 400 f6), (h23, .inr (6, mX6 h24 h25 h26 h27 h28 h29 h30 h31 v23)), (h29, zi k29 400 f29), (h32, .inr (8, mX8 h23 (upd (upd (upd (upd (upd (upd (upd (upd v32 1 (u137_ 0)) 2 (u137_ 1)) 3 (u137_ 2)) 4 (u137_ 3)) 5 (u137_ 4)) 6 (u137_ 5)) 7 (u137_ 6)) 8 (u137_ 7)))), (h27, zi k27 400 f27), (h24, zi k24 1250 f24), (h25, zi k25 833 f25), (h26, zi k26 833 f26), (h28, zi k28 400 f28), (h18, .inr (0, mX0 h19 h20 h21 h22 v18)), (h19, zi k19 120 f19), (h7, zi k7 400 f7), (h30, zi k30 400 f30), (h31, zi k31 400 f31)] := hD.sub [0, 1, 2, 3, 8, 14, 7, 12, 11, 10, 9, 13, 15, 16, 4, 5, 6] (by decide) rfl
                  generalize H1 = H at hP hS ⊢
                  clear hz1
                  refine W.widen (k := 0) (n := 0) (by decide) (by decide) ?_
                  have b_ : -2147483648 ≤ r137_.toInt ∧ r137_.toInt ≤ 2147483647 := ⟨zlo _, zhi _⟩
                  have b_ : -2147483648 ≤ (u137_ 0).toInt ∧ (u137_ 0).toInt ≤ 2147483647 := ⟨zlo _, zhi _⟩
                  have b_ : -2147483648 ≤ (u137_ 1).toInt ∧ (u137_ 1).toInt ≤ 2147483647 := ⟨zlo _, zhi _⟩
                  have b_ : -2147483648 ≤ (u137_ 2).toInt ∧ (u137_ 2).toInt ≤ 2147483647 := ⟨zlo _, zhi _⟩
                  have b_ : -2147483648 ≤ (u137_ 3).toInt ∧ (u137_ 3).toInt ≤ 2147483647 := ⟨zlo _, zhi _⟩
                  have b_ : -2147483648 ≤ (u137_ 4).toInt ∧ (u137_ 4).toInt ≤ 2147483647 := ⟨zlo _, zhi _⟩
                  have b_ : -2147483648 ≤ (u137_ 5).toInt ∧ (u137_ 5).toInt ≤ 2147483647 := ⟨zlo _, zhi _⟩
                  have b_ : -2147483648 ≤ (u137_ 6).toInt ∧ (u137_ 6).toInt ≤ 2147483647 := ⟨zlo _, zhi _⟩
                  have b_ : -2147483648 ≤ (u137_ 7).toInt ∧ (u137_ 7).toInt ≤ 2147483647 := ⟨zlo _, zhi _⟩
                  have hpost : (zPp f5 f6 f7 (v4 7).toInt f24 f25 f26 f27 f28 f29 (v23 8).toInt (v23 9).toInt (v23 10).toInt (v23 11).toInt f30 f31 (v18 4).toInt f19 x1.toInt lw0.toInt r137_.toInt) := by first | exact zPp_k (by omega) hX30_1 (by omega) rfl (by omega) | exact zPp_b (by omega) hX30_1 (by omega) hX46_0 hX85_0 (by omega) | exact zPp_c (by omega) hX30_1 (by omega) hX46_0 hX94_0 hX97_0 (by omega) | exact zPp_t (by omega) hX30_1 (by omega) hX46_0 hX106_3 hX117_0 (by omega) (by omega) (Or.inl ⟨by omega, rfl⟩) | exact zPp_t (by omega) hX30_1 (by omega) hX46_0 hX126_3 hX137_0 (by omega) (by omega) (Or.inr ⟨by omega, rfl⟩) | exact zPp_0 (by omega) (by omega) (by omega) hX30_1 (by omega) (by decide) | exact zPp_n (by omega) (by decide)
                  have hP9 : va_P (dC, dI) vwCl [(h0, .inr (11, mX11 h1 h4 h11 h18 h23 h32 h33 h40 h48 h49 sp0 lw0)), (h4, .inr (10, mX10 h5 h6 h7 h8 h9 h10 v4)), (h5, .inl (k5, 400, .inr (.inl f5))), (h6, zi k6 400 f6), (h23, .inr (6, mX6 h24 h25 h26 h27 h28 h29 h30 h31 v23)), (h29, zi k29 400 f29), (h32, .inr (8, mX8 h23 (upd (upd (upd (upd (upd (upd (upd (upd v32 1 (u137_ 0)) 2 (u137_ 1)) 3 (u137_ 2)) 4 (u137_ 3)) 5 (u137_ 4)) 6 (u137_ 5)) 7 (u137_ 6)) 8 (u137_ 7)))), (h27, zi k27 400 f27), (h24, zi k24 1250 f24), (h25, zi k25 833 f25), (h26, zi k26 833 f26), (h28, zi k28 400 f28), (h18, .inr (0, mX0 h19 h20 h21 h22 v18)), (h19, zi k19 120 f19), (h7, zi k7 400 f7), (h30, zi k30 400 f30), (h31, zi k31 400 f31)] H := hP
                  have hD9 : va_D A [(h0, .inr (11, mX11 h1 h4 h11 h18 h23 h32 h33 h40 h48 h49 sp0 lw0)), (h4, .inr (10, mX10 h5 h6 h7 h8 h9 h10 v4)), (h5, .inl (k5, 400, .inr (.inl f5))), (h6, zi k6 400 f6), (h23, .inr (6, mX6 h24 h25 h26 h27 h28 h29 h30 h31 v23)), (h29, zi k29 400 f29), (h32, .inr (8, mX8 h23 (upd (upd (upd (upd (upd (upd (upd (upd v32 1 (u137_ 0)) 2 (u137_ 1)) 3 (u137_ 2)) 4 (u137_ 3)) 5 (u137_ 4)) 6 (u137_ 5)) 7 (u137_ 6)) 8 (u137_ 7)))), (h27, zi k27 400 f27), (h24, zi k24 1250 f24), (h25, zi k25 833 f25), (h26, zi k26 833 f26), (h28, zi k28 400 f28), (h18, .inr (0, mX0 h19 h20 h21 h22 v18)), (h19, zi k19 120 f19), (h7, zi k7 400 f7), (h30, zi k30 400 f30), (h31, zi k31 400 f31)] := hD
                  exact W.iret (v := r137_) hx hb hr (fun t ht hW => ⟨⟨r137_, (fun i => ([(u137_ 0), (u137_ 1), (u137_ 2), (u137_ 3), (u137_ 4), (u137_ 5), (u137_ 6), (u137_ 7)] : List (Int32)).getD i 0), rfl, hpost, (fun _ => 0), (fun _ => (fun _ => 0)), (fun _ => (fun _ => 0)), by rw [ht]; exact hP9, va_K.moved hW.alike hK, hD9⟩, hS.F ht⟩) hS.2.2 dX11_posting_140
                · skip
                  have b_ : x1.toInt ≠ 3 := fun h => c_ (zeqi.mpr (h.trans zk_3.symm))
                  refine lv_tableOut (tgt := 141) hx hb dX11_posting_51 (by omega) (by decide) ?_
                  refine lv_iload_n hx hb dX11_posting_141 rfl (lv_at hl 1 rfl) ?_
                  refine W.widen (k := 0) (n := 0) (by decide) (by decide) ?_
                  have b_ : -2147483648 ≤ (v32 1).toInt ∧ (v32 1).toInt ≤ 2147483647 := ⟨zlo _, zhi _⟩
                  have b_ : -2147483648 ≤ (v32 2).toInt ∧ (v32 2).toInt ≤ 2147483647 := ⟨zlo _, zhi _⟩
                  have b_ : -2147483648 ≤ (v32 3).toInt ∧ (v32 3).toInt ≤ 2147483647 := ⟨zlo _, zhi _⟩
                  have b_ : -2147483648 ≤ (v32 4).toInt ∧ (v32 4).toInt ≤ 2147483647 := ⟨zlo _, zhi _⟩
                  have b_ : -2147483648 ≤ (v32 5).toInt ∧ (v32 5).toInt ≤ 2147483647 := ⟨zlo _, zhi _⟩
                  have b_ : -2147483648 ≤ (v32 6).toInt ∧ (v32 6).toInt ≤ 2147483647 := ⟨zlo _, zhi _⟩
                  have b_ : -2147483648 ≤ (v32 7).toInt ∧ (v32 7).toInt ≤ 2147483647 := ⟨zlo _, zhi _⟩
                  have b_ : -2147483648 ≤ (v32 8).toInt ∧ (v32 8).toInt ≤ 2147483647 := ⟨zlo _, zhi _⟩
                  have hpost : (zPp f5 f6 f7 (v4 7).toInt f24 f25 f26 f27 f28 f29 (v23 8).toInt (v23 9).toInt (v23 10).toInt (v23 11).toInt f30 f31 (v18 4).toInt f19 x1.toInt lw0.toInt r30_.toInt) := by first | exact zPp_k (by omega) hX30_1 (by omega) rfl (by omega) | exact zPp_b (by omega) hX30_1 (by omega) hX46_0 hX85_0 (by omega) | exact zPp_c (by omega) hX30_1 (by omega) hX46_0 hX94_0 hX97_0 (by omega) | exact zPp_t (by omega) hX30_1 (by omega) hX46_0 hX106_3 hX117_0 (by omega) (by omega) (Or.inl ⟨by omega, rfl⟩) | exact zPp_t (by omega) hX30_1 (by omega) hX46_0 hX126_3 hX137_0 (by omega) (by omega) (Or.inr ⟨by omega, rfl⟩) | exact zPp_0 (by omega) (by omega) (by omega) hX30_1 (by omega) (by decide) | exact zPp_n (by omega) (by decide)
                  have hP9 : va_P (dC, dI) vwCl [(h0, .inr (11, mX11 h1 h4 h11 h18 h23 h32 h33 h40 h48 h49 sp0 lw0)), (h4, .inr (10, mX10 h5 h6 h7 h8 h9 h10 v4)), (h5, .inl (k5, 400, .inr (.inl f5))), (h6, zi k6 400 f6), (h23, .inr (6, mX6 h24 h25 h26 h27 h28 h29 h30 h31 v23)), (h29, zi k29 400 f29), (h32, .inr (8, mX8 h23 (upd (upd (upd (upd (upd (upd (upd (upd v32 1 (v32 1)) 2 (v32 2)) 3 (v32 3)) 4 (v32 4)) 5 (v32 5)) 6 (v32 6)) 7 (v32 7)) 8 (v32 8)))), (h27, zi k27 400 f27), (h24, zi k24 1250 f24), (h25, zi k25 833 f25), (h26, zi k26 833 f26), (h28, zi k28 400 f28), (h18, .inr (0, mX0 h19 h20 h21 h22 v18)), (h19, zi k19 120 f19), (h7, zi k7 400 f7), (h30, zi k30 400 f30), (h31, zi k31 400 f31)] H := hP
                  have hD9 : va_D A [(h0, .inr (11, mX11 h1 h4 h11 h18 h23 h32 h33 h40 h48 h49 sp0 lw0)), (h4, .inr (10, mX10 h5 h6 h7 h8 h9 h10 v4)), (h5, .inl (k5, 400, .inr (.inl f5))), (h6, zi k6 400 f6), (h23, .inr (6, mX6 h24 h25 h26 h27 h28 h29 h30 h31 v23)), (h29, zi k29 400 f29), (h32, .inr (8, mX8 h23 (upd (upd (upd (upd (upd (upd (upd (upd v32 1 (v32 1)) 2 (v32 2)) 3 (v32 3)) 4 (v32 4)) 5 (v32 5)) 6 (v32 6)) 7 (v32 7)) 8 (v32 8)))), (h27, zi k27 400 f27), (h24, zi k24 1250 f24), (h25, zi k25 833 f25), (h26, zi k26 833 f26), (h28, zi k28 400 f28), (h18, .inr (0, mX0 h19 h20 h21 h22 v18)), (h19, zi k19 120 f19), (h7, zi k7 400 f7), (h30, zi k30 400 f30), (h31, zi k31 400 f31)] := hD
                  exact W.iret (v := r30_) hx hb hr (fun t ht hW => ⟨⟨r30_, (fun i => ([(v32 1), (v32 2), (v32 3), (v32 4), (v32 5), (v32 6), (v32 7), (v32 8)] : List (Int32)).getD i 0), rfl, hpost, (fun _ => 0), (fun _ => (fun _ => 0)), (fun _ => (fun _ => 0)), by rw [ht]; exact hP9, va_K.moved hW.alike hK, hD9⟩, hS.F ht⟩) hS.2.2 dX11_posting_142
        · skip
          have b_ := zF_ne rfl zk_m1 c_
          refine lv_iconst (v := 0) hx hb dX11_posting_39 (by decide) ?_
          refine W.widen (k := 0) (n := 0) (by decide) (by decide) ?_
          have b_ : -2147483648 ≤ (v32 1).toInt ∧ (v32 1).toInt ≤ 2147483647 := ⟨zlo _, zhi _⟩
          have b_ : -2147483648 ≤ (v32 2).toInt ∧ (v32 2).toInt ≤ 2147483647 := ⟨zlo _, zhi _⟩
          have b_ : -2147483648 ≤ (v32 3).toInt ∧ (v32 3).toInt ≤ 2147483647 := ⟨zlo _, zhi _⟩
          have b_ : -2147483648 ≤ (v32 4).toInt ∧ (v32 4).toInt ≤ 2147483647 := ⟨zlo _, zhi _⟩
          have b_ : -2147483648 ≤ (v32 5).toInt ∧ (v32 5).toInt ≤ 2147483647 := ⟨zlo _, zhi _⟩
          have b_ : -2147483648 ≤ (v32 6).toInt ∧ (v32 6).toInt ≤ 2147483647 := ⟨zlo _, zhi _⟩
          have b_ : -2147483648 ≤ (v32 7).toInt ∧ (v32 7).toInt ≤ 2147483647 := ⟨zlo _, zhi _⟩
          have b_ : -2147483648 ≤ (v32 8).toInt ∧ (v32 8).toInt ≤ 2147483647 := ⟨zlo _, zhi _⟩
          have hpost : (zPp f5 f6 f7 (v4 7).toInt f24 f25 f26 f27 f28 f29 (v23 8).toInt (v23 9).toInt (v23 10).toInt (v23 11).toInt f30 f31 (v18 4).toInt f19 x1.toInt lw0.toInt (0 : Int32).toInt) := by first | exact zPp_k (by omega) hX30_1 (by omega) rfl (by omega) | exact zPp_b (by omega) hX30_1 (by omega) hX46_0 hX85_0 (by omega) | exact zPp_c (by omega) hX30_1 (by omega) hX46_0 hX94_0 hX97_0 (by omega) | exact zPp_t (by omega) hX30_1 (by omega) hX46_0 hX106_3 hX117_0 (by omega) (by omega) (Or.inl ⟨by omega, rfl⟩) | exact zPp_t (by omega) hX30_1 (by omega) hX46_0 hX126_3 hX137_0 (by omega) (by omega) (Or.inr ⟨by omega, rfl⟩) | exact zPp_0 (by omega) (by omega) (by omega) hX30_1 (by omega) (by decide) | exact zPp_n (by omega) (by decide)
          have hP9 : va_P (dC, dI) vwCl [(h0, .inr (11, mX11 h1 h4 h11 h18 h23 h32 h33 h40 h48 h49 sp0 lw0)), (h4, .inr (10, mX10 h5 h6 h7 h8 h9 h10 v4)), (h5, .inl (k5, 400, .inr (.inl f5))), (h6, zi k6 400 f6), (h23, .inr (6, mX6 h24 h25 h26 h27 h28 h29 h30 h31 v23)), (h29, zi k29 400 f29), (h32, .inr (8, mX8 h23 (upd (upd (upd (upd (upd (upd (upd (upd v32 1 (v32 1)) 2 (v32 2)) 3 (v32 3)) 4 (v32 4)) 5 (v32 5)) 6 (v32 6)) 7 (v32 7)) 8 (v32 8)))), (h27, zi k27 400 f27), (h24, zi k24 1250 f24), (h25, zi k25 833 f25), (h26, zi k26 833 f26), (h28, zi k28 400 f28), (h18, .inr (0, mX0 h19 h20 h21 h22 v18)), (h19, zi k19 120 f19), (h7, zi k7 400 f7), (h30, zi k30 400 f30), (h31, zi k31 400 f31)] H := hP
          have hD9 : va_D A [(h0, .inr (11, mX11 h1 h4 h11 h18 h23 h32 h33 h40 h48 h49 sp0 lw0)), (h4, .inr (10, mX10 h5 h6 h7 h8 h9 h10 v4)), (h5, .inl (k5, 400, .inr (.inl f5))), (h6, zi k6 400 f6), (h23, .inr (6, mX6 h24 h25 h26 h27 h28 h29 h30 h31 v23)), (h29, zi k29 400 f29), (h32, .inr (8, mX8 h23 (upd (upd (upd (upd (upd (upd (upd (upd v32 1 (v32 1)) 2 (v32 2)) 3 (v32 3)) 4 (v32 4)) 5 (v32 5)) 6 (v32 6)) 7 (v32 7)) 8 (v32 8)))), (h27, zi k27 400 f27), (h24, zi k24 1250 f24), (h25, zi k25 833 f25), (h26, zi k26 833 f26), (h28, zi k28 400 f28), (h18, .inr (0, mX0 h19 h20 h21 h22 v18)), (h19, zi k19 120 f19), (h7, zi k7 400 f7), (h30, zi k30 400 f30), (h31, zi k31 400 f31)] := hD
          exact W.iret (v := 0) hx hb hr (fun t ht hW => ⟨⟨0, (fun i => ([(v32 1), (v32 2), (v32 3), (v32 4), (v32 5), (v32 6), (v32 7), (v32 8)] : List (Int32)).getD i 0), rfl, hpost, (fun _ => 0), (fun _ => (fun _ => 0)), (fun _ => (fun _ => 0)), by rw [ht]; exact hP9, va_K.moved hW.alike hK, hD9⟩, hS.F ht⟩) hS.2.2 dX11_posting_40
      · skip
        have b_ := zF_le rfl zk_4 c_
        refine lv_iconst (v := (-1)) hx hb dX11_posting_20 (by decide) ?_
        refine W.widen (k := 0) (n := 0) (by decide) (by decide) ?_
        have b_ : -2147483648 ≤ (v32 1).toInt ∧ (v32 1).toInt ≤ 2147483647 := ⟨zlo _, zhi _⟩
        have b_ : -2147483648 ≤ (v32 2).toInt ∧ (v32 2).toInt ≤ 2147483647 := ⟨zlo _, zhi _⟩
        have b_ : -2147483648 ≤ (v32 3).toInt ∧ (v32 3).toInt ≤ 2147483647 := ⟨zlo _, zhi _⟩
        have b_ : -2147483648 ≤ (v32 4).toInt ∧ (v32 4).toInt ≤ 2147483647 := ⟨zlo _, zhi _⟩
        have b_ : -2147483648 ≤ (v32 5).toInt ∧ (v32 5).toInt ≤ 2147483647 := ⟨zlo _, zhi _⟩
        have b_ : -2147483648 ≤ (v32 6).toInt ∧ (v32 6).toInt ≤ 2147483647 := ⟨zlo _, zhi _⟩
        have b_ : -2147483648 ≤ (v32 7).toInt ∧ (v32 7).toInt ≤ 2147483647 := ⟨zlo _, zhi _⟩
        have b_ : -2147483648 ≤ (v32 8).toInt ∧ (v32 8).toInt ≤ 2147483647 := ⟨zlo _, zhi _⟩
        have hpost : (zPp f5 f6 f7 (v4 7).toInt f24 f25 f26 f27 f28 f29 (v23 8).toInt (v23 9).toInt (v23 10).toInt (v23 11).toInt f30 f31 (v18 4).toInt f19 x1.toInt lw0.toInt ((-1) : Int32).toInt) := by first | exact zPp_k (by omega) hX30_1 (by omega) rfl (by omega) | exact zPp_b (by omega) hX30_1 (by omega) hX46_0 hX85_0 (by omega) | exact zPp_c (by omega) hX30_1 (by omega) hX46_0 hX94_0 hX97_0 (by omega) | exact zPp_t (by omega) hX30_1 (by omega) hX46_0 hX106_3 hX117_0 (by omega) (by omega) (Or.inl ⟨by omega, rfl⟩) | exact zPp_t (by omega) hX30_1 (by omega) hX46_0 hX126_3 hX137_0 (by omega) (by omega) (Or.inr ⟨by omega, rfl⟩) | exact zPp_0 (by omega) (by omega) (by omega) hX30_1 (by omega) (by decide) | exact zPp_n (by omega) (by decide)
        have hP9 : va_P (dC, dI) vwCl [(h0, .inr (11, mX11 h1 h4 h11 h18 h23 h32 h33 h40 h48 h49 sp0 lw0)), (h4, .inr (10, mX10 h5 h6 h7 h8 h9 h10 v4)), (h5, .inl (k5, 400, .inr (.inl f5))), (h6, zi k6 400 f6), (h23, .inr (6, mX6 h24 h25 h26 h27 h28 h29 h30 h31 v23)), (h29, zi k29 400 f29), (h32, .inr (8, mX8 h23 (upd (upd (upd (upd (upd (upd (upd (upd v32 1 (v32 1)) 2 (v32 2)) 3 (v32 3)) 4 (v32 4)) 5 (v32 5)) 6 (v32 6)) 7 (v32 7)) 8 (v32 8)))), (h27, zi k27 400 f27), (h24, zi k24 1250 f24), (h25, zi k25 833 f25), (h26, zi k26 833 f26), (h28, zi k28 400 f28), (h18, .inr (0, mX0 h19 h20 h21 h22 v18)), (h19, zi k19 120 f19), (h7, zi k7 400 f7), (h30, zi k30 400 f30), (h31, zi k31 400 f31)] s.heap := hP
        have hD9 : va_D A [(h0, .inr (11, mX11 h1 h4 h11 h18 h23 h32 h33 h40 h48 h49 sp0 lw0)), (h4, .inr (10, mX10 h5 h6 h7 h8 h9 h10 v4)), (h5, .inl (k5, 400, .inr (.inl f5))), (h6, zi k6 400 f6), (h23, .inr (6, mX6 h24 h25 h26 h27 h28 h29 h30 h31 v23)), (h29, zi k29 400 f29), (h32, .inr (8, mX8 h23 (upd (upd (upd (upd (upd (upd (upd (upd v32 1 (v32 1)) 2 (v32 2)) 3 (v32 3)) 4 (v32 4)) 5 (v32 5)) 6 (v32 6)) 7 (v32 7)) 8 (v32 8)))), (h27, zi k27 400 f27), (h24, zi k24 1250 f24), (h25, zi k25 833 f25), (h26, zi k26 833 f26), (h28, zi k28 400 f28), (h18, .inr (0, mX0 h19 h20 h21 h22 v18)), (h19, zi k19 120 f19), (h7, zi k7 400 f7), (h30, zi k30 400 f30), (h31, zi k31 400 f31)] := hD
        exact W.iret (v := (-1)) hx hb hr (fun t ht hW => ⟨⟨(-1), (fun i => ([(v32 1), (v32 2), (v32 3), (v32 4), (v32 5), (v32 6), (v32 7), (v32 8)] : List (Int32)).getD i 0), rfl, hpost, (fun _ => 0), (fun _ => (fun _ => 0)), (fun _ => (fun _ => 0)), by rw [ht]; exact hP9, va_K.moved hW.alike hK, hD9⟩, hS.F ht⟩) hS.2.2 dX11_posting_21
