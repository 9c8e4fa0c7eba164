set_option maxHeartbeats 8000000 in
set_option maxRecDepth 100000 in
theorem sX11_code_0 (l : Launch) (hl0 : l.stackTraces = false) (dC : Nat → ClassId) (dI : Nat → Nat → Nat) (adK adV : Nat → Nat) (h0 : Nat) (h40 : Nat) (h47 : Nat) (h1 : Nat) (h4 : Nat) (h11 : Nat) (h18 : Nat) (h23 : Nat) (h32 : Nat) (h33 : Nat) (h48 : Nat) (h49 : Nat) (h41 : Nat) (h42 : Nat) (h43 : Nat) (h44 : Nat) (h45 : Nat) (h46 : Nat) (k47 : ClassId) (sz : Nat) (sp0 : Value) (lw0 : Int64) (v40 : Nat → Int32) (f47 : Nat → Int32) (x1 : Int32) (hv40 : zR rg_Query v40) (hf47 : zA 0 12000 f47) : vx_Met l yX11_code (zw yX11_code cX11_code 2 (some .int)) { frames := 8, cells := 1, slots := 6, locals := 120 } (zPc dC dI adK adV [.ref h0, .int x1] sz [(h0, .inr (11, mX11 h1 h4 h11 h18 h23 h32 h33 h40 h48 h49 sp0 lw0)), (h40, .inr (7, mX7 h41 h42 h43 h44 h45 h46 h47 v40)), (h47, zi k47 270 f47)] [(k47, .int)]) (va_Qi (fun (r : Int32) (u : Nat → Int32) => ((-1) ≤ r.toInt ∧ r.toInt ≤ 12000) ∧ (0 ≤ x1.toInt) ∧ (zSa f47 (v40 9).toInt x1.toInt r.toInt)) (fun (u : Nat → Int32) (t : State) => ∃ (ww : Nat → Int64) (aa : Nat → Nat → Int32) (bb : Nat → Nat → Int64), va_P (dC, dI) vwCl [(h0, .inr (11, mX11 h1 h4 h11 h18 h23 h32 h33 h40 h48 h49 sp0 lw0)), (h40, .inr (7, mX7 h41 h42 h43 h44 h45 h46 h47 v40)), (h47, zi k47 270 f47)] t.heap ∧ va_K (dC, dI) vwCl [(k47, .int)] t ∧ va_D (va_A [(h0, .inr (11, mX11 h1 h4 h11 h18 h23 h32 h33 h40 h48 h49 sp0 lw0)), (h40, .inr (7, mX7 h41 h42 h43 h44 h45 h46 h47 v40)), (h47, zi k47 270 f47)] sz) [(h0, .inr (11, mX11 h1 h4 h11 h18 h23 h32 h33 h40 h48 h49 sp0 lw0)), (h40, .inr (7, mX7 h41 h42 h43 h44 h45 h46 h47 v40)), (h47, zi k47 270 f47)]) (va_A [(h0, .inr (11, mX11 h1 h4 h11 h18 h23 h32 h33 h40 h48 h49 sp0 lw0)), (h40, .inr (7, mX7 h41 h42 h43 h44 h45 h46 h47 v40)), (h47, zi k47 270 f47)] sz)) (vx_X (fun (u : Nat → Int32) => (x1.toInt < 0)) (fun (E : String) (u : Nat → Int32) (t : State) => E = "java/lang/IndexOutOfBoundsException" ∧ ∃ (ww : Nat → Int64) (aa : Nat → Nat → Int32) (bb : Nat → Nat → Int64), va_P (dC, dI) vwCl [(h0, .inr (11, mX11 h1 h4 h11 h18 h23 h32 h33 h40 h48 h49 sp0 lw0)), (h40, .inr (7, mX7 h41 h42 h43 h44 h45 h46 h47 v40)), (h47, zi k47 270 f47)] t.heap ∧ va_K (dC, dI) vwCl [(k47, .int)] t ∧ va_D (va_A [(h0, .inr (11, mX11 h1 h4 h11 h18 h23 h32 h33 h40 h48 h49 sp0 lw0)), (h40, .inr (7, mX7 h41 h42 h43 h44 h45 h46 h47 v40)), (h47, zi k47 270 f47)] sz) [(h0, .inr (11, mX11 h1 h4 h11 h18 h23 h32 h33 h40 h48 h49 sp0 lw0)), (h40, .inr (7, mX7 h41 h42 h43 h44 h45 h46 h47 v40)), (h47, zi k47 270 f47)]) (va_A [(h0, .inr (11, mX11 h1 h4 h11 h18 h23 h32 h33 h40 h48 h49 sp0 lw0)), (h40, .inr (7, mX7 h41 h42 h43 h44 h45 h46 h47 v40)), (h47, zi k47 270 f47)] sz)) 1 6 (va_A [(h0, .inr (11, mX11 h1 h4 h11 h18 h23 h32 h33 h40 h48 h49 sp0 lw0)), (h40, .inr (7, mX7 h41 h42 h43 h44 h45 h46 h47 v40)), (h47, zi k47 270 f47)] sz) := by
  refine vx_ofW (cc := cX11_code) (maxL := 2) (ret := (some .int)) (by decide) rfl ?_
  intro p e s m args below meth c s₁ B hml hout hv
  obtain ⟨rfl, hsz, hP, hK, hD0, hE, hZ⟩ := hv
  have hx := B.exec
  have hb := B.bytes
  have hr := B.returns
  have hG : ∀ w ∈ zG, w.before _ s = true := fun w h => atoms_spec (ws := (zw yX11_code cX11_code 2 (some .int))) B.pre w (List.mem_cons_of_mem _ h)
  have hown : s.vm.findClass RX11 = some m.cls := findClass_of_methodNamed B.named
  have hlocks := B.notSynchronized

  subst hsz
  have hD := hD0.self (sz := s.heap.size)
  generalize hAe : va_A [(h0, .inr (11, mX11 h1 h4 h11 h18 h23 h32 h33 h40 h48 h49 sp0 lw0)), (h40, .inr (7, mX7 h41 h42 h43 h44 h45 h46 h47 v40)), (h47, zi k47 270 f47)] s.heap.size = A at hD hZ ⊢
  have hA : ∀ q : Nat, s.heap.size ≤ q → A q := fun q h => by rw [← hAe]; exact Or.inr h
  have hS : va_S A s.heap s.heap [] := va_S.rf
  have hl := lv_entry ([.ref h0, .int x1]) (n := 2) (Nat.le_of_ble_eq_true rfl)
  rw [lg_entry_eq]
  generalize (lg_sl ([.ref h0, .int x1]) ++ List.replicate (2 - (lg_sl ([.ref h0, .int x1])).length) Slot.unset).toArray = ls at hl ⊢
  have hl : lv_has ls 2 [(0, .ref h0), (1, .int x1)] := hl
  have b_ : 0 ≤ (v40 9).toInt ∧ (v40 9).toInt ≤ 270 := hv40 9
  refine lv_iload_n hx hb dX11_code_0 rfl (lv_at hl 1 rfl) ?_
  have b_ : -2147483648 ≤ x1.toInt ∧ x1.toInt ≤ 2147483647 := ⟨zlo _, zhi _⟩
  refine lv_if_ge (tgt := 15) hx hb dX11_code_1 (by decide) (fun c_ => ?_) (fun c_ => ?_)
  · skip
    have b_ := zT_ge rfl zk_0 c_
    refine lv_aload_n hx hb dX11_code_15 rfl (lv_at hl 0 rfl) ?_
    refine va_get (D := (dC, dI)) (ci := 11) (v := .ref h40) (C := RX11) (T := TX11) (N := 12) hx hb hG zuX11 hown hK hP 0 rfl rfl 7 (by decide) (hG _ zv564) (fun _ h9 => h9) rfl dX11_code_16 ?_
    refine lv_iload_n hx hb dX11_code_19 rfl (lv_at hl 1 rfl) ?_
    have hPc := hP.sub (ws' := [(h40, .inr (7, mX7 h41 h42 h43 h44 h45 h46 h47 v40)), (h47, zi k47 270 f47)]) [1, 2] rfl
    have hDc := hD.sub (ws' := [(h40, .inr (7, mX7 h41 h42 h43 h44 h45 h46 h47 v40)), (h47, zi k47 270 f47)]) [1, 2] (by decide) rfl
    have hKc := hK.sub (tys' := [(k47, .int)]) [0] rfl
    have hFc := va_free (wc := [(h40, .inr (7, mX7 h41 h42 h43 h44 h45 h46 h47 v40)), (h47, zi k47 270 f47)]) hD hS hA [1, 2] rfl
    refine va_calli (va_runV (As := [.int x1]) (rest := []) ⟨hx, hb, hml, hown, hG⟩ (sX7_stepAt_0 l dC dI adK adV h40 h47 h41 h42 h43 h44 h45 h46 k47 s.heap.size v40 f47 x1 hv40 hf47) (cwV 1 hG (zgV zv1550 zv1303 zv1304 zv136 zv1305) rfl rfl rfl (by decide +kernel) ⟨Nat.le_of_ble_eq_true rfl, Nat.le_of_ble_eq_true rfl⟩) ⟨zPc_blind, va_recv hKc hPc (ci := 7) (q0 := 0) rfl rfl, zPc_pre hPc hKc hDc hE hS hFc hZ⟩ rfl rfl hl.1 rfl (lv_room (Nat.le_of_ble_eq_true rfl)) dX11_code_20 ⟨Nat.le_of_ble_eq_true rfl, Nat.le_of_ble_eq_true rfl⟩) hS (fun q _ h => hFc q h) hFc (fun r20_ u20_ t H1 locs ht hvm hw hB hz1 hk1 hS => ?_)
    replace hw : ((-1) ≤ r20_.toInt ∧ r20_.toInt ≤ 12000) ∧ (0 ≤ x1.toInt ∧ x1.toInt < (v40 9).toInt → 0 ≤ r20_.toInt) ∧ (zSa f47 (v40 9).toInt x1.toInt r20_.toInt) := hw
    obtain ⟨b_, hX20_0, hX20_1⟩ := hw
    obtain ⟨w20_, a20_, b20_, hP1, hK1, hD1⟩ := hB
    rw [ht] at hP1
    obtain ⟨hP, hD⟩ := va_join (wr := [(h0, .inr (11, mX11 h1 h4 h11 h18 h23 h32 h33 h40 h48 h49 sp0 lw0))]) (w1 := [(h40, .inr (7, mX7 h41 h42 h43 h44 h45 h46 h47 v40)), (h47, zi k47 270 f47)]) hP hD [1, 2] [0] rfl rfl (by decide) (by decide) hk1 hFc hP1 hD1
    have hP : va_P (dC, dI) vwCl [(h0, .inr (11, mX11 h1 h4 h11 h18 h23 h32 h33 h40 h48 h49 sp0 lw0)), (h40, .inr (7, mX7 h41 h42 h43 h44 h45 h46 h47 v40)), (h47, zi k47 270 f47)] H1 := hP.sub [0, 1, 2] rfl
    have hD : va_D A [(h0, .inr (11, mX11 h1 h4 h11 h18 h23 h32 h33 h40 h48 h49 sp0 lw0)), (h40, .inr (7, mX7 h41 h42 h43 h44 h45 h46 h47 v40)), (h47, zi k47 270 f47)] := hD.sub [0, 1, 2] (by decide) rfl
    generalize H1 = H at hP hS ⊢
    clear hz1
    refine W.widen (k := 1) (n := 6) (by decide) (by decide) ?_
    have hpost : ((-1) ≤ r20_.toInt ∧ r20_.toInt ≤ 12000) ∧ (0 ≤ x1.toInt) ∧ (zSa f47 (v40 9).toInt x1.toInt r20_.toInt) := ⟨⟨by omega, by omega⟩, by omega, by exact hX20_1⟩
    have hP9 : va_P (dC, dI) vwCl [(h0, .inr (11, mX11 h1 h4 h11 h18 h23 h32 h33 h40 h48 h49 sp0 lw0)), (h40, .inr (7, mX7 h41 h42 h43 h44 h45 h46 h47 v40)), (h47, zi k47 270 f47)] H := hP
    have hD9 : va_D A [(h0, .inr (11, mX11 h1 h4 h11 h18 h23 h32 h33 h40 h48 h49 sp0 lw0)), (h40, .inr (7, mX7 h41 h42 h43 h44 h45 h46 h47 v40)), (h47, zi k47 270 f47)] := hD
    exact vx_ret (W.iret (v := r20_) hx hb hr (fun t ht hW => ⟨⟨r20_, (fun _ => 0), rfl, hpost, (fun _ => 0), (fun _ => (fun _ => 0)), (fun _ => (fun _ => 0)), by rw [ht]; exact hP9, va_K.moved hW.alike hK, hD9⟩, hS.F ht⟩) hS.2.2 dX11_code_23)
  · skip
    have b_ := zF_ge rfl zk_0 c_
    have hpost : (x1.toInt < 0) := by omega
    have hP9 : va_P (dC, dI) vwCl [(h0, .inr (11, mX11 h1 h4 h11 h18 h23 h32 h33 h40 h48 h49 sp0 lw0)), (h40, .inr (7, mX7 h41 h42 h43 h44 h45 h46 h47 v40)), (h47, zi k47 270 f47)] s.heap := hP
    have hD9 : va_D A [(h0, .inr (11, mX11 h1 h4 h11 h18 h23 h32 h33 h40 h48 h49 sp0 lw0)), (h40, .inr (7, mX7 h41 h42 h43 h44 h45 h46 h47 v40)), (h47, zi k47 270 f47)] := hD
    obtain ⟨sa, hstr⟩ := zE_S267 hE
    exact vx_throwSW (names := ["java/lang/RuntimeException", "java/lang/Exception"]) (A := A) hx hb hl0 hown (by decide +kernel) (by decide +kernel) (hG _ zv1411) (hG _ zv154) hstr (zhat hG hE) zAT_ot hZ.1 hZ.2.1 hS (hl.1.trans hml.symm) dX11_code_4 dX11_code_7 dX11_code_8 dX11_code_11 dX11_code_14 (fun x h => (hout x h).elim) (by decide) (by decide +kernel) (Nat.le_of_ble_eq_true rfl) (Nat.le_of_ble_eq_true rfl) hlocks (fun t hvm hz hk => ⟨(fun _ => 0), hpost, ⟨rfl, (fun _ => 0), (fun _ => (fun _ => 0)), (fun _ => (fun _ => 0)), zkeepP hP9 hk, va_K.moved hvm hK, hD9⟩, zkeepF hS hz hk⟩) hS.2.2 (Nat.le_of_ble_eq_true rfl) (Nat.le_of_ble_eq_true rfl)
set_option maxHeartbeats 8000000 in
set_option maxRecDepth 100000 in
theorem sX7_deepestStack_0 (l : Launch) (dC : Nat → ClassId) (dI : Nat → Nat → Nat) (adK adV : Nat → Nat) (h0 : Nat) (h1 : Nat) (h2 : Nat) (h3 : Nat) (h4 : Nat) (h5 : Nat) (h6 : Nat) (h7 : Nat) (sz : Nat) (v0 : Nat → Int32) (hv0 : zR rg_Query v0) : Met l yX7_deepestStack (zw yX7_deepestStack cX7_deepestStack 1 (some .int)) { frames := 0, cells := 0, slots := 0, locals := 0 } (zPc dC dI adK adV [.ref h0] sz [(h0, .inr (7, mX7 h1 h2 h3 h4 h5 h6 h7 v0))] []) (va_Qi (fun (r : Int32) (u : Nat → Int32) => (r.toInt = (v0 11).toInt)) (fun (u : Nat → Int32) (t : State) => ∃ (ww : Nat → Int64) (aa : Nat → Nat → Int32) (bb : Nat → Nat → Int64), va_P (dC, dI) vwCl [(h0, .inr (7, mX7 h1 h2 h3 h4 h5 h6 h7 v0))] t.heap ∧ va_K (dC, dI) vwCl [] t ∧ va_D (va_A [(h0, .inr (7, mX7 h1 h2 h3 h4 h5 h6 h7 v0))] sz) [(h0, .inr (7, mX7 h1 h2 h3 h4 h5 h6 h7 v0))]) (va_A [(h0, .inr (7, mX7 h1 h2 h3 h4 h5 h6 h7 v0))] sz)) 0 0 (va_A [(h0, .inr (7, mX7 h1 h2 h3 h4 h5 h6 h7 v0))] sz) := by
  refine Met.ofW (cc := cX7_deepestStack) (maxL := 1) (ret := (some .int)) (by decide) rfl ?_
  intro p e s m args below meth c s₁ B hml hv
  obtain ⟨rfl, hsz, hP, hK, hD0, hE, hZ⟩ := hv
  have hx := B.exec
  have hb := B.bytes
  have hr := B.returns
  have hG : ∀ w ∈ zG, w.before _ s = true := fun w h => atoms_spec (ws := (zw yX7_deepestStack cX7_deepestStack 1 (some .int))) B.pre w (List.mem_cons_of_mem _ h)
  have hown : s.vm.findClass RX7 = some m.cls := findClass_of_methodNamed B.named
  have hlocks := B.notSynchronized

  subst hsz
  have hD := hD0.self (sz := s.heap.size)
  generalize hAe : va_A [(h0, .inr (7, mX7 h1 h2 h3 h4 h5 h6 h7 v0))] s.heap.size = A at hD hZ ⊢
  have hA : ∀ q : Nat, s.heap.size ≤ q → A q := fun q h => by rw [← hAe]; exact Or.inr h
  have hS : va_S A s.heap s.heap [] := va_S.rf
  have hl := lv_entry ([.ref h0]) (n := 1) (Nat.le_of_ble_eq_true rfl)
  rw [lg_entry_eq]
  generalize (lg_sl ([.ref h0]) ++ List.replicate (1 - (lg_sl ([.ref h0])).length) Slot.unset).toArray = ls at hl ⊢
  have hl : lv_has ls 1 [(0, .ref h0)] := hl
  have b_ : -2147483648 ≤ (v0 11).toInt ∧ (v0 11).toInt ≤ 2147483647 := ⟨zlo _, zhi _⟩
  refine lv_aload_n hx hb dX7_deepestStack_0 rfl (lv_at hl 0 rfl) ?_
  refine va_get (D := (dC, dI)) (ci := 7) (v := .int (v0 11)) (C := RX7) (T := TX7) (N := 12) hx hb hG zuX7 hown hK hP 0 rfl rfl 11 (by decide) (hG _ zv376) (fun _ h9 => h9) rfl dX7_deepestStack_1 ?_
  refine W.widen (k := 0) (n := 0) (by decide) (by decide) ?_
  have hpost : ((v0 11).toInt = (v0 11).toInt) := by omega
  have hP9 : va_P (dC, dI) vwCl [(h0, .inr (7, mX7 h1 h2 h3 h4 h5 h6 h7 v0))] s.heap := hP
  have hD9 : va_D A [(h0, .inr (7, mX7 h1 h2 h3 h4 h5 h6 h7 v0))] := hD
  exact W.iret (v := (v0 11)) hx hb hr (fun t ht hW => ⟨⟨(v0 11), (fun _ => 0), rfl, hpost, (fun _ => 0), (fun _ => (fun _ => 0)), (fun _ => (fun _ => 0)), by rw [ht]; exact hP9, va_K.moved hW.alike hK, hD9⟩, hS.F ht⟩) hS.2.2 dX7_deepestStack_4
set_option maxHeartbeats 8000000 in
set_option maxRecDepth 100000 in
theorem sX11_deepest_0 (l : Launch) (dC : Nat → ClassId) (dI : Nat → Nat → Nat) (adK adV : Nat → Nat) (h0 : Nat) (h40 : Nat) (h1 : Nat) (h4 : Nat) (h11 : Nat) (h18 : Nat) (h23 : Nat) (h32 : Nat) (h33 : Nat) (h48 : Nat) (h49 : Nat) (h41 : Nat) (h42 : Nat) (h43 : Nat) (h44 : Nat) (h45 : Nat) (h46 : Nat) (h47 : Nat) (sz : Nat) (sp0 : Value) (lw0 : Int64) (v40 : Nat → Int32) (hv40 : zR rg_Query v40) : Met l yX11_deepest (zw yX11_deepest cX11_deepest 1 (some .int)) { frames := 1, cells := 0, slots := 0, locals := 20 } (zPc dC dI adK adV [.ref h0] sz [(h0, .inr (11, mX11 h1 h4 h11 h18 h23 h32 h33 h40 h48 h49 sp0 lw0)), (h40, .inr (7, mX7 h41 h42 h43 h44 h45 h46 h47 v40))] []) (va_Qi (fun (r : Int32) (u : Nat → Int32) => (r.toInt = (v40 11).toInt)) (fun (u : Nat → Int32) (t : State) => ∃ (ww : Nat → Int64) (aa : Nat → Nat → Int32) (bb : Nat → Nat → Int64), va_P (dC, dI) vwCl [(h0, .inr (11, mX11 h1 h4 h11 h18 h23 h32 h33 h40 h48 h49 sp0 lw0)), (h40, .inr (7, mX7 h41 h42 h43 h44 h45 h46 h47 v40))] t.heap ∧ va_K (dC, dI) vwCl [] t ∧ va_D (va_A [(h0, .inr (11, mX11 h1 h4 h11 h18 h23 h32 h33 h40 h48 h49 sp0 lw0)), (h40, .inr (7, mX7 h41 h42 h43 h44 h45 h46 h47 v40))] sz) [(h0, .inr (11, mX11 h1 h4 h11 h18 h23 h32 h33 h40 h48 h49 sp0 lw0)), (h40, .inr (7, mX7 h41 h42 h43 h44 h45 h46 h47 v40))]) (va_A [(h0, .inr (11, mX11 h1 h4 h11 h18 h23 h32 h33 h40 h48 h49 sp0 lw0)), (h40, .inr (7, mX7 h41 h42 h43 h44 h45 h46 h47 v40))] sz)) 0 0 (va_A [(h0, .inr (11, mX11 h1 h4 h11 h18 h23 h32 h33 h40 h48 h49 sp0 lw0)), (h40, .inr (7, mX7 h41 h42 h43 h44 h45 h46 h47 v40))] sz) := by
  refine Met.ofW (cc := cX11_deepest) (maxL := 1) (ret := (some .int)) (by decide) rfl ?_
  intro p e s m args below meth c s₁ B hml hv
  obtain ⟨rfl, hsz, hP, hK, hD0, hE, hZ⟩ := hv
  have hx := B.exec
  have hb := B.bytes
  have hr := B.returns
  have hG : ∀ w ∈ zG, w.before _ s = true := fun w h => atoms_spec (ws := (zw yX11_deepest cX11_deepest 1 (some .int))) B.pre w (List.mem_cons_of_mem _ h)
  have hown : s.vm.findClass RX11 = some m.cls := findClass_of_methodNamed B.named
  have hlocks := B.notSynchronized

  subst hsz
  have hD := hD0.self (sz := s.heap.size)
  generalize hAe : va_A [(h0, .inr (11, mX11 h1 h4 h11 h18 h23 h32 h33 h40 h48 h49 sp0 lw0)), (h40, .inr (7, mX7 h41 h42 h43 h44 h45 h46 h47 v40))] s.heap.size = A at hD hZ ⊢
  have hA : ∀ q : Nat, s.heap.size ≤ q → A q := fun q h => by rw [← hAe]; exact Or.inr h
  have hS : va_S A s.heap s.heap [] := va_S.rf
  have hl := lv_entry ([.ref h0]) (n := 1) (Nat.le_of_ble_eq_true rfl)
  rw [lg_entry_eq]
  generalize (lg_sl ([.ref h0]) ++ List.replicate (1 - (lg_sl ([.ref h0])).length) Slot.unset).toArray = ls at hl ⊢
  have hl : lv_has ls 1 [(0, .ref h0)] := hl
  have b_ : -2147483648 ≤ (v40 11).toInt ∧ (v40 11).toInt ≤ 2147483647 := ⟨zlo _, zhi _⟩
  refine lv_aload_n hx hb dX11_deepest_0 rfl (lv_at hl 0 rfl) ?_
  refine va_get (D := (dC, dI)) (ci := 11) (v := .ref h40) (C := RX11) (T := TX11) (N := 12) hx hb hG zuX11 hown hK hP 0 rfl rfl 7 (by decide) (hG _ zv564) (fun _ h9 => h9) rfl dX11_deepest_1 ?_
  have hPc := hP.sub (ws' := [(h40, .inr (7, mX7 h41 h42 h43 h44 h45 h46 h47 v40))]) [1] rfl
  have hDc := hD.sub (ws' := [(h40, .inr (7, mX7 h41 h42 h43 h44 h45 h46 h47 v40))]) [1] (by decide) rfl
  have hKc := hK.sub (tys' := []) [] rfl
  have hFc := va_free (wc := [(h40, .inr (7, mX7 h41 h42 h43 h44 h45 h46 h47 v40))]) hD hS hA [1] rfl
  refine va_calli (va_runV (As := []) (rest := []) ⟨hx, hb, hml, hown, hG⟩ (sX7_deepestStack_0 l dC dI adK adV h40 h41 h42 h43 h44 h45 h46 h47 s.heap.size v40 hv40) (cwV 0 hG (zgV zv1372 zv1373 zv1374 zv136 zv1375) rfl rfl rfl (by decide +kernel) ⟨Nat.le_of_ble_eq_true rfl, Nat.le_of_ble_eq_true rfl⟩) ⟨zPc_blind, va_recv hKc hPc (ci := 7) (q0 := 0) rfl rfl, zPc_pre hPc hKc hDc hE hS hFc hZ⟩ rfl rfl hl.1 rfl (lv_room (Nat.le_of_ble_eq_true rfl)) dX11_deepest_4 ⟨Nat.le_of_ble_eq_true rfl, Nat.le_of_ble_eq_true rfl⟩) hS (fun q _ h => hFc q h) hFc (fun r4_ u4_ t H1 locs ht hvm hw hB hz1 hk1 hS => ?_)
  replace hw : (r4_.toInt = (v40 11).toInt) := hw
  have hX4_0 := hw
  obtain ⟨w4_, a4_, b4_, hP1, hK1, hD1⟩ := hB
  rw [ht] at hP1
  obtain ⟨hP, hD⟩ := va_join (wr := [(h0, .inr (11, mX11 h1 h4 h11 h18 h23 h32 h33 h40 h48 h49 sp0 lw0))]) (w1 := [(h40, .inr (7, mX7 h41 h42 h43 h44 h45 h46 h47 v40))]) hP hD [1] [0] rfl rfl (by decide) (by decide) hk1 hFc hP1 hD1
  have hP : va_P (dC, dI) vwCl [(h0, .inr (11, mX11 h1 h4 h11 h18 h23 h32 h33 h40 h48 h49 sp0 lw0)), (h40, .inr (7, mX7 h41 h42 h43 h44 h45 h46 h47 v40))] H1 := hP.sub [0, 1] rfl
  have hD : va_D A [(h0, .inr (11, mX11 h1 h4 h11 h18 h23 h32 h33 h40 h48 h49 sp0 lw0)), (h40, .inr (7, mX7 h41 h42 h43 h44 h45 h46 h47 v40))] := hD.sub [0, 1] (by decide) rfl
  generalize H1 = H at hP hS ⊢
  clear hz1
  refine W.widen (k := 0) (n := 0) (by decide) (by decide) ?_
  have b_ : -2147483648 ≤ r4_.toInt ∧ r4_.toInt ≤ 2147483647 := ⟨zlo _, zhi _⟩
  have hpost : (r4_.toInt = (v40 11).toInt) := by omega
  have hP9 : va_P (dC, dI) vwCl [(h0, .inr (11, mX11 h1 h4 h11 h18 h23 h32 h33 h40 h48 h49 sp0 lw0)), (h40, .inr (7, mX7 h41 h42 h43 h44 h45 h46 h47 v40))] H := hP
  have hD9 : va_D A [(h0, .inr (11, mX11 h1 h4 h11 h18 h23 h32 h33 h40 h48 h49 sp0 lw0)), (h40, .inr (7, mX7 h41 h42 h43 h44 h45 h46 h47 v40))] := hD
  exact W.iret (v := r4_) hx hb hr (fun t ht hW => ⟨⟨r4_, (fun _ => 0), rfl, hpost, (fun _ => 0), (fun _ => (fun _ => 0)), (fun _ => (fun _ => 0)), by rw [ht]; exact hP9, va_K.moved hW.alike hK, hD9⟩, hS.F ht⟩) hS.2.2 dX11_deepest_7
set_option maxHeartbeats 8000000 in
set_option maxRecDepth 100000 in
theorem sL_code_0 (l : Launch) (hl0 : l.stackTraces = false) (dC : Nat → ClassId) (dI : Nat → Nat → Nat) (adK adV : Nat → Nat) (h0 : Nat) (h40 : Nat) (h47 : Nat) (h69 : Nat) (h1 : Nat) (h4 : Nat) (h11 : Nat) (h18 : Nat) (h23 : Nat) (h32 : Nat) (h33 : Nat) (h48 : Nat) (h49 : Nat) (h41 : Nat) (h42 : Nat) (h43 : Nat) (h44 : Nat) (h45 : Nat) (h46 : Nat) (k47 : ClassId) (k69 : ClassId) (sz : Nat) (sp0 : Value) (lw0 : Int64) (v40 : Nat → Int32) (f47 : Nat → Int32) (f69 : Nat → Int64) (x1 : Int32) (hv40 : zR rg_Query v40) (hf47 : zA 0 12000 f47) : Met l yL_code (.codeWith yL_code cL_code 4 (some .int) [(0, 9, 12, 13)] :: zG) { frames := 9, cells := 1, slots := 6, locals := 141 } (zPc dC dI adK adV [.ref h0, .int x1, .ref h69] sz [(h0, .inr (11, mX11 h1 h4 h11 h18 h23 h32 h33 h40 h48 h49 sp0 lw0)), (h40, .inr (7, mX7 h41 h42 h43 h44 h45 h46 h47 v40)), (h47, zi k47 270 f47), (h69, .inl (k69, 1, .inr (.inl f69)))] [(k47, .int), (k69, .long)]) (va_Qi (fun (r : Int32) (u : Nat → Int32) => (0 ≤ r.toInt ∧ r.toInt ≤ 1) ∧ (r.toInt = 1 → x1.toInt < 0) ∧ (r.toInt = 0 → 0 ≤ x1.toInt) ∧ (r.toInt = (u 0).toInt)) (fun (u : Nat → Int32) (t : State) => ∃ (ww : Nat → Int64) (aa : Nat → Nat → Int32) (bb : Nat → Nat → Int64), ((u 0).toInt = 0 → zSa f47 (v40 9).toInt x1.toInt ((bb 0) 0).toInt) ∧ va_P (dC, dI) vwCl [(h0, .inr (11, mX11 h1 h4 h11 h18 h23 h32 h33 h40 h48 h49 sp0 lw0)), (h40, .inr (7, mX7 h41 h42 h43 h44 h45 h46 h47 v40)), (h47, zi k47 270 f47), (h69, .inl (k69, 1, .inr (.inl (bb 0))))] t.heap ∧ va_K (dC, dI) vwCl [(k47, .int), (k69, .long)] t ∧ va_D (va_A [(h0, .inr (11, mX11 h1 h4 h11 h18 h23 h32 h33 h40 h48 h49 sp0 lw0)), (h40, .inr (7, mX7 h41 h42 h43 h44 h45 h46 h47 v40)), (h47, zi k47 270 f47), (h69, .inl (k69, 1, .inr (.inl f69)))] sz) [(h0, .inr (11, mX11 h1 h4 h11 h18 h23 h32 h33 h40 h48 h49 sp0 lw0)), (h40, .inr (7, mX7 h41 h42 h43 h44 h45 h46 h47 v40)), (h47, zi k47 270 f47), (h69, .inl (k69, 1, .inr (.inl (bb 0))))]) (va_A [(h0, .inr (11, mX11 h1 h4 h11 h18 h23 h32 h33 h40 h48 h49 sp0 lw0)), (h40, .inr (7, mX7 h41 h42 h43 h44 h45 h46 h47 v40)), (h47, zi k47 270 f47), (h69, .inl (k69, 1, .inr (.inl f69)))] sz)) 1 6 (va_A [(h0, .inr (11, mX11 h1 h4 h11 h18 h23 h32 h33 h40 h48 h49 sp0 lw0)), (h40, .inr (7, mX7 h41 h42 h43 h44 h45 h46 h47 v40)), (h47, zi k47 270 f47), (h69, .inl (k69, 1, .inr (.inl f69)))] sz) := by
  refine zmet_of (vx_ofWH (cc := cL_code) (maxL := 4) (ret := (some .int)) (hh := [(0, 9, 12, 13)]) (by decide) rfl ?_)
  intro p e s m args below meth c s₁ B hml hv
  obtain ⟨rfl, hsz, hP, hK, hD0, hE, hZ⟩ := hv
  have hx := B.exec
  have hb := B.bytes
  have hr := B.returns
  have hG : ∀ w ∈ zG, w.before _ s = true := fun w h => atoms_spec (ws := (.codeWith yL_code cL_code 4 (some .int) [(0, 9, 12, 13)] :: zG)) B.pre w (List.mem_cons_of_mem _ h)
  have hown : s.vm.findClass RL = some m.cls := findClass_of_methodNamed B.named
  have hlocks := B.notSynchronized
  have htab : c.exceptionTable.toList = tableOf [(0, 9, 12, 13)] := vx_table (x := yL_code) B (atoms_spec (ws := (.codeWith yL_code cL_code 4 (some .int) [(0, 9, 12, 13)] :: zG)) B.pre _ List.mem_cons_self)
  subst hsz
  have hD := hD0.self (sz := s.heap.size)
  generalize hAe : va_A [(h0, .inr (11, mX11 h1 h4 h11 h18 h23 h32 h33 h40 h48 h49 sp0 lw0)), (h40, .inr (7, mX7 h41 h42 h43 h44 h45 h46 h47 v40)), (h47, zi k47 270 f47), (h69, .inl (k69, 1, .inr (.inl f69)))] s.heap.size = A at hD hZ ⊢
  have hA : ∀ q : Nat, s.heap.size ≤ q → A q := fun q h => by rw [← hAe]; exact Or.inr h
  have hS : va_S A s.heap s.heap [] := va_S.rf
  have hl := lv_entry ([.ref h0, .int x1, .ref h69]) (n := 4) (Nat.le_of_ble_eq_true rfl)
  rw [lg_entry_eq]
  generalize (lg_sl ([.ref h0, .int x1, .ref h69]) ++ List.replicate (4 - (lg_sl ([.ref h0, .int x1, .ref h69])).length) Slot.unset).toArray = ls at hl ⊢
  have hl : lv_has ls 4 [(0, .ref h0), (1, .int x1), (2, .ref h69)] := hl
  have b_ := zk_0
  have b_ := zk_1
  refine lv_aload_n hx hb dL_code_0 rfl (lv_at hl 2 rfl) ?_
  refine lv_iconst (v := 0) hx hb dL_code_1 (by decide) ?_
  refine lv_aload_n hx hb dL_code_2 rfl (lv_at hl 0 rfl) ?_
  refine lv_iload_n hx hb dL_code_3 rfl (lv_at hl 1 rfl) ?_
  have hPc := hP.sub (ws' := [(h0, .inr (11, mX11 h1 h4 h11 h18 h23 h32 h33 h40 h48 h49 sp0 lw0)), (h40, .inr (7, mX7 h41 h42 h43 h44 h45 h46 h47 v40)), (h47, zi k47 270 f47)]) [0, 1, 2] rfl
  have hDc := hD.sub (ws' := [(h0, .inr (11, mX11 h1 h4 h11 h18 h23 h32 h33 h40 h48 h49 sp0 lw0)), (h40, .inr (7, mX7 h41 h42 h43 h44 h45 h46 h47 v40)), (h47, zi k47 270 f47)]) [0, 1, 2] (by decide) rfl
  have hKc := hK.sub (tys' := [(k47, .int)]) [0] rfl
  have hFc := va_free (wc := [(h0, .inr (11, mX11 h1 h4 h11 h18 h23 h32 h33 h40 h48 h49 sp0 lw0)), (h40, .inr (7, mX7 h41 h42 h43 h44 h45 h46 h47 v40)), (h47, zi k47 270 f47)]) hD hS hA [0, 1, 2] rfl
  refine vx_calli (vx_runV (As := [.int x1]) (rest := [.int 0, .ref h69]) ⟨hx, hb, hml, hown, hG⟩ (sX11_code_0 l hl0 dC dI adK adV h0 h40 h47 h1 h4 h11 h18 h23 h32 h33 h48 h49 h41 h42 h43 h44 h45 h46 k47 s.heap.size sp0 lw0 v40 f47 x1 hv40 hf47) (cwV 1 hG (zgV zv1545 zv1546 zv1547 zv129 zv1548) rfl rfl rfl (by decide +kernel) ⟨Nat.le_of_ble_eq_true rfl, Nat.le_of_ble_eq_true rfl⟩) ⟨zPc_blind, va_recv hKc hPc (ci := 11) (q0 := 0) rfl rfl, zPc_pre hPc hKc hDc hE hS hFc hZ⟩ rfl rfl hl.1 rfl (lv_room (Nat.le_of_ble_eq_true rfl)) dL_code_4 ⟨Nat.le_of_ble_eq_true rfl, Nat.le_of_ble_eq_true rfl⟩) hS (fun q _ h => hFc q h) hFc (fun q _ h => hFc q h) (fun E ce q9 x4_ t H1 locs ht hvm hpx hBX hz1 hk1 hS hce hcv hcl => ?_) (fun r4_ u4_ t H1 locs ht hvm hw hB hz1 hk1 hS => ?_)
  · skip
    replace hpx : (x1.toInt < 0) := hpx
    have hE4_0 := hpx
    obtain ⟨rfl, w4_, a4_, b4_, hP1, hK1, hD1⟩ := hBX
    rw [ht] at hP1
    obtain ⟨hP, hD⟩ := va_join (wr := [(h69, .inl (k69, 1, .inr (.inl f69)))]) (w1 := [(h0, .inr (11, mX11 h1 h4 h11 h18 h23 h32 h33 h40 h48 h49 sp0 lw0)), (h40, .inr (7, mX7 h41 h42 h43 h44 h45 h46 h47 v40)), (h47, zi k47 270 f47)]) hP hD [0, 1, 2] [3] rfl rfl (by decide) (by decide) hk1 hFc hP1 hD1
    have hP : va_P (dC, dI) vwCl [(h0, .inr (11, mX11 h1 h4 h11 h18 h23 h32 h33 h40 h48 h49 sp0 lw0)), (h40, .inr (7, mX7 h41 h42 h43 h44 h45 h46 h47 v40)), (h47, zi k47 270 f47), (h69, .inl (k69, 1, .inr (.inl f69)))] H1 := hP.sub [1, 2, 3, 0] rfl
    have hD : va_D A [(h0, .inr (11, mX11 h1 h4 h11 h18 h23 h32 h33 h40 h48 h49 sp0 lw0)), (h40, .inr (7, mX7 h41 h42 h43 h44 h45 h46 h47 v40)), (h47, zi k47 270 f47), (h69, .inl (k69, 1, .inr (.inl f69)))] := hD.sub [1, 2, 3, 0] (by decide) rfl
    clear hz1
    refine z_catch (x := _) (suf := []) hown htab (by decide) (by decide) (hG _ zv1405) (va_Nw.use rfl (zE_castI hE)) hce hcv hcl ?_
    refine W.eq (g2 := F0 m 12 ls [.ref q9]) rfl ?_
    generalize H1 = H at hP hS ⊢
    refine lv_astore_n (lv' := [(3, .ref q9), (0, .ref h0), (1, .int x1), (2, .ref h69)]) hx hb dL_code_12 rfl hl (by decide) rfl (fun ls hl => ?_)
    refine lv_iconst (v := 1) hx hb dL_code_13 (by decide) ?_
    refine W.widen (k := 1) (n := 6) (by decide) (by decide) ?_
    have hpost : (0 ≤ (1 : Int32).toInt ∧ (1 : Int32).toInt ≤ 1) ∧ ((1 : Int32).toInt = 1 → x1.toInt < 0) ∧ ((1 : Int32).toInt = 0 → 0 ≤ x1.toInt) ∧ ((1 : Int32).toInt = (1 : Int32).toInt) := ⟨⟨by omega, by omega⟩, by omega, by omega, rfl⟩
    have hP9 : va_P (dC, dI) vwCl [(h0, .inr (11, mX11 h1 h4 h11 h18 h23 h32 h33 h40 h48 h49 sp0 lw0)), (h40, .inr (7, mX7 h41 h42 h43 h44 h45 h46 h47 v40)), (h47, zi k47 270 f47), (h69, .inl (k69, 1, .inr (.inl f69)))] H := hP
    have hD9 : va_D A [(h0, .inr (11, mX11 h1 h4 h11 h18 h23 h32 h33 h40 h48 h49 sp0 lw0)), (h40, .inr (7, mX7 h41 h42 h43 h44 h45 h46 h47 v40)), (h47, zi k47 270 f47), (h69, .inl (k69, 1, .inr (.inl f69)))] := hD
    have hB0 : (1 : Int32).toInt = 0 → zSa f47 (v40 9).toInt x1.toInt (f69 0).toInt := by first | (intro q_; exact absurd q_ (by decide)) | exact fun _ => zSaL e_f_8 e_y_7 hX4_1
    exact vx_ret (W.iret (v := 1) hx hb hr (fun t ht hW => ⟨⟨1, (fun i => ([1] : List (Int32)).getD i 0), rfl, hpost, (fun _ => 0), (fun _ => (fun _ => 0)), (fun i => ([f69] : List (Nat → Int64)).getD i (fun _ => 0)), hB0, by rw [ht]; exact hP9, va_K.moved hW.alike hK, hD9⟩, hS.F ht⟩) hS.2.2 dL_code_14)
  · skip
    replace hw : ((-1) ≤ r4_.toInt ∧ r4_.toInt ≤ 12000) ∧ (0 ≤ x1.toInt) ∧ (zSa f47 (v40 9).toInt x1.toInt r4_.toInt) := hw
    obtain ⟨b_, hX4_0, hX4_1⟩ := hw
    obtain ⟨w4_, a4_, b4_, hP1, hK1, hD1⟩ := hB
    rw [ht] at hP1
    obtain ⟨hP, hD⟩ := va_join (wr := [(h69, .inl (k69, 1, .inr (.inl f69)))]) (w1 := [(h0, .inr (11, mX11 h1 h4 h11 h18 h23 h32 h33 h40 h48 h49 sp0 lw0)), (h40, .inr (7, mX7 h41 h42 h43 h44 h45 h46 h47 v40)), (h47, zi k47 270 f47)]) hP hD [0, 1, 2] [3] rfl rfl (by decide) (by decide) hk1 hFc hP1 hD1
    have hP : va_P (dC, dI) vwCl [(h0, .inr (11, mX11 h1 h4 h11 h18 h23 h32 h33 h40 h48 h49 sp0 lw0)), (h40, .inr (7, mX7 h41 h42 h43 h44 h45 h46 h47 v40)), (h47, zi k47 270 f47), (h69, .inl (k69, 1, .inr (.inl f69)))] H1 := hP.sub [1, 2, 3, 0] rfl
    have hD : va_D A [(h0, .inr (11, mX11 h1 h4 h11 h18 h23 h32 h33 h40 h48 h49 sp0 lw0)), (h40, .inr (7, mX7 h41 h42 h43 h44 h45 h46 h47 v40)), (h47, zi k47 270 f47), (h69, .inl (k69, 1, .inr (.inl f69)))] := hD.sub [1, 2, 3, 0] (by decide) rfl
    generalize H1 = H at hP hS ⊢
    clear hz1
    refine lv_i2l hx hb dL_code_7 rfl ?_
    refine lv_topl (fun y_7 e_y_7 => ?_)
    refine va_last hx hb hK hP hD hS 3 1 rfl rfl (zin_lit (by decide)) dL_code_8 (fun H locs hP hD hS => ?_)
    obtain ⟨f_8, e_f_8⟩ : ∃ z : Nat → Int64, z = vp_updL f69 (0 : Int32).toNatClampNeg y_7 := ⟨_, rfl⟩
    have hP : va_P (dC, dI) vwCl [(h0, .inr (11, mX11 h1 h4 h11 h18 h23 h32 h33 h40 h48 h49 sp0 lw0)), (h40, .inr (7, mX7 h41 h42 h43 h44 h45 h46 h47 v40)), (h47, zi k47 270 f47), (h69, .inl (k69, 1, .inr (.inl f_8)))] H := by rw [e_f_8]; exact hP
    have hD : va_D A [(h0, .inr (11, mX11 h1 h4 h11 h18 h23 h32 h33 h40 h48 h49 sp0 lw0)), (h40, .inr (7, mX7 h41 h42 h43 h44 h45 h46 h47 v40)), (h47, zi k47 270 f47), (h69, .inl (k69, 1, .inr (.inl f_8)))] := by rw [e_f_8]; exact hD
    refine lv_goto (tgt := 15) hx hb dL_code_9 (by decide) ?_
    refine lv_iconst (v := 0) hx hb dL_code_15 (by decide) ?_
    refine W.widen (k := 1) (n := 6) (by decide) (by decide) ?_
    have hpost : (0 ≤ (0 : Int32).toInt ∧ (0 : Int32).toInt ≤ 1) ∧ ((0 : Int32).toInt = 1 → x1.toInt < 0) ∧ ((0 : Int32).toInt = 0 → 0 ≤ x1.toInt) ∧ ((0 : Int32).toInt = (0 : Int32).toInt) := ⟨⟨by omega, by omega⟩, by omega, by omega, rfl⟩
    have hP9 : va_P (dC, dI) vwCl [(h0, .inr (11, mX11 h1 h4 h11 h18 h23 h32 h33 h40 h48 h49 sp0 lw0)), (h40, .inr (7, mX7 h41 h42 h43 h44 h45 h46 h47 v40)), (h47, zi k47 270 f47), (h69, .inl (k69, 1, .inr (.inl f_8)))] H := hP
    have hD9 : va_D A [(h0, .inr (11, mX11 h1 h4 h11 h18 h23 h32 h33 h40 h48 h49 sp0 lw0)), (h40, .inr (7, mX7 h41 h42 h43 h44 h45 h46 h47 v40)), (h47, zi k47 270 f47), (h69, .inl (k69, 1, .inr (.inl f_8)))] := hD
    have hB0 : (0 : Int32).toInt = 0 → zSa f47 (v40 9).toInt x1.toInt (f_8 0).toInt := by first | (intro q_; exact absurd q_ (by decide)) | exact fun _ => zSaL e_f_8 e_y_7 hX4_1
    exact vx_ret (W.iret (v := 0) hx hb hr (fun t ht hW => ⟨⟨0, (fun i => ([0] : List (Int32)).getD i 0), rfl, hpost, (fun _ => 0), (fun _ => (fun _ => 0)), (fun i => ([f_8] : List (Nat → Int64)).getD i (fun _ => 0)), hB0, by rw [ht]; exact hP9, va_K.moved hW.alike hK, hD9⟩, hS.F ht⟩) hS.2.2 dL_code_16)
set_option maxHeartbeats 8000000 in
set_option maxRecDepth 100000 in
theorem sX13_code_0 (l : Launch) (dC : Nat → ClassId) (dI : Nat → Nat → Nat) (adK adV : Nat → Nat) (h0 : Nat) (q0 : Nat → Nat) (k33 : ClassId) (sz : Nat) (v0 : Nat → Int32) (f33 : Nat → Int32) (x1 : Int32) (hv0 : zR rg_Model v0) : Met l yX13_code (zw yX13_code cX13_code 2 (some .int)) { frames := 1, cells := 0, slots := 0, locals := 20 } (zPc dC dI adK adV [.ref h0, .int x1] sz [(h0, .inr (13, mX13 q0 v0)), ((q0 52), zi k33 1300 f33)] [(k33, .int)]) (va_Qi (fun (r : Int32) (u : Nat → Int32) => (0 ≤ (u 0).toInt ∧ (u 0).toInt ≤ 1) ∧ (x1.toInt < 0 → (u 0).toInt = 1) ∧ (0 ≤ x1.toInt → (u 0).toInt = 0) ∧ (0 ≤ x1.toInt → zSa f33 (v0 53).toInt x1.toInt r.toInt)) (fun (u : Nat → Int32) (t : State) => ∃ (ww : Nat → Int64) (aa : Nat → Nat → Int32) (bb : Nat → Nat → Int64), va_P (dC, dI) vwCl [(h0, .inr (13, mX13 q0 (upd v0 21 (u 0)))), ((q0 52), zi k33 1300 f33)] t.heap ∧ va_K (dC, dI) vwCl [(k33, .int)] t ∧ va_D (va_A [(h0, .inr (13, mX13 q0 v0)), ((q0 52), zi k33 1300 f33)] sz) [(h0, .inr (13, mX13 q0 (upd v0 21 (u 0)))), ((q0 52), zi k33 1300 f33)]) (va_A [(h0, .inr (13, mX13 q0 v0)), ((q0 52), zi k33 1300 f33)] sz)) 0 0 (va_A [(h0, .inr (13, mX13 q0 v0)), ((q0 52), zi k33 1300 f33)] sz) := by
  refine Met.ofW (cc := cX13_code) (maxL := 2) (ret := (some .int)) (by decide) rfl ?_
  intro p e s m args below meth c s₁ B hml hv
  obtain ⟨rfl, hsz, hP, hK, hD0, hE, hZ⟩ := hv
  have hx := B.exec
  have hb := B.bytes
  have hr := B.returns
  have hG : ∀ w ∈ zG, w.before _ s = true := fun w h => atoms_spec (ws := (zw yX13_code cX13_code 2 (some .int))) B.pre w (List.mem_cons_of_mem _ h)
  have hown : s.vm.findClass RX13 = some m.cls := findClass_of_methodNamed B.named
  have hlocks := B.notSynchronized

  subst hsz
  have hD := hD0.self (sz := s.heap.size)
  generalize hAe : va_A [(h0, .inr (13, mX13 q0 v0)), ((q0 52), zi k33 1300 f33)] s.heap.size = A at hD hZ ⊢
  have hA : ∀ q : Nat, s.heap.size ≤ q → A q := fun q h => by rw [← hAe]; exact Or.inr h
  have hS : va_S A s.heap s.heap [] := va_S.rf
  have hl := lv_entry ([.ref h0, .int x1]) (n := 2) (Nat.le_of_ble_eq_true rfl)
  rw [lg_entry_eq]
  generalize (lg_sl ([.ref h0, .int x1]) ++ List.replicate (2 - (lg_sl ([.ref h0, .int x1])).length) Slot.unset).toArray = ls at hl ⊢
  have hl : lv_has ls 2 [(0, .ref h0), (1, .int x1)] := hl
  have b_ := zk_m1
  have b_ := zk_0
  have b_ : -2147483648 ≤ (v0 21).toInt ∧ (v0 21).toInt ≤ 2147483647 := ⟨zlo _, zhi _⟩
  have b_ : 0 ≤ (v0 53).toInt ∧ (v0 53).toInt ≤ 1300 := hv0 53
  refine lv_aload_n hx hb dX13_code_0 rfl (lv_at hl 0 rfl) ?_
  refine lv_iconst (v := 0) hx hb dX13_code_1 (by decide) ?_
  refine va_put (D := (dC, dI)) (ci := 13) (v := .int 0) (ty := .int) (C := RX13) (T := TX13) (N := 75) hx hb hG zuX13 tyX13 tyX13_ok nmX13 hown hK hP hD hS 0 rfl rfl 21 (by decide) (hG _ zv1625) (fun _ h9 => h9) rfl (by decide +kernel) rfl rfl (Nat.le_of_ble_eq_true rfl) dX13_code_2 (fun H locs hP hD hS => ?_)
  have hP : va_P (dC, dI) vwCl [(h0, .inr (13, mX13 q0 (upd v0 21 0))), ((q0 52), zi k33 1300 f33)] H := hP
  have hD : va_D A [(h0, .inr (13, mX13 q0 (upd v0 21 0))), ((q0 52), zi k33 1300 f33)] := hD
  refine lv_iload_n hx hb dX13_code_5 rfl (lv_at hl 1 rfl) ?_
  have b_ : -2147483648 ≤ x1.toInt ∧ x1.toInt ≤ 2147483647 := ⟨zlo _, zhi _⟩
  refine lv_if_ge (tgt := 14) hx hb dX13_code_6 (by decide) (fun c_ => ?_) (fun c_ => ?_)
  · skip
    have b_ := zT_ge rfl zk_0 c_
    refine lv_iload_n hx hb dX13_code_14 rfl (lv_at hl 1 rfl) ?_
    refine lv_aload_n hx hb dX13_code_15 rfl (lv_at hl 0 rfl) ?_
    refine va_get (D := (dC, dI)) (ci := 13) (v := .int (v0 53)) (C := RX13) (T := TX13) (N := 75) hx hb hG zuX13 hown hK hP 0 rfl rfl 53 (by decide) (hG _ zv1657) (fun _ h9 => h9) rfl dX13_code_16 ?_
    refine lv_icmp_ge (tgt := 31) hx hb dX13_code_19 (by decide) (fun c_ => ?_) (fun c_ => ?_)
    · skip
      have b_ := zT_ge rfl rfl c_
      refine lv_iconst (v := (-1)) hx hb dX13_code_31 (by decide) ?_
      refine W.widen (k := 0) (n := 0) (by decide) (by decide) ?_
      have hpost : (0 ≤ (0 : Int32).toInt ∧ (0 : Int32).toInt ≤ 1) ∧ (x1.toInt < 0 → (0 : Int32).toInt = 1) ∧ (0 ≤ x1.toInt → (0 : Int32).toInt = 0) ∧ (0 ≤ x1.toInt → zSa f33 (v0 53).toInt x1.toInt ((-1) : Int32).toInt) := ⟨⟨by omega, by omega⟩, by omega, by omega, by first | exact fun h_ => absurd h_ (by omega) | exact fun _ => zSa_n (by first | decide | omega) (by omega) | exact fun _ => zSa_y e_z27 (by omega) (by omega)⟩
      have hP9 : va_P (dC, dI) vwCl [(h0, .inr (13, mX13 q0 (upd v0 21 0))), ((q0 52), zi k33 1300 f33)] H := hP
      have hD9 : va_D A [(h0, .inr (13, mX13 q0 (upd v0 21 0))), ((q0 52), zi k33 1300 f33)] := hD
      exact W.iret (v := (-1)) hx hb hr (fun t ht hW => ⟨⟨(-1), (fun i => ([0] : List (Int32)).getD i 0), rfl, hpost, (fun _ => 0), (fun _ => (fun _ => 0)), (fun _ => (fun _ => 0)), by rw [ht]; exact hP9, va_K.moved hW.alike hK, hD9⟩, hS.F ht⟩) hS.2.2 dX13_code_32
    · skip
      have b_ := zF_ge rfl rfl c_
      refine lv_aload_n hx hb dX13_code_22 rfl (lv_at hl 0 rfl) ?_
      refine va_get (D := (dC, dI)) (ci := 13) (v := .ref (q0 52)) (C := RX13) (T := TX13) (N := 75) hx hb hG zuX13 hown hK hP 0 rfl rfl 52 (by decide) (hG _ zv1656) (fun _ h9 => h9) rfl dX13_code_23 ?_
      refine lv_iload_n hx hb dX13_code_26 rfl (lv_at hl 1 rfl) ?_
      refine va_iald hx hb hK hP 1 0 rfl rfl (zin_lit ⟨by omega, by omega⟩) dX13_code_27 ?_
      refine lv_topi (fun z27 e_z27 => ?_)
      refine lv_goto (tgt := 32) hx hb dX13_code_28 (by decide) ?_
      refine W.widen (k := 0) (n := 0) (by decide) (by decide) ?_
      have b_ : -2147483648 ≤ z27.toInt ∧ z27.toInt ≤ 2147483647 := ⟨zlo _, zhi _⟩
      have hpost : (0 ≤ (0 : Int32).toInt ∧ (0 : Int32).toInt ≤ 1) ∧ (x1.toInt < 0 → (0 : Int32).toInt = 1) ∧ (0 ≤ x1.toInt → (0 : Int32).toInt = 0) ∧ (0 ≤ x1.toInt → zSa f33 (v0 53).toInt x1.toInt z27.toInt) := ⟨⟨by omega, by omega⟩, by omega, by omega, by first | exact fun h_ => absurd h_ (by omega) | exact fun _ => zSa_n (by first | decide | omega) (by omega) | exact fun _ => zSa_y e_z27 (by omega) (by omega)⟩
      have hP9 : va_P (dC, dI) vwCl [(h0, .inr (13, mX13 q0 (upd v0 21 0))), ((q0 52), zi k33 1300 f33)] H := hP
      have hD9 : va_D A [(h0, .inr (13, mX13 q0 (upd v0 21 0))), ((q0 52), zi k33 1300 f33)] := hD
      exact W.iret (v := z27) hx hb hr (fun t ht hW => ⟨⟨z27, (fun i => ([0] : List (Int32)).getD i 0), rfl, hpost, (fun _ => 0), (fun _ => (fun _ => 0)), (fun _ => (fun _ => 0)), by rw [ht]; exact hP9, va_K.moved hW.alike hK, hD9⟩, hS.F ht⟩) hS.2.2 dX13_code_32
  · skip
    have b_ := zF_ge rfl zk_0 c_
    refine lv_aload_n hx hb dX13_code_9 rfl (lv_at hl 0 rfl) ?_
    have hPc := hP.sub (ws' := [(h0, .inr (13, mX13 q0 (upd v0 21 0)))]) [0] rfl
    have hDc := hD.sub (ws' := [(h0, .inr (13, mX13 q0 (upd v0 21 0)))]) [0] (by decide) rfl
    have hKc := hK.sub (tys' := []) [] rfl
    have hFc := va_free (wc := [(h0, .inr (13, mX13 q0 (upd v0 21 0)))]) hD hS hA [0] rfl
    refine va_calli (va_runV (As := []) (rest := []) ⟨hx, hb, hml, hown, hG⟩ (sX13_refuse_0 l dC dI adK adV h0 q0 H.size (upd v0 21 0) (zR_updF hv0 21 rfl)) (cwV 0 hG (zgV zv1959 zv1961 zv68 zv142 zv1962) rfl rfl rfl (by decide +kernel) ⟨Nat.le_of_ble_eq_true rfl, Nat.le_of_ble_eq_true rfl⟩) ⟨zPc_blind, va_recv hKc hPc (ci := 13) (q0 := 0) rfl rfl, zPc_pre hPc hKc hDc hE hS hFc hZ⟩ rfl rfl hl.1 rfl (lv_room (Nat.le_of_ble_eq_true rfl)) dX13_code_10 ⟨Nat.le_of_ble_eq_true rfl, Nat.le_of_ble_eq_true rfl⟩) hS (fun q _ h => hFc q h) hFc (fun r10_ u10_ t H1 locs ht hvm hw hB hz1 hk1 hS => ?_)
    replace hw : (0 ≤ r10_.toInt ∧ r10_.toInt ≤ 0) ∧ (1 ≤ (u10_ 0).toInt ∧ (u10_ 0).toInt ≤ 1) := hw
    obtain ⟨b_, b_⟩ := hw
    obtain rfl : r10_ = (0 : Int32) := zeqi.mpr ((show r10_.toInt = 0 from by omega).trans zk_0.symm)
    obtain ⟨w10_, a10_, b10_, hP1, hK1, hD1⟩ := hB
    rw [ht] at hP1
    obtain ⟨hP, hD⟩ := va_join (wr := [((q0 52), zi k33 1300 f33)]) (w1 := [(h0, .inr (13, mX13 q0 (upd v0 21 (u10_ 0))))]) hP hD [0] [1] rfl rfl (by decide) (by decide) hk1 hFc hP1 hD1
    have hP : va_P (dC, dI) vwCl [(h0, .inr (13, mX13 q0 (upd v0 21 (u10_ 0)))), ((q0 52), zi k33 1300 f33)] H1 := hP.sub [1, 0] rfl
    have hD : va_D A [(h0, .inr (13, mX13 q0 (upd v0 21 (u10_ 0)))), ((q0 52), zi k33 1300 f33)] := hD.sub [1, 0] (by decide) rfl
    generalize H1 = H at hP hS ⊢
    clear hz1
    refine W.widen (k := 0) (n := 0) (by decide) (by decide) ?_
    have hpost : (0 ≤ (u10_ 0).toInt ∧ (u10_ 0).toInt ≤ 1) ∧ (x1.toInt < 0 → (u10_ 0).toInt = 1) ∧ (0 ≤ x1.toInt → (u10_ 0).toInt = 0) ∧ (0 ≤ x1.toInt → zSa f33 (v0 53).toInt x1.toInt (0 : Int32).toInt) := ⟨⟨by omega, by omega⟩, by omega, by omega, by first | exact fun h_ => absurd h_ (by omega) | exact fun _ => zSa_n (by first | decide | omega) (by omega) | exact fun _ => zSa_y e_z27 (by omega) (by omega)⟩
    have hP9 : va_P (dC, dI) vwCl [(h0, .inr (13, mX13 q0 (upd v0 21 (u10_ 0)))), ((q0 52), zi k33 1300 f33)] H := hP
    have hD9 : va_D A [(h0, .inr (13, mX13 q0 (upd v0 21 (u10_ 0)))), ((q0 52), zi k33 1300 f33)] := hD
    exact W.iret (v := 0) hx hb hr (fun t ht hW => ⟨⟨0, (fun i => ([(u10_ 0)] : List (Int32)).getD i 0), rfl, hpost, (fun _ => 0), (fun _ => (fun _ => 0)), (fun _ => (fun _ => 0)), by rw [ht]; exact hP9, va_K.moved hW.alike hK, hD9⟩, hS.F ht⟩) hS.2.2 dX13_code_13
set_option maxHeartbeats 8000000 in
set_option maxRecDepth 100000 in
theorem sX13_deepest_0 (l : Launch) (dC : Nat → ClassId) (dI : Nat → Nat → Nat) (adK adV : Nat → Nat) (h0 : Nat) (q0 : Nat → Nat) (k33 : ClassId) (sz : Nat) (v0 : Nat → Int32) (f33 : Nat → Int32) (hv0 : zR rg_Model v0) : Met l yX13_deepest (zw yX13_deepest cX13_deepest 5 (some .int)) { frames := 1, cells := 0, slots := 0, locals := 40 } (zPc dC dI adK adV [.ref h0] sz [(h0, .inr (13, mX13 q0 v0)), ((q0 52), zi k33 1300 f33)] [(k33, .int)]) (va_Qi (fun (r : Int32) (u : Nat → Int32) => (0 ≤ r.toInt ∧ r.toInt ≤ 1300) ∧ (0 ≤ (u 0).toInt ∧ (u 0).toInt ≤ 0) ∧ (∀ K : List Int, zCd f33 (v0 53).toInt K → r.toInt = (zdp K).2)) (fun (u : Nat → Int32) (t : State) => ∃ (ww : Nat → Int64) (aa : Nat → Nat → Int32) (bb : Nat → Nat → Int64), va_P (dC, dI) vwCl [(h0, .inr (13, mX13 q0 (upd v0 21 (u 0)))), ((q0 52), zi k33 1300 f33)] t.heap ∧ va_K (dC, dI) vwCl [(k33, .int)] t ∧ va_D (va_A [(h0, .inr (13, mX13 q0 v0)), ((q0 52), zi k33 1300 f33)] sz) [(h0, .inr (13, mX13 q0 (upd v0 21 (u 0)))), ((q0 52), zi k33 1300 f33)]) (va_A [(h0, .inr (13, mX13 q0 v0)), ((q0 52), zi k33 1300 f33)] sz)) 0 0 (va_A [(h0, .inr (13, mX13 q0 v0)), ((q0 52), zi k33 1300 f33)] sz) := by
  refine Met.ofW (cc := cX13_deepest) (maxL := 5) (ret := (some .int)) (by decide) rfl ?_
  intro p e s m args below meth c s₁ B hml hv
  obtain ⟨rfl, hsz, hP, hK, hD0, hE, hZ⟩ := hv
  have hx := B.exec
  have hb := B.bytes
  have hr := B.returns
  have hG : ∀ w ∈ zG, w.before _ s = true := fun w h => atoms_spec (ws := (zw yX13_deepest cX13_deepest 5 (some .int))) B.pre w (List.mem_cons_of_mem _ h)
  have hown : s.vm.findClass RX13 = some m.cls := findClass_of_methodNamed B.named
  have hlocks := B.notSynchronized

  subst hsz
  have hD := hD0.self (sz := s.heap.size)
  generalize hAe : va_A [(h0, .inr (13, mX13 q0 v0)), ((q0 52), zi k33 1300 f33)] s.heap.size = A at hD hZ ⊢
  have hA : ∀ q : Nat, s.heap.size ≤ q → A q := fun q h => by rw [← hAe]; exact Or.inr h
  have hS : va_S A s.heap s.heap [] := va_S.rf
  have hl := lv_entry ([.ref h0]) (n := 5) (Nat.le_of_ble_eq_true rfl)
  rw [lg_entry_eq]
  generalize (lg_sl ([.ref h0]) ++ List.replicate (5 - (lg_sl ([.ref h0])).length) Slot.unset).toArray = ls at hl ⊢
  have hl : lv_has ls 5 [(0, .ref h0)] := hl
  have b_ := zk_0
  have b_ : 0 ≤ (v0 53).toInt ∧ (v0 53).toInt ≤ 1300 := hv0 53
  refine lv_aload_n hx hb dX13_deepest_0 rfl (lv_at hl 0 rfl) ?_
  refine lv_iconst (v := 0) hx hb dX13_deepest_1 (by decide) ?_
  refine va_put (D := (dC, dI)) (ci := 13) (v := .int 0) (ty := .int) (C := RX13) (T := TX13) (N := 75) hx hb hG zuX13 tyX13 tyX13_ok nmX13 hown hK hP hD hS 0 rfl rfl 21 (by decide) (hG _ zv1625) (fun _ h9 => h9) rfl (by decide +kernel) rfl rfl (Nat.le_of_ble_eq_true rfl) dX13_deepest_2 (fun H locs hP hD hS => ?_)
  have hP : va_P (dC, dI) vwCl [(h0, .inr (13, mX13 q0 (upd v0 21 0))), ((q0 52), zi k33 1300 f33)] H := hP
  have hD : va_D A [(h0, .inr (13, mX13 q0 (upd v0 21 0))), ((q0 52), zi k33 1300 f33)] := hD
  refine lv_iconst (v := 0) hx hb dX13_deepest_5 (by decide) ?_
  refine lv_istore_n (lv' := [(1, .int 0), (0, .ref h0)]) hx hb dX13_deepest_6 rfl hl (by decide) rfl (fun ls hl => ?_)
  refine lv_iconst (v := 0) hx hb dX13_deepest_7 (by decide) ?_
  refine lv_istore_n (lv' := [(2, .int 0), (1, .int 0), (0, .ref h0)]) hx hb dX13_deepest_8 rfl hl (by decide) rfl (fun ls hl => ?_)
  refine lv_iconst (v := 0) hx hb dX13_deepest_9 (by decide) ?_
  refine lv_istore_n (lv' := [(3, .int 0), (2, .int 0), (1, .int 0), (0, .ref h0)]) hx hb dX13_deepest_10 rfl hl (by decide) rfl (fun ls hl => ?_)
  refine zcutL (fun u11_ => (1300 - (u11_ 2).toInt).toNat) (fun H locs ls u11_ w11_ a11_ b11_ => va_P (dC, dI) vwCl [(h0, .inr (13, mX13 q0 (upd v0 21 0))), ((q0 52), zi k33 1300 f33)] H ∧ va_D A [(h0, .inr (13, mX13 q0 (upd v0 21 0))), ((q0 52), zi k33 1300 f33)] ∧ va_S A s.heap H locs ∧ lv_has ls 5 [(0, .ref h0), (1, .int (u11_ 0)), (2, .int (u11_ 1)), (3, .int (u11_ 2))] ∧ (0 ≤ (u11_ 0).toInt ∧ (u11_ 0).toInt ≤ 1300) ∧ ((-1300) ≤ (u11_ 1).toInt ∧ (u11_ 1).toInt ≤ 1300) ∧ (0 ≤ (u11_ 2).toInt ∧ (u11_ 2).toInt ≤ 1300) ∧ (0 - (u11_ 2).toInt ≤ (u11_ 1).toInt ∧ (u11_ 1).toInt ≤ (u11_ 2).toInt) ∧ ((u11_ 0).toInt ≤ (u11_ 2).toInt) ∧ ((u11_ 2).toInt ≤ (v0 53).toInt) ∧ (zDk f33 (v0 53).toInt (u11_ 2).toInt (u11_ 1).toInt (u11_ 0).toInt)) (fun ls u11_ w11_ => F0 m 11 ls []) 0 0 ?_ (fun hJ11 => ?_)
  · skip
    intro H locs ls u11_ w11_ a11_ b11_ hc hJ11
    obtain ⟨hP, hD, hS, hl, b_, b_, b_, b_, b_, b_, hI11_3⟩ := hc
    refine lv_iload_n hx hb dX13_deepest_11 rfl (lv_at hl 3 rfl) ?_
    refine lv_aload_n hx hb dX13_deepest_12 rfl (lv_at hl 0 rfl) ?_
    refine va_get (D := (dC, dI)) (ci := 13) (v := .int (v0 53)) (C := RX13) (T := TX13) (N := 75) hx hb hG zuX13 hown hK hP 0 rfl rfl 53 (by decide) (hG _ zv1657) (fun _ h9 => h9) rfl dX13_deepest_13 ?_
    refine lv_icmp_ge (tgt := 85) hx hb dX13_deepest_16 (by decide) (fun c_ => ?_) (fun c_ => ?_)
    · skip
      have b_ := zT_ge rfl rfl c_
      refine lv_iload_n hx hb dX13_deepest_85 rfl (lv_at hl 1 rfl) ?_
      refine W.widen (k := 0) (n := 0) (by decide) (by decide) ?_
      have hpost : (0 ≤ (u11_ 0).toInt ∧ (u11_ 0).toInt ≤ 1300) ∧ (0 ≤ (0 : Int32).toInt ∧ (0 : Int32).toInt ≤ 0) ∧ (∀ K : List Int, zCd f33 (v0 53).toInt K → (u11_ 0).toInt = (zdp K).2) := ⟨⟨by omega, by omega⟩, ⟨by omega, by omega⟩, by exact zDk_e hI11_3 (by omega)⟩
      have hP9 : va_P (dC, dI) vwCl [(h0, .inr (13, mX13 q0 (upd v0 21 0))), ((q0 52), zi k33 1300 f33)] H := hP
      have hD9 : va_D A [(h0, .inr (13, mX13 q0 (upd v0 21 0))), ((q0 52), zi k33 1300 f33)] := hD
      exact W.iret (v := (u11_ 0)) hx hb hr (fun t ht hW => ⟨⟨(u11_ 0), (fun i => ([0] : List (Int32)).getD i 0), rfl, hpost, (fun _ => 0), (fun _ => (fun _ => 0)), (fun _ => (fun _ => 0)), by rw [ht]; exact hP9, va_K.moved hW.alike hK, hD9⟩, hS.F ht⟩) hS.2.2 dX13_deepest_86
    · skip
      have b_ := zF_ge rfl rfl c_
      refine lv_aload_n hx hb dX13_deepest_19 rfl (lv_at hl 0 rfl) ?_
      refine va_get (D := (dC, dI)) (ci := 13) (v := .ref (q0 52)) (C := RX13) (T := TX13) (N := 75) hx hb hG zuX13 hown hK hP 0 rfl rfl 52 (by decide) (hG _ zv1656) (fun _ h9 => h9) rfl dX13_deepest_20 ?_
      refine lv_iload_n hx hb dX13_deepest_23 rfl (lv_at hl 3 rfl) ?_
      refine va_iald hx hb hK hP 1 0 rfl rfl (zin_lit ⟨by omega, by omega⟩) dX13_deepest_24 ?_
      refine lv_topi (fun z24 e_z24 => ?_)
      refine lv_sipush (v := 1000) hx hb dX13_deepest_25 (by decide) ?_
      have b_ : -2147483648 ≤ z24.toInt ∧ z24.toInt ≤ 2147483647 := ⟨zlo _, zhi _⟩
      refine lv_idiv hx hb dX13_deepest_28 (by decide) ?_
      refine lv_topi (fun z28 e_z28 => ?_)
      refine lv_istore (lv' := [(4, .int z28), (0, .ref h0), (1, .int (u11_ 0)), (2, .int (u11_ 1)), (3, .int (u11_ 2))]) hx hb dX13_deepest_29 hl (by decide) rfl (fun ls hl => ?_)
      refine lv_iload hx hb dX13_deepest_31 (lv_at hl 0 rfl) ?_
      refine lv_iconst (v := 4) hx hb dX13_deepest_33 (by decide) ?_
      have b_ : -2147483648 ≤ z28.toInt ∧ z28.toInt ≤ 2147483647 := ⟨zlo _, zhi _⟩
      refine lv_icmp_gt (tgt := 43) hx hb dX13_deepest_34 (by decide) (fun c_ => ?_) (fun c_ => ?_)
      · skip
        have b_ := zT_gt rfl zk_4 c_
        refine lv_iload hx hb dX13_deepest_43 (lv_at hl 0 rfl) ?_
        refine lv_iconst (v := 5) hx hb dX13_deepest_45 (by decide) ?_
        refine lv_icmp_eq (tgt := 70) hx hb dX13_deepest_46 (by decide) (fun c_ => ?_) (fun c_ => ?_)
        · skip
          have b_ := zT_eq rfl zk_5 c_
          obtain ⟨z70, e_z70⟩ : ∃ z : Int32, z = (u11_ 1) + Int32.ofInt (-1) := ⟨_, rfl⟩
          have b_ := zadd (x := (u11_ 1)) (y := Int32.ofInt (-1)) rfl (show (Int32.ofInt (-1)).toInt = (-1) from by decide) e_z70 (by omega) (by omega)
          refine lv_iinc (v := z70) (lv' := [(2, .int z70), (4, .int z28), (0, .ref h0), (1, .int (u11_ 0)), (3, .int (u11_ 2))]) hx hb dX13_deepest_70 hl (k := 3) rfl e_z70.symm (by decide) rfl (fun ls hl => ?_)
          refine lv_iload_n hx hb dX13_deepest_73 rfl (lv_at hl 3 rfl) ?_
          refine lv_iload_n hx hb dX13_deepest_74 rfl (lv_at hl 0 rfl) ?_
          refine va_mmax hx hb (by rw [hml]; exact hl.1.symm) hown (hG _ zv2231) (hG _ zv1030) (hG _ zv152) (hG _ zv1031) (Nat.le_of_ble_eq_true rfl) (Nat.le_of_ble_eq_true rfl) (Nat.le_of_ble_eq_true rfl) (Nat.le_of_ble_eq_true rfl) dX13_deepest_75 ?_
          refine lv_topi (fun z75 e_z75 => ?_)
          have b_ := zmax rfl rfl e_z75
          refine lv_istore_n (lv' := [(1, .int z75), (2, .int z70), (4, .int z28), (0, .ref h0), (3, .int (u11_ 2))]) hx hb dX13_deepest_78 rfl hl (by decide) rfl (fun ls hl => ?_)
          obtain ⟨z79, e_z79⟩ : ∃ z : Int32, z = (u11_ 2) + Int32.ofInt 1 := ⟨_, rfl⟩
          have b_ := zadd (x := (u11_ 2)) (y := Int32.ofInt 1) rfl (show (Int32.ofInt 1).toInt = 1 from by decide) e_z79 (by omega) (by omega)
          refine lv_iinc (v := z79) (lv' := [(3, .int z79), (1, .int z75), (2, .int z70), (4, .int z28), (0, .ref h0)]) hx hb dX13_deepest_79 hl (k := 4) rfl e_z79.symm (by decide) rfl (fun ls hl => ?_)
          refine lv_goto (tgt := 11) hx hb dX13_deepest_82 (by decide) ?_
          have hc : va_P (dC, dI) vwCl [(h0, .inr (13, mX13 q0 (upd v0 21 0))), ((q0 52), zi k33 1300 f33)] H ∧ va_D A [(h0, .inr (13, mX13 q0 (upd v0 21 0))), ((q0 52), zi k33 1300 f33)] ∧ va_S A s.heap H locs ∧ lv_has ls 5 [(0, .ref h0), (1, .int z75), (2, .int z70), (3, .int z79)] ∧ (0 ≤ z75.toInt ∧ z75.toInt ≤ 1300) ∧ ((-1300) ≤ z70.toInt ∧ z70.toInt ≤ 1300) ∧ (0 ≤ z79.toInt ∧ z79.toInt ≤ 1300) ∧ (0 - z79.toInt ≤ z70.toInt ∧ z70.toInt ≤ z79.toInt) ∧ (z75.toInt ≤ z79.toInt) ∧ (z79.toInt ≤ (v0 53).toInt) ∧ (zDk f33 (v0 53).toInt z79.toInt z70.toInt z75.toInt) := ⟨hP, hD, hS, lv_sub hl [4, 1, 2, 0] rfl, ⟨by omega, by omega⟩, ⟨by omega, by omega⟩, ⟨by omega, by omega⟩, by omega, by omega, by omega, by first | exact zDk_0 (by omega) (by omega) (by omega) | exact zDk_s hI11_3 (by omega) (by omega) e_z24 e_z28 (by omega) (by omega) (by omega)⟩
          exact hJ11 H locs ls (fun i => ([z75, z70, z79] : List (Int32)).getD i 0) (fun _ => 0) (fun _ => (fun _ => 0)) (fun _ => (fun _ => 0)) hc (show (1300 - z79.toInt).toNat < (1300 - (u11_ 2).toInt).toNat from by omega)
        · skip
          have b_ := zF_eq rfl zk_5 c_
          refine lv_iload hx hb dX13_deepest_49 (lv_at hl 0 rfl) ?_
          refine lv_bipush (v := 8) hx hb dX13_deepest_51 (by decide) ?_
          refine lv_icmp_eq (tgt := 70) hx hb dX13_deepest_53 (by decide) (fun c_ => ?_) (fun c_ => ?_)
          · skip
            have b_ := zT_eq rfl zk_8 c_
            obtain ⟨z70, e_z70⟩ : ∃ z : Int32, z = (u11_ 1) + Int32.ofInt (-1) := ⟨_, rfl⟩
            have b_ := zadd (x := (u11_ 1)) (y := Int32.ofInt (-1)) rfl (show (Int32.ofInt (-1)).toInt = (-1) from by decide) e_z70 (by omega) (by omega)
            refine lv_iinc (v := z70) (lv' := [(2, .int z70), (4, .int z28), (0, .ref h0), (1, .int (u11_ 0)), (3, .int (u11_ 2))]) hx hb dX13_deepest_70 hl (k := 3) rfl e_z70.symm (by decide) rfl (fun ls hl => ?_)
            refine lv_iload_n hx hb dX13_deepest_73 rfl (lv_at hl 3 rfl) ?_
            refine lv_iload_n hx hb dX13_deepest_74 rfl (lv_at hl 0 rfl) ?_
            refine va_mmax hx hb (by rw [hml]; exact hl.1.symm) hown (hG _ zv2231) (hG _ zv1030) (hG _ zv152) (hG _ zv1031) (Nat.le_of_ble_eq_true rfl) (Nat.le_of_ble_eq_true rfl) (Nat.le_of_ble_eq_true rfl) (Nat.le_of_ble_eq_true rfl) dX13_deepest_75 ?_
            refine lv_topi (fun z75 e_z75 => ?_)
            have b_ := zmax rfl rfl e_z75
            refine lv_istore_n (lv' := [(1, .int z75), (2, .int z70), (4, .int z28), (0, .ref h0), (3, .int (u11_ 2))]) hx hb dX13_deepest_78 rfl hl (by decide) rfl (fun ls hl => ?_)
            obtain ⟨z79, e_z79⟩ : ∃ z : Int32, z = (u11_ 2) + Int32.ofInt 1 := ⟨_, rfl⟩
            have b_ := zadd (x := (u11_ 2)) (y := Int32.ofInt 1) rfl (show (Int32.ofInt 1).toInt = 1 from by decide) e_z79 (by omega) (by omega)
            refine lv_iinc (v := z79) (lv' := [(3, .int z79), (1, .int z75), (2, .int z70), (4, .int z28), (0, .ref h0)]) hx hb dX13_deepest_79 hl (k := 4) rfl e_z79.symm (by decide) rfl (fun ls hl => ?_)
            refine lv_goto (tgt := 11) hx hb dX13_deepest_82 (by decide) ?_
            have hc : va_P (dC, dI) vwCl [(h0, .inr (13, mX13 q0 (upd v0 21 0))), ((q0 52), zi k33 1300 f33)] H ∧ va_D A [(h0, .inr (13, mX13 q0 (upd v0 21 0))), ((q0 52), zi k33 1300 f33)] ∧ va_S A s.heap H locs ∧ lv_has ls 5 [(0, .ref h0), (1, .int z75), (2, .int z70), (3, .int z79)] ∧ (0 ≤ z75.toInt ∧ z75.toInt ≤ 1300) ∧ ((-1300) ≤ z70.toInt ∧ z70.toInt ≤ 1300) ∧ (0 ≤ z79.toInt ∧ z79.toInt ≤ 1300) ∧ (0 - z79.toInt ≤ z70.toInt ∧ z70.toInt ≤ z79.toInt) ∧ (z75.toInt ≤ z79.toInt) ∧ (z79.toInt ≤ (v0 53).toInt) ∧ (zDk f33 (v0 53).toInt z79.toInt z70.toInt z75.toInt) := ⟨hP, hD, hS, lv_sub hl [4, 1, 2, 0] rfl, ⟨by omega, by omega⟩, ⟨by omega, by omega⟩, ⟨by omega, by omega⟩, by omega, by omega, by omega, by first | exact zDk_0 (by omega) (by omega) (by omega) | exact zDk_s hI11_3 (by omega) (by omega) e_z24 e_z28 (by omega) (by omega) (by omega)⟩
            exact hJ11 H locs ls (fun i => ([z75, z70, z79] : List (Int32)).getD i 0) (fun _ => 0) (fun _ => (fun _ => 0)) (fun _ => (fun _ => 0)) hc (show (1300 - z79.toInt).toNat < (1300 - (u11_ 2).toInt).toNat from by omega)
          · skip
            have b_ := zF_eq rfl zk_8 c_
            refine lv_iload hx hb dX13_deepest_56 (lv_at hl 0 rfl) ?_
            refine lv_bipush (v := 9) hx hb dX13_deepest_58 (by decide) ?_
            refine lv_icmp_eq (tgt := 70) hx hb dX13_deepest_60 (by decide) (fun c_ => ?_) (fun c_ => ?_)
            · skip
              have b_ := zT_eq rfl zk_9 c_
              obtain ⟨z70, e_z70⟩ : ∃ z : Int32, z = (u11_ 1) + Int32.ofInt (-1) := ⟨_, rfl⟩
              have b_ := zadd (x := (u11_ 1)) (y := Int32.ofInt (-1)) rfl (show (Int32.ofInt (-1)).toInt = (-1) from by decide) e_z70 (by omega) (by omega)
              refine lv_iinc (v := z70) (lv' := [(2, .int z70), (4, .int z28), (0, .ref h0), (1, .int (u11_ 0)), (3, .int (u11_ 2))]) hx hb dX13_deepest_70 hl (k := 3) rfl e_z70.symm (by decide) rfl (fun ls hl => ?_)
              refine lv_iload_n hx hb dX13_deepest_73 rfl (lv_at hl 3 rfl) ?_
              refine lv_iload_n hx hb dX13_deepest_74 rfl (lv_at hl 0 rfl) ?_
              refine va_mmax hx hb (by rw [hml]; exact hl.1.symm) hown (hG _ zv2231) (hG _ zv1030) (hG _ zv152) (hG _ zv1031) (Nat.le_of_ble_eq_true rfl) (Nat.le_of_ble_eq_true rfl) (Nat.le_of_ble_eq_true rfl) (Nat.le_of_ble_eq_true rfl) dX13_deepest_75 ?_
              refine lv_topi (fun z75 e_z75 => ?_)
              have b_ := zmax rfl rfl e_z75
              refine lv_istore_n (lv' := [(1, .int z75), (2, .int z70), (4, .int z28), (0, .ref h0), (3, .int (u11_ 2))]) hx hb dX13_deepest_78 rfl hl (by decide) rfl (fun ls hl => ?_)
              obtain ⟨z79, e_z79⟩ : ∃ z : Int32, z = (u11_ 2) + Int32.ofInt 1 := ⟨_, rfl⟩
              have b_ := zadd (x := (u11_ 2)) (y := Int32.ofInt 1) rfl (show (Int32.ofInt 1).toInt = 1 from by decide) e_z79 (by omega) (by omega)
              refine lv_iinc (v := z79) (lv' := [(3, .int z79), (1, .int z75), (2, .int z70), (4, .int z28), (0, .ref h0)]) hx hb dX13_deepest_79 hl (k := 4) rfl e_z79.symm (by decide) rfl (fun ls hl => ?_)
              refine lv_goto (tgt := 11) hx hb dX13_deepest_82 (by decide) ?_
              have hc : va_P (dC, dI) vwCl [(h0, .inr (13, mX13 q0 (upd v0 21 0))), ((q0 52), zi k33 1300 f33)] H ∧ va_D A [(h0, .inr (13, mX13 q0 (upd v0 21 0))), ((q0 52), zi k33 1300 f33)] ∧ va_S A s.heap H locs ∧ lv_has ls 5 [(0, .ref h0), (1, .int z75), (2, .int z70), (3, .int z79)] ∧ (0 ≤ z75.toInt ∧ z75.toInt ≤ 1300) ∧ ((-1300) ≤ z70.toInt ∧ z70.toInt ≤ 1300) ∧ (0 ≤ z79.toInt ∧ z79.toInt ≤ 1300) ∧ (0 - z79.toInt ≤ z70.toInt ∧ z70.toInt ≤ z79.toInt) ∧ (z75.toInt ≤ z79.toInt) ∧ (z79.toInt ≤ (v0 53).toInt) ∧ (zDk f33 (v0 53).toInt z79.toInt z70.toInt z75.toInt) := ⟨hP, hD, hS, lv_sub hl [4, 1, 2, 0] rfl, ⟨by omega, by omega⟩, ⟨by omega, by omega⟩, ⟨by omega, by omega⟩, by omega, by omega, by omega, by first | exact zDk_0 (by omega) (by omega) (by omega) | exact zDk_s hI11_3 (by omega) (by omega) e_z24 e_z28 (by omega) (by omega) (by omega)⟩
              exact hJ11 H locs ls (fun i => ([z75, z70, z79] : List (Int32)).getD i 0) (fun _ => 0) (fun _ => (fun _ => 0)) (fun _ => (fun _ => 0)) hc (show (1300 - z79.toInt).toNat < (1300 - (u11_ 2).toInt).toNat from by omega)
            · skip
              have b_ := zF_eq rfl zk_9 c_
              refine lv_iload hx hb dX13_deepest_63 (lv_at hl 0 rfl) ?_
              refine lv_bipush (v := 11) hx hb dX13_deepest_65 (by decide) ?_
              refine lv_icmp_ne (tgt := 73) hx hb dX13_deepest_67 (by decide) (fun c_ => ?_) (fun c_ => ?_)
              · skip
                have b_ := zT_ne rfl zk_11 c_
                refine lv_iload_n hx hb dX13_deepest_73 rfl (lv_at hl 2 rfl) ?_
                refine lv_iload_n hx hb dX13_deepest_74 rfl (lv_at hl 3 rfl) ?_
                refine va_mmax hx hb (by rw [hml]; exact hl.1.symm) hown (hG _ zv2231) (hG _ zv1030) (hG _ zv152) (hG _ zv1031) (Nat.le_of_ble_eq_true rfl) (Nat.le_of_ble_eq_true rfl) (Nat.le_of_ble_eq_true rfl) (Nat.le_of_ble_eq_true rfl) dX13_deepest_75 ?_
                refine lv_topi (fun z75 e_z75 => ?_)
                have b_ := zmax rfl rfl e_z75
                refine lv_istore_n (lv' := [(1, .int z75), (4, .int z28), (0, .ref h0), (2, .int (u11_ 1)), (3, .int (u11_ 2))]) hx hb dX13_deepest_78 rfl hl (by decide) rfl (fun ls hl => ?_)
                obtain ⟨z79, e_z79⟩ : ∃ z : Int32, z = (u11_ 2) + Int32.ofInt 1 := ⟨_, rfl⟩
                have b_ := zadd (x := (u11_ 2)) (y := Int32.ofInt 1) rfl (show (Int32.ofInt 1).toInt = 1 from by decide) e_z79 (by omega) (by omega)
                refine lv_iinc (v := z79) (lv' := [(3, .int z79), (1, .int z75), (4, .int z28), (0, .ref h0), (2, .int (u11_ 1))]) hx hb dX13_deepest_79 hl (k := 4) rfl e_z79.symm (by decide) rfl (fun ls hl => ?_)
                refine lv_goto (tgt := 11) hx hb dX13_deepest_82 (by decide) ?_
                have hc : va_P (dC, dI) vwCl [(h0, .inr (13, mX13 q0 (upd v0 21 0))), ((q0 52), zi k33 1300 f33)] H ∧ va_D A [(h0, .inr (13, mX13 q0 (upd v0 21 0))), ((q0 52), zi k33 1300 f33)] ∧ va_S A s.heap H locs ∧ lv_has ls 5 [(0, .ref h0), (1, .int z75), (2, .int (u11_ 1)), (3, .int z79)] ∧ (0 ≤ z75.toInt ∧ z75.toInt ≤ 1300) ∧ ((-1300) ≤ (u11_ 1).toInt ∧ (u11_ 1).toInt ≤ 1300) ∧ (0 ≤ z79.toInt ∧ z79.toInt ≤ 1300) ∧ (0 - z79.toInt ≤ (u11_ 1).toInt ∧ (u11_ 1).toInt ≤ z79.toInt) ∧ (z75.toInt ≤ z79.toInt) ∧ (z79.toInt ≤ (v0 53).toInt) ∧ (zDk f33 (v0 53).toInt z79.toInt (u11_ 1).toInt z75.toInt) := ⟨hP, hD, hS, lv_sub hl [3, 1, 4, 0] rfl, ⟨by omega, by omega⟩, ⟨by omega, by omega⟩, ⟨by omega, by omega⟩, by omega, by omega, by omega, by first | exact zDk_0 (by omega) (by omega) (by omega) | exact zDk_s hI11_3 (by omega) (by omega) e_z24 e_z28 (by omega) (by omega) (by omega)⟩
                exact hJ11 H locs ls (fun i => ([z75, (u11_ 1), z79] : List (Int32)).getD i 0) (fun _ => 0) (fun _ => (fun _ => 0)) (fun _ => (fun _ => 0)) hc (show (1300 - z79.toInt).toNat < (1300 - (u11_ 2).toInt).toNat from by omega)
              · skip
                have b_ := zF_ne rfl zk_11 c_
                obtain ⟨z70, e_z70⟩ : ∃ z : Int32, z = (u11_ 1) + Int32.ofInt (-1) := ⟨_, rfl⟩
                have b_ := zadd (x := (u11_ 1)) (y := Int32.ofInt (-1)) rfl (show (Int32.ofInt (-1)).toInt = (-1) from by decide) e_z70 (by omega) (by omega)
                refine lv_iinc (v := z70) (lv' := [(2, .int z70), (4, .int z28), (0, .ref h0), (1, .int (u11_ 0)), (3, .int (u11_ 2))]) hx hb dX13_deepest_70 hl (k := 3) rfl e_z70.symm (by decide) rfl (fun ls hl => ?_)
                refine lv_iload_n hx hb dX13_deepest_73 rfl (lv_at hl 3 rfl) ?_
                refine lv_iload_n hx hb dX13_deepest_74 rfl (lv_at hl 0 rfl) ?_
                refine va_mmax hx hb (by rw [hml]; exact hl.1.symm) hown (hG _ zv2231) (hG _ zv1030) (hG _ zv152) (hG _ zv1031) (Nat.le_of_ble_eq_true rfl) (Nat.le_of_ble_eq_true rfl) (Nat.le_of_ble_eq_true rfl) (Nat.le_of_ble_eq_true rfl) dX13_deepest_75 ?_
                refine lv_topi (fun z75 e_z75 => ?_)
                have b_ := zmax rfl rfl e_z75
                refine lv_istore_n (lv' := [(1, .int z75), (2, .int z70), (4, .int z28), (0, .ref h0), (3, .int (u11_ 2))]) hx hb dX13_deepest_78 rfl hl (by decide) rfl (fun ls hl => ?_)
                obtain ⟨z79, e_z79⟩ : ∃ z : Int32, z = (u11_ 2) + Int32.ofInt 1 := ⟨_, rfl⟩
                have b_ := zadd (x := (u11_ 2)) (y := Int32.ofInt 1) rfl (show (Int32.ofInt 1).toInt = 1 from by decide) e_z79 (by omega) (by omega)
                refine lv_iinc (v := z79) (lv' := [(3, .int z79), (1, .int z75), (2, .int z70), (4, .int z28), (0, .ref h0)]) hx hb dX13_deepest_79 hl (k := 4) rfl e_z79.symm (by decide) rfl (fun ls hl => ?_)
                refine lv_goto (tgt := 11) hx hb dX13_deepest_82 (by decide) ?_
                have hc : va_P (dC, dI) vwCl [(h0, .inr (13, mX13 q0 (upd v0 21 0))), ((q0 52), zi k33 1300 f33)] H ∧ va_D A [(h0, .inr (13, mX13 q0 (upd v0 21 0))), ((q0 52), zi k33 1300 f33)] ∧ va_S A s.heap H locs ∧ lv_has ls 5 [(0, .ref h0), (1, .int z75), (2, .int z70), (3, .int z79)] ∧ (0 ≤ z75.toInt ∧ z75.toInt ≤ 1300) ∧ ((-1300) ≤ z70.toInt ∧ z70.toInt ≤ 1300) ∧ (0 ≤ z79.toInt ∧ z79.toInt ≤ 1300) ∧ (0 - z79.toInt ≤ z70.toInt ∧ z70.toInt ≤ z79.toInt) ∧ (z75.toInt ≤ z79.toInt) ∧ (z79.toInt ≤ (v0 53).toInt) ∧ (zDk f33 (v0 53).toInt z79.toInt z70.toInt z75.toInt) := ⟨hP, hD, hS, lv_sub hl [4, 1, 2, 0] rfl, ⟨by omega, by omega⟩, ⟨by omega, by omega⟩, ⟨by omega, by omega⟩, by omega, by omega, by omega, by first | exact zDk_0 (by omega) (by omega) (by omega) | exact zDk_s hI11_3 (by omega) (by omega) e_z24 e_z28 (by omega) (by omega) (by omega)⟩
                exact hJ11 H locs ls (fun i => ([z75, z70, z79] : List (Int32)).getD i 0) (fun _ => 0) (fun _ => (fun _ => 0)) (fun _ => (fun _ => 0)) hc (show (1300 - z79.toInt).toNat < (1300 - (u11_ 2).toInt).toNat from by omega)
      · skip
        have b_ := zF_gt rfl zk_4 c_
        obtain ⟨z37, e_z37⟩ : ∃ z : Int32, z = (u11_ 1) + Int32.ofInt 1 := ⟨_, rfl⟩
        have b_ := zadd (x := (u11_ 1)) (y := Int32.ofInt 1) rfl (show (Int32.ofInt 1).toInt = 1 from by decide) e_z37 (by omega) (by omega)
        refine lv_iinc (v := z37) (lv' := [(2, .int z37), (4, .int z28), (0, .ref h0), (1, .int (u11_ 0)), (3, .int (u11_ 2))]) hx hb dX13_deepest_37 hl (k := 3) rfl e_z37.symm (by decide) rfl (fun ls hl => ?_)
        refine lv_goto (tgt := 73) hx hb dX13_deepest_40 (by decide) ?_
        refine lv_iload_n hx hb dX13_deepest_73 rfl (lv_at hl 3 rfl) ?_
        refine lv_iload_n hx hb dX13_deepest_74 rfl (lv_at hl 0 rfl) ?_
        refine va_mmax hx hb (by rw [hml]; exact hl.1.symm) hown (hG _ zv2231) (hG _ zv1030) (hG _ zv152) (hG _ zv1031) (Nat.le_of_ble_eq_true rfl) (Nat.le_of_ble_eq_true rfl) (Nat.le_of_ble_eq_true rfl) (Nat.le_of_ble_eq_true rfl) dX13_deepest_75 ?_
        refine lv_topi (fun z75 e_z75 => ?_)
        have b_ := zmax rfl rfl e_z75
        refine lv_istore_n (lv' := [(1, .int z75), (2, .int z37), (4, .int z28), (0, .ref h0), (3, .int (u11_ 2))]) hx hb dX13_deepest_78 rfl hl (by decide) rfl (fun ls hl => ?_)
        obtain ⟨z79, e_z79⟩ : ∃ z : Int32, z = (u11_ 2) + Int32.ofInt 1 := ⟨_, rfl⟩
        have b_ := zadd (x := (u11_ 2)) (y := Int32.ofInt 1) rfl (show (Int32.ofInt 1).toInt = 1 from by decide) e_z79 (by omega) (by omega)
        refine lv_iinc (v := z79) (lv' := [(3, .int z79), (1, .int z75), (2, .int z37), (4, .int z28), (0, .ref h0)]) hx hb dX13_deepest_79 hl (k := 4) rfl e_z79.symm (by decide) rfl (fun ls hl => ?_)
        refine lv_goto (tgt := 11) hx hb dX13_deepest_82 (by decide) ?_
        have hc : va_P (dC, dI) vwCl [(h0, .inr (13, mX13 q0 (upd v0 21 0))), ((q0 52), zi k33 1300 f33)] H ∧ va_D A [(h0, .inr (13, mX13 q0 (upd v0 21 0))), ((q0 52), zi k33 1300 f33)] ∧ va_S A s.heap H locs ∧ lv_has ls 5 [(0, .ref h0), (1, .int z75), (2, .int z37), (3, .int z79)] ∧ (0 ≤ z75.toInt ∧ z75.toInt ≤ 1300) ∧ ((-1300) ≤ z37.toInt ∧ z37.toInt ≤ 1300) ∧ (0 ≤ z79.toInt ∧ z79.toInt ≤ 1300) ∧ (0 - z79.toInt ≤ z37.toInt ∧ z37.toInt ≤ z79.toInt) ∧ (z75.toInt ≤ z79.toInt) ∧ (z79.toInt ≤ (v0 53).toInt) ∧ (zDk f33 (v0 53).toInt z79.toInt z37.toInt z75.toInt) := ⟨hP, hD, hS, lv_sub hl [4, 1, 2, 0] rfl, ⟨by omega, by omega⟩, ⟨by omega, by omega⟩, ⟨by omega, by omega⟩, by omega, by omega, by omega, by first | exact zDk_0 (by omega) (by omega) (by omega) | exact zDk_s hI11_3 (by omega) (by omega) e_z24 e_z28 (by omega) (by omega) (by omega)⟩
        exact hJ11 H locs ls (fun i => ([z75, z37, z79] : List (Int32)).getD i 0) (fun _ => 0) (fun _ => (fun _ => 0)) (fun _ => (fun _ => 0)) hc (show (1300 - z79.toInt).toNat < (1300 - (u11_ 2).toInt).toNat from by omega)
  · skip
    have hc : va_P (dC, dI) vwCl [(h0, .inr (13, mX13 q0 (upd v0 21 0))), ((q0 52), zi k33 1300 f33)] H ∧ va_D A [(h0, .inr (13, mX13 q0 (upd v0 21 0))), ((q0 52), zi k33 1300 f33)] ∧ va_S A s.heap H locs ∧ lv_has ls 5 [(0, .ref h0), (1, .int 0), (2, .int 0), (3, .int 0)] ∧ (0 ≤ (0 : Int32).toInt ∧ (0 : Int32).toInt ≤ 1300) ∧ ((-1300) ≤ (0 : Int32).toInt ∧ (0 : Int32).toInt ≤ 1300) ∧ (0 ≤ (0 : Int32).toInt ∧ (0 : Int32).toInt ≤ 1300) ∧ (0 - (0 : Int32).toInt ≤ (0 : Int32).toInt ∧ (0 : Int32).toInt ≤ (0 : Int32).toInt) ∧ ((0 : Int32).toInt ≤ (0 : Int32).toInt) ∧ ((0 : Int32).toInt ≤ (v0 53).toInt) ∧ (zDk f33 (v0 53).toInt (0 : Int32).toInt (0 : Int32).toInt (0 : Int32).toInt) := ⟨hP, hD, hS, lv_sub hl [3, 2, 1, 0] rfl, ⟨by omega, by omega⟩, ⟨by omega, by omega⟩, ⟨by omega, by omega⟩, by omega, by omega, by omega, by first | exact zDk_0 (by omega) (by omega) (by omega) | exact zDk_s hI11_3 (by omega) (by omega) e_z24 e_z28 (by omega) (by omega) (by omega)⟩
    exact hJ11 H locs ls (fun i => ([0, 0, 0] : List (Int32)).getD i 0) (fun _ => 0) (fun _ => (fun _ => 0)) (fun _ => (fun _ => 0)) hc
set_option maxHeartbeats 8000000 in
set_option maxRecDepth 100000 in
theorem sX13_wrong_0 (l : Launch) (dC : Nat → ClassId) (dI : Nat → Nat → Nat) (adK adV : Nat → Nat) (h0 : Nat) (q0 : Nat → Nat) (sz : Nat) (v0 : Nat → Int32) (x1 : Int32) (x2 : Int32) (hv0 : zR rg_Model v0) : Met l yX13_wrong (zw yX13_wrong cX13_wrong 3 (some (.object "GammaShelfModel$Stop"))) { frames := 0, cells := 0, slots := 0, locals := 0 } (zPc dC dI adK adV [.ref h0, .int x1, .int x2] sz [(h0, .inr (13, mX13 q0 v0))] []) (va_Qr (fun (u : Nat → Int32) => True) (fun (u : Nat → Int32) (ra : Nat) (t : State) => ra = (q0 31) ∧ ∃ (ww : Nat → Int64) (aa : Nat → Nat → Int32) (bb : Nat → Nat → Int64), va_P (dC, dI) vwCl [(h0, .inr (13, mX13 q0 (upd (upd v0 32 (u 0)) 33 (u 1))))] t.heap ∧ va_K (dC, dI) vwCl [] t ∧ va_D (va_A [(h0, .inr (13, mX13 q0 v0))] sz) [(h0, .inr (13, mX13 q0 (upd (upd v0 32 (u 0)) 33 (u 1))))]) (va_A [(h0, .inr (13, mX13 q0 v0))] sz)) 0 0 (va_A [(h0, .inr (13, mX13 q0 v0))] sz) := by
  refine Met.ofW (cc := cX13_wrong) (maxL := 3) (ret := (some (.object "GammaShelfModel$Stop"))) (by decide) rfl ?_
  intro p e s m args below meth c s₁ B hml hv
  obtain ⟨rfl, hsz, hP, hK, hD0, hE, hZ⟩ := hv
  have hx := B.exec
  have hb := B.bytes
  have hr := B.returns
  have hG : ∀ w ∈ zG, w.before _ s = true := fun w h => atoms_spec (ws := (zw yX13_wrong cX13_wrong 3 (some (.object "GammaShelfModel$Stop")))) B.pre w (List.mem_cons_of_mem _ h)
  have hown : s.vm.findClass RX13 = some m.cls := findClass_of_methodNamed B.named
  have hlocks := B.notSynchronized

  subst hsz
  have hD := hD0.self (sz := s.heap.size)
  generalize hAe : va_A [(h0, .inr (13, mX13 q0 v0))] s.heap.size = A at hD hZ ⊢
  have hA : ∀ q : Nat, s.heap.size ≤ q → A q := fun q h => by rw [← hAe]; exact Or.inr h
  have hS : va_S A s.heap s.heap [] := va_S.rf
  have hl := lv_entry ([.ref h0, .int x1, .int x2]) (n := 3) (Nat.le_of_ble_eq_true rfl)
  rw [lg_entry_eq]
  generalize (lg_sl ([.ref h0, .int x1, .int x2]) ++ List.replicate (3 - (lg_sl ([.ref h0, .int x1, .int x2])).length) Slot.unset).toArray = ls at hl ⊢
  have hl : lv_has ls 3 [(0, .ref h0), (1, .int x1), (2, .int x2)] := hl
  refine lv_aload_n hx hb dX13_wrong_0 rfl (lv_at hl 0 rfl) ?_
  refine lv_iload_n hx hb dX13_wrong_1 rfl (lv_at hl 1 rfl) ?_
  refine va_put (D := (dC, dI)) (ci := 13) (v := .int x1) (ty := .int) (C := RX13) (T := TX13) (N := 75) hx hb hG zuX13 tyX13 tyX13_ok nmX13 hown hK hP hD hS 0 rfl rfl 32 (by decide) (hG _ zv1636) (fun _ h9 => h9) rfl (by decide +kernel) rfl rfl (Nat.le_of_ble_eq_true rfl) dX13_wrong_2 (fun H locs hP hD hS => ?_)
  have hP : va_P (dC, dI) vwCl [(h0, .inr (13, mX13 q0 (upd v0 32 x1)))] H := hP
  have hD : va_D A [(h0, .inr (13, mX13 q0 (upd v0 32 x1)))] := hD
  refine lv_aload_n hx hb dX13_wrong_5 rfl (lv_at hl 0 rfl) ?_
  refine lv_iload_n hx hb dX13_wrong_6 rfl (lv_at hl 2 rfl) ?_
  refine va_put (D := (dC, dI)) (ci := 13) (v := .int x2) (ty := .int) (C := RX13) (T := TX13) (N := 75) hx hb hG zuX13 tyX13 tyX13_ok nmX13 hown hK hP hD hS 0 rfl rfl 33 (by decide) (hG _ zv1637) (fun _ h9 => h9) rfl (by decide +kernel) rfl rfl (Nat.le_of_ble_eq_true rfl) dX13_wrong_7 (fun H locs hP hD hS => ?_)
  have hP : va_P (dC, dI) vwCl [(h0, .inr (13, mX13 q0 (upd (upd v0 32 x1) 33 x2)))] H := hP
  have hD : va_D A [(h0, .inr (13, mX13 q0 (upd (upd v0 32 x1) 33 x2)))] := hD
  refine lv_aload_n hx hb dX13_wrong_10 rfl (lv_at hl 0 rfl) ?_
  refine va_get (D := (dC, dI)) (ci := 13) (v := .ref (q0 31)) (C := RX13) (T := TX13) (N := 75) hx hb hG zuX13 hown hK hP 0 rfl rfl 31 (by decide) (hG _ zv1635) (fun _ h9 => h9) rfl dX13_wrong_11 ?_
  refine W.widen (k := 0) (n := 0) (by decide) (by decide) ?_
  have b_ : -2147483648 ≤ x1.toInt ∧ x1.toInt ≤ 2147483647 := ⟨zlo _, zhi _⟩
  have b_ : -2147483648 ≤ x2.toInt ∧ x2.toInt ≤ 2147483647 := ⟨zlo _, zhi _⟩
  have hpost : True := trivial
  have hP9 : va_P (dC, dI) vwCl [(h0, .inr (13, mX13 q0 (upd (upd v0 32 x1) 33 x2)))] H := hP
  have hD9 : va_D A [(h0, .inr (13, mX13 q0 (upd (upd v0 32 x1) 33 x2)))] := hD
  exact W.aret (v := .ref (q0 31)) hx hb hr (Or.inl ⟨_, rfl⟩) (Or.inr ⟨_, rfl⟩) (fun t ht hW => ⟨⟨(fun i => ([x1, x2] : List (Int32)).getD i 0), (q0 31), rfl, hpost, rfl, (fun _ => 0), (fun _ => (fun _ => 0)), (fun _ => (fun _ => 0)), by rw [ht]; exact hP9, va_K.moved hW.alike hK, hD9⟩, hS.F ht⟩) hS.2.2 dX13_wrong_14
set_option maxHeartbeats 8000000 in
set_option maxRecDepth 100000 in
theorem sX13_leaf_0 (l : Launch) (dC : Nat → ClassId) (dI : Nat → Nat → Nat) (adK adV : Nat → Nat) (h0 : Nat) (q0 : Nat → Nat) (k27 : ClassId) (sz : Nat) (v0 : Nat → Int32) (f27 : Nat → Int32) (sf22 : List Value) (x1 : Int32) (hv0 : zR rg_Model v0) : vx_Met l yX13_leaf (zw yX13_leaf cX13_leaf 2 (some .int)) { frames := 1, cells := 0, slots := 0, locals := 22 } (zPc dC dI adK adV [.ref h0, .int x1] sz [(h0, .inr (13, mX13 q0 v0)), ((q0 43), zi k27 40 f27), ((q0 31), .inr (12, sf22))] [(k27, .int)]) (va_Qi (fun (r : Int32) (u : Nat → Int32) => (0 ≤ r.toInt ∧ r.toInt ≤ 39) ∧ (1 ≤ (u 2).toInt ∧ (u 2).toInt ≤ 40) ∧ (r.toInt = (v0 47).toInt) ∧ ((u 2).toInt = (v0 47).toInt + 1) ∧ ((v0 47).toInt < 40)) (fun (u : Nat → Int32) (t : State) => ∃ (ww : Nat → Int64) (aa : Nat → Nat → Int32) (bb : Nat → Nat → Int64), ((aa 0) = upd f27 ((v0 47)).toNatClampNeg (x1 : Int32)) ∧ va_P (dC, dI) vwCl [(h0, .inr (13, mX13 q0 (upd (upd (upd v0 32 (u 0)) 33 (u 1)) 47 (u 2)))), ((q0 43), zi k27 40 (aa 0)), ((q0 31), .inr (12, sf22))] t.heap ∧ va_K (dC, dI) vwCl [(k27, .int)] t ∧ va_D (va_A [(h0, .inr (13, mX13 q0 v0)), ((q0 43), zi k27 40 f27), ((q0 31), .inr (12, sf22))] sz) [(h0, .inr (13, mX13 q0 (upd (upd (upd v0 32 (u 0)) 33 (u 1)) 47 (u 2)))), ((q0 43), zi k27 40 (aa 0)), ((q0 31), .inr (12, sf22))]) (va_A [(h0, .inr (13, mX13 q0 v0)), ((q0 43), zi k27 40 f27), ((q0 31), .inr (12, sf22))] sz)) (vx_X (fun (u : Nat → Int32) => (40 ≤ (u 2).toInt ∧ (u 2).toInt ≤ 40) ∧ (40 ≤ (v0 47).toInt)) (fun (E : String) (u : Nat → Int32) (t : State) => E = RX12 ∧ ∃ (ww : Nat → Int64) (aa : Nat → Nat → Int32) (bb : Nat → Nat → Int64), va_P (dC, dI) vwCl [(h0, .inr (13, mX13 q0 (upd (upd (upd v0 32 (u 0)) 33 (u 1)) 47 (u 2)))), ((q0 43), zi k27 40 (aa 0)), ((q0 31), .inr (12, sf22))] t.heap ∧ va_K (dC, dI) vwCl [(k27, .int)] t ∧ va_D (va_A [(h0, .inr (13, mX13 q0 v0)), ((q0 43), zi k27 40 f27), ((q0 31), .inr (12, sf22))] sz) [(h0, .inr (13, mX13 q0 (upd (upd (upd v0 32 (u 0)) 33 (u 1)) 47 (u 2)))), ((q0 43), zi k27 40 (aa 0)), ((q0 31), .inr (12, sf22))]) (va_A [(h0, .inr (13, mX13 q0 v0)), ((q0 43), zi k27 40 f27), ((q0 31), .inr (12, sf22))] sz)) 0 0 (va_A [(h0, .inr (13, mX13 q0 v0)), ((q0 43), zi k27 40 f27), ((q0 31), .inr (12, sf22))] sz) := by
  refine vx_ofW (cc := cX13_leaf) (maxL := 2) (ret := (some .int)) (by decide) rfl ?_
  intro p e s m args below meth c s₁ B hml hout hv
  obtain ⟨rfl, hsz, hP, hK, hD0, hE, hZ⟩ := hv
  have hx := B.exec
  have hb := B.bytes
  have hr := B.returns
  have hG : ∀ w ∈ zG, w.before _ s = true := fun w h => atoms_spec (ws := (zw yX13_leaf cX13_leaf 2 (some .int))) B.pre w (List.mem_cons_of_mem _ h)
  have hown : s.vm.findClass RX13 = some m.cls := findClass_of_methodNamed B.named
  have hlocks := B.notSynchronized

  subst hsz
  have hD := hD0.self (sz := s.heap.size)
  generalize hAe : va_A [(h0, .inr (13, mX13 q0 v0)), ((q0 43), zi k27 40 f27), ((q0 31), .inr (12, sf22))] s.heap.size = A at hD hZ ⊢
  have hA : ∀ q : Nat, s.heap.size ≤ q → A q := fun q h => by rw [← hAe]; exact Or.inr h
  have hS : va_S A s.heap s.heap [] := va_S.rf
  have hl := lv_entry ([.ref h0, .int x1]) (n := 2) (Nat.le_of_ble_eq_true rfl)
  rw [lg_entry_eq]
  generalize (lg_sl ([.ref h0, .int x1]) ++ List.replicate (2 - (lg_sl ([.ref h0, .int x1])).length) Slot.unset).toArray = ls at hl ⊢
  have hl : lv_has ls 2 [(0, .ref h0), (1, .int x1)] := hl
  have b_ : 0 ≤ (v0 47).toInt ∧ (v0 47).toInt ≤ 40 := hv0 47
  refine lv_aload_n hx hb dX13_leaf_0 rfl (lv_at hl 0 rfl) ?_
  refine va_get (D := (dC, dI)) (ci := 13) (v := .int (v0 47)) (C := RX13) (T := TX13) (N := 75) hx hb hG zuX13 hown hK hP 0 rfl rfl 47 (by decide) (hG _ zv1651) (fun _ h9 => h9) rfl dX13_leaf_1 ?_
  refine lv_bipush (v := 40) hx hb dX13_leaf_4 (by decide) ?_
  refine lv_icmp_ne (tgt := 19) hx hb dX13_leaf_6 (by decide) (fun c_ => ?_) (fun c_ => ?_)
  · skip
    have b_ := zT_ne rfl zk_40 c_
    refine lv_aload_n hx hb dX13_leaf_19 rfl (lv_at hl 0 rfl) ?_
    refine va_get (D := (dC, dI)) (ci := 13) (v := .ref (q0 43)) (C := RX13) (T := TX13) (N := 75) hx hb hG zuX13 hown hK hP 0 rfl rfl 43 (by decide) (hG _ zv1647) (fun _ h9 => h9) rfl dX13_leaf_20 ?_
    refine lv_aload_n hx hb dX13_leaf_23 rfl (lv_at hl 0 rfl) ?_
    refine va_get (D := (dC, dI)) (ci := 13) (v := .int (v0 47)) (C := RX13) (T := TX13) (N := 75) hx hb hG zuX13 hown hK hP 0 rfl rfl 47 (by decide) (hG _ zv1651) (fun _ h9 => h9) rfl dX13_leaf_24 ?_
    refine lv_iload_n hx hb dX13_leaf_27 rfl (lv_at hl 1 rfl) ?_
    refine va_iast hx hb hK hP hD hS 1 0 rfl rfl (zin_lit ⟨by omega, by omega⟩) dX13_leaf_28 (fun H locs hP hD hS => ?_)
    obtain ⟨f_28, e_f_28⟩ : ∃ z : Nat → Int32, z = upd f27 ((v0 47) : Int32).toNatClampNeg x1 := ⟨_, rfl⟩
    have hP : va_P (dC, dI) vwCl [(h0, .inr (13, mX13 q0 v0)), ((q0 43), zi k27 40 f_28), ((q0 31), .inr (12, sf22))] H := by rw [e_f_28]; exact hP
    have hD : va_D A [(h0, .inr (13, mX13 q0 v0)), ((q0 43), zi k27 40 f_28), ((q0 31), .inr (12, sf22))] := by rw [e_f_28]; exact hD
    refine lv_aload_n hx hb dX13_leaf_29 rfl (lv_at hl 0 rfl) ?_
    refine lv_dup hx hb dX13_leaf_30 rfl ?_
    refine va_get (D := (dC, dI)) (ci := 13) (v := .int (v0 47)) (C := RX13) (T := TX13) (N := 75) hx hb hG zuX13 hown hK hP 0 rfl rfl 47 (by decide) (hG _ zv1651) (fun _ h9 => h9) rfl dX13_leaf_31 ?_
    refine lv_iconst (v := 1) hx hb dX13_leaf_34 (by decide) ?_
    refine lv_iadd hx hb dX13_leaf_35 ?_
    refine lv_topi (fun z35 e_z35 => ?_)
    have b_ := zadd rfl zk_1 e_z35 (by omega) (by omega)
    refine va_put (D := (dC, dI)) (ci := 13) (v := .int z35) (ty := .int) (C := RX13) (T := TX13) (N := 75) hx hb hG zuX13 tyX13 tyX13_ok nmX13 hown hK hP hD hS 0 rfl rfl 47 (by decide) (hG _ zv1651) (fun _ h9 => h9) rfl (by decide +kernel) rfl rfl (Nat.le_of_ble_eq_true rfl) dX13_leaf_36 (fun H locs hP hD hS => ?_)
    have hP : va_P (dC, dI) vwCl [(h0, .inr (13, mX13 q0 (upd v0 47 z35))), ((q0 43), zi k27 40 f_28), ((q0 31), .inr (12, sf22))] H := hP
    have hD : va_D A [(h0, .inr (13, mX13 q0 (upd v0 47 z35))), ((q0 43), zi k27 40 f_28), ((q0 31), .inr (12, sf22))] := hD
    refine lv_aload_n hx hb dX13_leaf_39 rfl (lv_at hl 0 rfl) ?_
    refine va_get (D := (dC, dI)) (ci := 13) (v := .int z35) (C := RX13) (T := TX13) (N := 75) hx hb hG zuX13 hown hK hP 0 rfl rfl 47 (by decide) (hG _ zv1651) (fun _ h9 => h9) rfl dX13_leaf_40 ?_
    refine lv_iconst (v := 1) hx hb dX13_leaf_43 (by decide) ?_
    refine lv_isub hx hb dX13_leaf_44 ?_
    refine lv_topi (fun z44 e_z44 => ?_)
    have b_ := zsub rfl zk_1 e_z44 (by omega) (by omega)
    refine W.widen (k := 0) (n := 0) (by decide) (by decide) ?_
    have b_ : -2147483648 ≤ (v0 32).toInt ∧ (v0 32).toInt ≤ 2147483647 := ⟨zlo _, zhi _⟩
    have b_ : -2147483648 ≤ (v0 33).toInt ∧ (v0 33).toInt ≤ 2147483647 := ⟨zlo _, zhi _⟩
    have hpost : (0 ≤ z44.toInt ∧ z44.toInt ≤ 39) ∧ (1 ≤ z35.toInt ∧ z35.toInt ≤ 40) ∧ (z44.toInt = (v0 47).toInt) ∧ (z35.toInt = (v0 47).toInt + 1) ∧ ((v0 47).toInt < 40) := ⟨⟨by omega, by omega⟩, ⟨by omega, by omega⟩, by omega, by omega, by omega⟩
    have hP9 : va_P (dC, dI) vwCl [(h0, .inr (13, mX13 q0 (upd (upd (upd v0 32 (v0 32)) 33 (v0 33)) 47 z35))), ((q0 43), zi k27 40 f_28), ((q0 31), .inr (12, sf22))] H := hP
    have hD9 : va_D A [(h0, .inr (13, mX13 q0 (upd (upd (upd v0 32 (v0 32)) 33 (v0 33)) 47 z35))), ((q0 43), zi k27 40 f_28), ((q0 31), .inr (12, sf22))] := hD
    have hB0 : f_28 = upd f27 ((v0 47)).toNatClampNeg (x1 : Int32) := by first | exact e_f_28 | assumption
    exact vx_ret (W.iret (v := z44) hx hb hr (fun t ht hW => ⟨⟨z44, (fun i => ([(v0 32), (v0 33), z35] : List (Int32)).getD i 0), rfl, hpost, (fun _ => 0), (fun i => ([f_28] : List (Nat → Int32)).getD i (fun _ => 0)), (fun _ => (fun _ => 0)), hB0, by rw [ht]; exact hP9, va_K.moved hW.alike hK, hD9⟩, hS.F ht⟩) hS.2.2 dX13_leaf_45)
  · skip
    have b_ := zF_ne rfl zk_40 c_
    refine lv_aload_n hx hb dX13_leaf_9 rfl (lv_at hl 0 rfl) ?_
    refine lv_iconst (v := 3) hx hb dX13_leaf_10 (by decide) ?_
    refine lv_aload_n hx hb dX13_leaf_11 rfl (lv_at hl 0 rfl) ?_
    have b_ : 0 ≤ (v0 37).toInt ∧ (v0 37).toInt ≤ 600 := hv0 37
    refine va_get (D := (dC, dI)) (ci := 13) (v := .int (v0 37)) (C := RX13) (T := TX13) (N := 75) hx hb hG zuX13 hown hK hP 0 rfl rfl 37 (by decide) (hG _ zv1641) (fun _ h9 => h9) rfl dX13_leaf_12 ?_
    have hPc := hP.sub (ws' := [(h0, .inr (13, mX13 q0 v0))]) [0] rfl
    have hDc := hD.sub (ws' := [(h0, .inr (13, mX13 q0 v0))]) [0] (by decide) rfl
    have hKc := hK.sub (tys' := []) [] rfl
    have hFc := va_free (wc := [(h0, .inr (13, mX13 q0 v0))]) hD hS hA [0] rfl
    refine va_callr (va_runV (As := [.int 3, .int (v0 37)]) (rest := []) ⟨hx, hb, hml, hown, hG⟩ (sX13_wrong_0 l dC dI adK adV h0 q0 s.heap.size v0 3 (v0 37) hv0) (cwV 2 hG (zgV zv2070 zv2072 zv89 zv142 zv2073) rfl rfl rfl (by decide +kernel) ⟨Nat.le_of_ble_eq_true rfl, Nat.le_of_ble_eq_true rfl⟩) ⟨zPc_blind, va_recv hKc hPc (ci := 13) (q0 := 0) rfl rfl, zPc_pre hPc hKc hDc hE hS hFc hZ⟩ rfl rfl hl.1 rfl (lv_room (Nat.le_of_ble_eq_true rfl)) dX13_leaf_15 ⟨Nat.le_of_ble_eq_true rfl, Nat.le_of_ble_eq_true rfl⟩) hS (fun q _ h => hFc q h) hFc (fun u15_ r15_ t H1 locs ht hvm hw hB hz1 hk1 hS => ?_)
    obtain ⟨hra, hB⟩ := hB
    subst hra
    obtain ⟨w15_, a15_, b15_, hP1, hK1, hD1⟩ := hB
    rw [ht] at hP1
    obtain ⟨hP, hD⟩ := va_join (wr := [((q0 43), zi k27 40 f27), ((q0 31), .inr (12, sf22))]) (w1 := [(h0, .inr (13, mX13 q0 (upd (upd v0 32 (u15_ 0)) 33 (u15_ 1))))]) hP hD [0] [1, 2] rfl rfl (by decide) (by decide) hk1 hFc hP1 hD1
    have hP : va_P (dC, dI) vwCl [(h0, .inr (13, mX13 q0 (upd (upd v0 32 (u15_ 0)) 33 (u15_ 1)))), ((q0 43), zi k27 40 f27), ((q0 31), .inr (12, sf22))] H1 := hP.sub [2, 0, 1] rfl
    have hD : va_D A [(h0, .inr (13, mX13 q0 (upd (upd v0 32 (u15_ 0)) 33 (u15_ 1)))), ((q0 43), zi k27 40 f27), ((q0 31), .inr (12, sf22))] := hD.sub [2, 0, 1] (by decide) rfl
    generalize H1 = H at hP hS ⊢
    clear hz1
    have b_ : -2147483648 ≤ (u15_ 0).toInt ∧ (u15_ 0).toInt ≤ 2147483647 := ⟨zlo _, zhi _⟩
    have b_ : -2147483648 ≤ (u15_ 1).toInt ∧ (u15_ 1).toInt ≤ 2147483647 := ⟨zlo _, zhi _⟩
    have hpost : (40 ≤ (v0 47).toInt ∧ (v0 47).toInt ≤ 40) ∧ (40 ≤ (v0 47).toInt) := ⟨⟨by omega, by omega⟩, by omega⟩
    have hP9 : va_P (dC, dI) vwCl [(h0, .inr (13, mX13 q0 (upd (upd (upd v0 32 (u15_ 0)) 33 (u15_ 1)) 47 (v0 47)))), ((q0 43), zi k27 40 f27), ((q0 31), .inr (12, sf22))] H := hP
    have hD9 : va_D A [(h0, .inr (13, mX13 q0 (upd (upd (upd v0 32 (u15_ 0)) 33 (u15_ 1)) 47 (v0 47)))), ((q0 43), zi k27 40 f27), ((q0 31), .inr (12, sf22))] := hD
    obtain ⟨ce, hce, hcv, hcl⟩ := zthrown hK hP (ci := 12) (q0 := 2) rfl rfl
    exact z_athrow (E := RX12) hx hb (fun x h => (hout x h).elim) hlocks hce hcv hcl dX13_leaf_18 (fun t ht hvm => ⟨(fun i => ([(u15_ 0), (u15_ 1), (v0 47)] : List (Int32)).getD i 0), hpost, ⟨rfl, (fun _ => 0), (fun i => ([f27] : List (Nat → Int32)).getD i (fun _ => 0)), (fun _ => (fun _ => 0)), by rw [ht]; exact hP9, va_K.moved hvm hK, hD9⟩, hS.F ht⟩) hS.2.2 (by decide) (by decide)
set_option maxHeartbeats 8000000 in
set_option maxRecDepth 100000 in
theorem sX13_byteAt_0 (l : Launch) (dC : Nat → ClassId) (dI : Nat → Nat → Nat) (adK adV : Nat → Nat) (h0 : Nat) (q0 : Nat → Nat) (k1 : ClassId) (sz : Nat) (v0 : Nat → Int32) (f1 : Nat → Int32) (x1 : Int32) (hv0 : zR rg_Model v0) (hx1 : 0 ≤ x1.toInt ∧ x1.toInt ≤ 602) : Met l yX13_byteAt (zw yX13_byteAt cX13_byteAt 2 (some .int)) { frames := 0, cells := 0, slots := 0, locals := 0 } (zPc dC dI adK adV [.ref h0, .int x1] sz [(h0, .inr (13, mX13 q0 v0)), ((q0 0), zi k1 600 f1)] [(k1, .byte)]) (va_Qi (fun (r : Int32) (u : Nat → Int32) => (r.toInt ≠ 0 → x1.toInt < (v0 34).toInt) ∧ (x1.toInt < (v0 34).toInt → r.toInt = (f1 ((x1 : Int32)).toNatClampNeg).toInt) ∧ ((v0 34).toInt ≤ x1.toInt → r.toInt = 0)) (fun (u : Nat → Int32) (t : State) => ∃ (ww : Nat → Int64) (aa : Nat → Nat → Int32) (bb : Nat → Nat → Int64), va_P (dC, dI) vwCl [(h0, .inr (13, mX13 q0 v0)), ((q0 0), zi k1 600 f1)] t.heap ∧ va_K (dC, dI) vwCl [(k1, .byte)] t ∧ va_D (va_A [(h0, .inr (13, mX13 q0 v0)), ((q0 0), zi k1 600 f1)] sz) [(h0, .inr (13, mX13 q0 v0)), ((q0 0), zi k1 600 f1)]) (va_A [(h0, .inr (13, mX13 q0 v0)), ((q0 0), zi k1 600 f1)] sz)) 0 0 (va_A [(h0, .inr (13, mX13 q0 v0)), ((q0 0), zi k1 600 f1)] sz) := by
  refine Met.ofW (cc := cX13_byteAt) (maxL := 2) (ret := (some .int)) (by decide) rfl ?_
  intro p e s m args below meth c s₁ B hml hv
  obtain ⟨rfl, hsz, hP, hK, hD0, hE, hZ⟩ := hv
  have hx := B.exec
  have hb := B.bytes
  have hr := B.returns
  have hG : ∀ w ∈ zG, w.before _ s = true := fun w h => atoms_spec (ws := (zw yX13_byteAt cX13_byteAt 2 (some .int))) B.pre w (List.mem_cons_of_mem _ h)
  have hown : s.vm.findClass RX13 = some m.cls := findClass_of_methodNamed B.named
  have hlocks := B.notSynchronized

  subst hsz
  have hD := hD0.self (sz := s.heap.size)
  generalize hAe : va_A [(h0, .inr (13, mX13 q0 v0)), ((q0 0), zi k1 600 f1)] s.heap.size = A at hD hZ ⊢
  have hA : ∀ q : Nat, s.heap.size ≤ q → A q := fun q h => by rw [← hAe]; exact Or.inr h
  have hS : va_S A s.heap s.heap [] := va_S.rf
  have hl := lv_entry ([.ref h0, .int x1]) (n := 2) (Nat.le_of_ble_eq_true rfl)
  rw [lg_entry_eq]
  generalize (lg_sl ([.ref h0, .int x1]) ++ List.replicate (2 - (lg_sl ([.ref h0, .int x1])).length) Slot.unset).toArray = ls at hl ⊢
  have hl : lv_has ls 2 [(0, .ref h0), (1, .int x1)] := hl
  have b_ := zk_0
  have b_ : 0 ≤ (v0 34).toInt ∧ (v0 34).toInt ≤ 600 := hv0 34
  refine lv_iload_n hx hb dX13_byteAt_0 rfl (lv_at hl 1 rfl) ?_
  refine lv_aload_n hx hb dX13_byteAt_1 rfl (lv_at hl 0 rfl) ?_
  refine va_get (D := (dC, dI)) (ci := 13) (v := .int (v0 34)) (C := RX13) (T := TX13) (N := 75) hx hb hG zuX13 hown hK hP 0 rfl rfl 34 (by decide) (hG _ zv1638) (fun _ h9 => h9) rfl dX13_byteAt_2 ?_
  refine lv_icmp_ge (tgt := 17) hx hb dX13_byteAt_5 (by decide) (fun c_ => ?_) (fun c_ => ?_)
  · skip
    have b_ := zT_ge rfl rfl c_
    refine lv_iconst (v := 0) hx hb dX13_byteAt_17 (by decide) ?_
    refine W.widen (k := 0) (n := 0) (by decide) (by decide) ?_
    have hpost : ((0 : Int32).toInt ≠ 0 → x1.toInt < (v0 34).toInt) ∧ (x1.toInt < (v0 34).toInt → (0 : Int32).toInt = (f1 ((x1 : Int32)).toNatClampNeg).toInt) ∧ ((v0 34).toInt ≤ x1.toInt → (0 : Int32).toInt = 0) := ⟨by omega, by first | (intro _; omega) | (intro _; rw [e_z13]), by omega⟩
    have hP9 : va_P (dC, dI) vwCl [(h0, .inr (13, mX13 q0 v0)), ((q0 0), zi k1 600 f1)] s.heap := hP
    have hD9 : va_D A [(h0, .inr (13, mX13 q0 v0)), ((q0 0), zi k1 600 f1)] := hD
    exact W.iret (v := 0) hx hb hr (fun t ht hW => ⟨⟨0, (fun _ => 0), rfl, hpost, (fun _ => 0), (fun _ => (fun _ => 0)), (fun _ => (fun _ => 0)), by rw [ht]; exact hP9, va_K.moved hW.alike hK, hD9⟩, hS.F ht⟩) hS.2.2 dX13_byteAt_18
  · skip
    have b_ := zF_ge rfl rfl c_
    refine lv_aload_n hx hb dX13_byteAt_8 rfl (lv_at hl 0 rfl) ?_
    refine va_get (D := (dC, dI)) (ci := 13) (v := .ref (q0 0)) (C := RX13) (T := TX13) (N := 75) hx hb hG zuX13 hown hK hP 0 rfl rfl 0 (by decide) (hG _ zv1604) (fun _ h9 => h9) rfl dX13_byteAt_9 ?_
    refine lv_iload_n hx hb dX13_byteAt_12 rfl (lv_at hl 1 rfl) ?_
    refine va_bald hx hb hK hP 1 0 rfl rfl (zin_lit ⟨by omega, by omega⟩) dX13_byteAt_13 ?_
    refine lv_topi (fun z13 e_z13 => ?_)
    refine lv_goto (tgt := 18) hx hb dX13_byteAt_14 (by decide) ?_
    refine W.widen (k := 0) (n := 0) (by decide) (by decide) ?_
    have b_ : -2147483648 ≤ z13.toInt ∧ z13.toInt ≤ 2147483647 := ⟨zlo _, zhi _⟩
    have hpost : (z13.toInt ≠ 0 → x1.toInt < (v0 34).toInt) ∧ (x1.toInt < (v0 34).toInt → z13.toInt = (f1 ((x1 : Int32)).toNatClampNeg).toInt) ∧ ((v0 34).toInt ≤ x1.toInt → z13.toInt = 0) := ⟨by omega, by first | (intro _; omega) | (intro _; rw [e_z13]), by omega⟩
    have hP9 : va_P (dC, dI) vwCl [(h0, .inr (13, mX13 q0 v0)), ((q0 0), zi k1 600 f1)] s.heap := hP
    have hD9 : va_D A [(h0, .inr (13, mX13 q0 v0)), ((q0 0), zi k1 600 f1)] := hD
    exact W.iret (v := z13) hx hb hr (fun t ht hW => ⟨⟨z13, (fun _ => 0), rfl, hpost, (fun _ => 0), (fun _ => (fun _ => 0)), (fun _ => (fun _ => 0)), by rw [ht]; exact hP9, va_K.moved hW.alike hK, hD9⟩, hS.F ht⟩) hS.2.2 dX13_byteAt_18
set_option maxHeartbeats 8000000 in
set_option maxRecDepth 100000 in
theorem sX13_isBlank_0 (l : Launch) (dC : Nat → ClassId) (dI : Nat → Nat → Nat) (adK adV : Nat → Nat) (h0 : Nat) (sz : Nat) (x1 : Int32) : Met l yX13_isBlank (zw yX13_isBlank cX13_isBlank 2 (some .boolean)) { frames := 0, cells := 0, slots := 0, locals := 0 } (zPc dC dI adK adV [.ref h0, .int x1] sz [] []) (va_Qi (fun (r : Int32) (u : Nat → Int32) => (0 ≤ r.toInt ∧ r.toInt ≤ 1) ∧ (r.toInt = 1 → zBk x1.toInt) ∧ (r.toInt = 0 → ¬ zBk x1.toInt)) (fun (u : Nat → Int32) (t : State) => ∃ (ww : Nat → Int64) (aa : Nat → Nat → Int32) (bb : Nat → Nat → Int64), va_P (dC, dI) vwCl [] t.heap ∧ va_K (dC, dI) vwCl [] t ∧ va_D (va_A [] sz) []) (va_A [] sz)) 0 0 (va_A [] sz) := by
  refine Met.ofW (cc := cX13_isBlank) (maxL := 2) (ret := (some .boolean)) (by decide) rfl ?_
  intro p e s m args below meth c s₁ B hml hv
  obtain ⟨rfl, hsz, hP, hK, hD0, hE, hZ⟩ := hv
  have hx := B.exec
  have hb := B.bytes
  have hr := B.returns
  have hG : ∀ w ∈ zG, w.before _ s = true := fun w h => atoms_spec (ws := (zw yX13_isBlank cX13_isBlank 2 (some .boolean))) B.pre w (List.mem_cons_of_mem _ h)
  have hown : s.vm.findClass RX13 = some m.cls := findClass_of_methodNamed B.named
  have hlocks := B.notSynchronized

  subst hsz
  have hD := hD0.self (sz := s.heap.size)
  generalize hAe : va_A [] s.heap.size = A at hD hZ ⊢
  have hA : ∀ q : Nat, s.heap.size ≤ q → A q := fun q h => by rw [← hAe]; exact Or.inr h
  have hS : va_S A s.heap s.heap [] := va_S.rf
  have hl := lv_entry ([.ref h0, .int x1]) (n := 2) (Nat.le_of_ble_eq_true rfl)
  rw [lg_entry_eq]
  generalize (lg_sl ([.ref h0, .int x1]) ++ List.replicate (2 - (lg_sl ([.ref h0, .int x1])).length) Slot.unset).toArray = ls at hl ⊢
  have hl : lv_has ls 2 [(0, .ref h0), (1, .int x1)] := hl
  have b_ := zk_0
  have b_ := zk_1
  refine lv_iload_n hx hb dX13_isBlank_0 rfl (lv_at hl 1 rfl) ?_
  refine lv_bipush (v := 32) hx hb dX13_isBlank_1 (by decide) ?_
  have b_ : -2147483648 ≤ x1.toInt ∧ x1.toInt ≤ 2147483647 := ⟨zlo _, zhi _⟩
  refine lv_icmp_eq (tgt := 12) hx hb dX13_isBlank_3 (by decide) (fun c_ => ?_) (fun c_ => ?_)
  · skip
    have b_ := zT_eq rfl zk_32 c_
    refine lv_iconst (v := 1) hx hb dX13_isBlank_12 (by decide) ?_
    refine lv_goto (tgt := 17) hx hb dX13_isBlank_13 (by decide) ?_
    refine W.widen (k := 0) (n := 0) (by decide) (by decide) ?_
    have hpost : (0 ≤ (1 : Int32).toInt ∧ (1 : Int32).toInt ≤ 1) ∧ ((1 : Int32).toInt = 1 → zBk x1.toInt) ∧ ((1 : Int32).toInt = 0 → ¬ zBk x1.toInt) := ⟨⟨by omega, by omega⟩, by first | (intro q; exact absurd q (by decide)) | (intro _; unfold zBk; omega), by first | (intro q; exact absurd q (by decide)) | (intro _; unfold zBk; omega)⟩
    have hP9 : va_P (dC, dI) vwCl [] s.heap := hP
    have hD9 : va_D A [] := hD
    exact W.zret (v := 1) hx hb hr rfl (fun t ht hW => ⟨⟨1, (fun _ => 0), rfl, hpost, (fun _ => 0), (fun _ => (fun _ => 0)), (fun _ => (fun _ => 0)), by rw [ht]; exact hP9, va_K.moved hW.alike hK, hD9⟩, hS.F ht⟩) hS.2.2 dX13_isBlank_17
  · skip
    have b_ := zF_eq rfl zk_32 c_
    refine lv_iload_n hx hb dX13_isBlank_6 rfl (lv_at hl 1 rfl) ?_
    refine lv_bipush (v := 10) hx hb dX13_isBlank_7 (by decide) ?_
    refine lv_icmp_ne (tgt := 16) hx hb dX13_isBlank_9 (by decide) (fun c_ => ?_) (fun c_ => ?_)
    · skip
      have b_ := zT_ne rfl zk_10 c_
      refine lv_iconst (v := 0) hx hb dX13_isBlank_16 (by decide) ?_
      refine W.widen (k := 0) (n := 0) (by decide) (by decide) ?_
      have hpost : (0 ≤ (0 : Int32).toInt ∧ (0 : Int32).toInt ≤ 1) ∧ ((0 : Int32).toInt = 1 → zBk x1.toInt) ∧ ((0 : Int32).toInt = 0 → ¬ zBk x1.toInt) := ⟨⟨by omega, by omega⟩, by first | (intro q; exact absurd q (by decide)) | (intro _; unfold zBk; omega), by first | (intro q; exact absurd q (by decide)) | (intro _; unfold zBk; omega)⟩
      have hP9 : va_P (dC, dI) vwCl [] s.heap := hP
      have hD9 : va_D A [] := hD
      exact W.zret (v := 0) hx hb hr rfl (fun t ht hW => ⟨⟨0, (fun _ => 0), rfl, hpost, (fun _ => 0), (fun _ => (fun _ => 0)), (fun _ => (fun _ => 0)), by rw [ht]; exact hP9, va_K.moved hW.alike hK, hD9⟩, hS.F ht⟩) hS.2.2 dX13_isBlank_17
    · skip
      have b_ := zF_ne rfl zk_10 c_
      refine lv_iconst (v := 1) hx hb dX13_isBlank_12 (by decide) ?_
      refine lv_goto (tgt := 17) hx hb dX13_isBlank_13 (by decide) ?_
      refine W.widen (k := 0) (n := 0) (by decide) (by decide) ?_
      have hpost : (0 ≤ (1 : Int32).toInt ∧ (1 : Int32).toInt ≤ 1) ∧ ((1 : Int32).toInt = 1 → zBk x1.toInt) ∧ ((1 : Int32).toInt = 0 → ¬ zBk x1.toInt) := ⟨⟨by omega, by omega⟩, by first | (intro q; exact absurd q (by decide)) | (intro _; unfold zBk; omega), by first | (intro q; exact absurd q (by decide)) | (intro _; unfold zBk; omega)⟩
      have hP9 : va_P (dC, dI) vwCl [] s.heap := hP
      have hD9 : va_D A [] := hD
      exact W.zret (v := 1) hx hb hr rfl (fun t ht hW => ⟨⟨1, (fun _ => 0), rfl, hpost, (fun _ => 0), (fun _ => (fun _ => 0)), (fun _ => (fun _ => 0)), by rw [ht]; exact hP9, va_K.moved hW.alike hK, hD9⟩, hS.F ht⟩) hS.2.2 dX13_isBlank_17
set_option maxHeartbeats 8000000 in
set_option maxRecDepth 100000 in
theorem sX13_look1_0 (l : Launch) (dC : Nat → ClassId) (dI : Nat → Nat → Nat) (adK adV : Nat → Nat) (h0 : Nat) (q0 : Nat → Nat) (k1 : ClassId) (sz : Nat) (v0 : Nat → Int32) (f1 : Nat → Int32) (hv0 : zR rg_Model v0) (hp0_ : (v0 35).toInt ≤ (v0 34).toInt) : Met l yX13_look1 (zw yX13_look1 cX13_look1 1 none) { frames := 3, cells := 0, slots := 0, locals := 63 } (zPc dC dI adK adV [.ref h0] sz [(h0, .inr (13, mX13 q0 v0)), ((q0 0), zi k1 600 f1)] [(k1, .byte)]) (va_Qv (fun (u : Nat → Int32) => (0 ≤ (u 0).toInt ∧ (u 0).toInt ≤ 600) ∧ (0 ≤ (u 1).toInt ∧ (u 1).toInt ≤ 3) ∧ (0 ≤ (u 2).toInt ∧ (u 2).toInt ≤ 600) ∧ ((u 0).toInt ≤ (v0 34).toInt) ∧ ((v0 35).toInt ≤ (u 2).toInt) ∧ ((u 2).toInt ≤ (u 0).toInt) ∧ ((u 1).toInt ≠ 0 → (u 2).toInt < (u 0).toInt) ∧ ((u 1).toInt = 0 → (u 2).toInt = (v0 34).toInt) ∧ (zBl f1 (v0 34).toInt (v0 35).toInt (u 2).toInt) ∧ (zMl f1 (v0 34).toInt (u 2).toInt (u 1).toInt (u 0).toInt)) (fun (u : Nat → Int32) (t : State) => ∃ (ww : Nat → Int64) (aa : Nat → Nat → Int32) (bb : Nat → Nat → Int64), va_P (dC, dI) vwCl [(h0, .inr (13, mX13 q0 (upd (upd (upd v0 35 (u 0)) 36 (u 1)) 37 (u 2)))), ((q0 0), zi k1 600 f1)] t.heap ∧ va_K (dC, dI) vwCl [(k1, .byte)] t ∧ va_D (va_A [(h0, .inr (13, mX13 q0 v0)), ((q0 0), zi k1 600 f1)] sz) [(h0, .inr (13, mX13 q0 (upd (upd (upd v0 35 (u 0)) 36 (u 1)) 37 (u 2)))), ((q0 0), zi k1 600 f1)]) (va_A [(h0, .inr (13, mX13 q0 v0)), ((q0 0), zi k1 600 f1)] sz)) 0 0 (va_A [(h0, .inr (13, mX13 q0 v0)), ((q0 0), zi k1 600 f1)] sz) := by
  refine Met.ofW (cc := cX13_look1) (maxL := 1) (ret := none) (by decide) rfl ?_
  intro p e s m args below meth c s₁ B hml hv
  obtain ⟨rfl, hsz, hP, hK, hD0, hE, hZ⟩ := hv
  have hx := B.exec
  have hb := B.bytes
  have hr := B.returns
  have hG : ∀ w ∈ zG, w.before _ s = true := fun w h => atoms_spec (ws := (zw yX13_look1 cX13_look1 1 none)) B.pre w (List.mem_cons_of_mem _ h)
  have hown : s.vm.findClass RX13 = some m.cls := findClass_of_methodNamed B.named
  have hlocks := B.notSynchronized

  subst hsz
  have hD := hD0.self (sz := s.heap.size)
  generalize hAe : va_A [(h0, .inr (13, mX13 q0 v0)), ((q0 0), zi k1 600 f1)] s.heap.size = A at hD hZ ⊢
  have hA : ∀ q : Nat, s.heap.size ≤ q → A q := fun q h => by rw [← hAe]; exact Or.inr h
  have hS : va_S A s.heap s.heap [] := va_S.rf
  have hl := lv_entry ([.ref h0]) (n := 1) (Nat.le_of_ble_eq_true rfl)
  rw [lg_entry_eq]
  generalize (lg_sl ([.ref h0]) ++ List.replicate (1 - (lg_sl ([.ref h0])).length) Slot.unset).toArray = ls at hl ⊢
  have hl : lv_has ls 1 [(0, .ref h0)] := hl
  have b_ := zk_0
  have b_ := zk_1
  have b_ := zk_2
  have b_ := zk_3
  have b_ : 0 ≤ (v0 35).toInt ∧ (v0 35).toInt ≤ 600 := hv0 35
  have b_ : 0 ≤ (v0 34).toInt ∧ (v0 34).toInt ≤ 600 := hv0 34
  have b_ : 0 ≤ (v0 37).toInt ∧ (v0 37).toInt ≤ 600 := hv0 37
  have b_ : 0 ≤ (v0 36).toInt ∧ (v0 36).toInt ≤ 3 := hv0 36
  refine zcutL (fun u0_ => (600 - (u0_ 0).toInt).toNat) (fun H locs ls u0_ w0_ a0_ b0_ => va_P (dC, dI) vwCl [(h0, .inr (13, mX13 q0 (upd v0 35 (u0_ 0)))), ((q0 0), zi k1 600 f1)] H ∧ va_D A [(h0, .inr (13, mX13 q0 (upd v0 35 (u0_ 0)))), ((q0 0), zi k1 600 f1)] ∧ va_S A s.heap H locs ∧ lv_has ls 1 [(0, .ref h0)] ∧ (0 ≤ (u0_ 0).toInt ∧ (u0_ 0).toInt ≤ 600) ∧ ((u0_ 0).toInt ≤ (v0 34).toInt) ∧ ((v0 35).toInt ≤ (u0_ 0).toInt) ∧ (zBq f1 (v0 35).toInt (u0_ 0).toInt)) (fun ls u0_ w0_ => F0 m 0 ls []) 0 0 ?_ (fun hJ0 => ?_)
  · skip
    intro H locs ls u0_ w0_ a0_ b0_ hc hJ0
    obtain ⟨hP, hD, hS, hl, b_, b_, b_, hI0_2⟩ := hc
    refine lv_aload_n hx hb dX13_look1_0 rfl (lv_at hl 0 rfl) ?_
    refine va_get (D := (dC, dI)) (ci := 13) (v := .int (u0_ 0)) (C := RX13) (T := TX13) (N := 75) hx hb hG zuX13 hown hK hP 0 rfl rfl 35 (by decide) (hG _ zv1639) (fun _ h9 => h9) rfl dX13_look1_1 ?_
    refine lv_aload_n hx hb dX13_look1_4 rfl (lv_at hl 0 rfl) ?_
    refine va_get (D := (dC, dI)) (ci := 13) (v := .int (v0 34)) (C := RX13) (T := TX13) (N := 75) hx hb hG zuX13 hown hK hP 0 rfl rfl 34 (by decide) (hG _ zv1638) (fun _ h9 => h9) rfl dX13_look1_5 ?_
    refine lv_icmp_ge (tgt := 40) hx hb dX13_look1_8 (by decide) (fun c_ => ?_) (fun c_ => ?_)
    · skip
      have b_ := zT_ge rfl rfl c_
      refine lv_aload_n hx hb dX13_look1_40 rfl (lv_at hl 0 rfl) ?_
      refine lv_aload_n hx hb dX13_look1_41 rfl (lv_at hl 0 rfl) ?_
      refine va_get (D := (dC, dI)) (ci := 13) (v := .int (u0_ 0)) (C := RX13) (T := TX13) (N := 75) hx hb hG zuX13 hown hK hP 0 rfl rfl 35 (by decide) (hG _ zv1639) (fun _ h9 => h9) rfl dX13_look1_42 ?_
      refine va_put (D := (dC, dI)) (ci := 13) (v := .int (u0_ 0)) (ty := .int) (C := RX13) (T := TX13) (N := 75) hx hb hG zuX13 tyX13 tyX13_ok nmX13 hown hK hP hD hS 0 rfl rfl 37 (by decide) (hG _ zv1641) (fun _ h9 => h9) rfl (by decide +kernel) rfl rfl (Nat.le_of_ble_eq_true rfl) dX13_look1_45 (fun H locs hP hD hS => ?_)
      have hP : va_P (dC, dI) vwCl [(h0, .inr (13, mX13 q0 (upd (upd v0 35 (u0_ 0)) 37 (u0_ 0)))), ((q0 0), zi k1 600 f1)] H := hP
      have hD : va_D A [(h0, .inr (13, mX13 q0 (upd (upd v0 35 (u0_ 0)) 37 (u0_ 0)))), ((q0 0), zi k1 600 f1)] := hD
      refine lv_aload_n hx hb dX13_look1_48 rfl (lv_at hl 0 rfl) ?_
      refine va_get (D := (dC, dI)) (ci := 13) (v := .int (u0_ 0)) (C := RX13) (T := TX13) (N := 75) hx hb hG zuX13 hown hK hP 0 rfl rfl 37 (by decide) (hG _ zv1641) (fun _ h9 => h9) rfl dX13_look1_49 ?_
      refine lv_aload_n hx hb dX13_look1_52 rfl (lv_at hl 0 rfl) ?_
      refine va_get (D := (dC, dI)) (ci := 13) (v := .int (v0 34)) (C := RX13) (T := TX13) (N := 75) hx hb hG zuX13 hown hK hP 0 rfl rfl 34 (by decide) (hG _ zv1638) (fun _ h9 => h9) rfl dX13_look1_53 ?_
      refine lv_icmp_ne (tgt := 67) hx hb dX13_look1_56 (by decide) (fun c_ => ?_) (fun c_ => ?_)
      · skip
        have b_ := zT_ne rfl rfl c_
        refine lv_aload_n hx hb dX13_look1_67 rfl (lv_at hl 0 rfl) ?_
        refine va_get (D := (dC, dI)) (ci := 13) (v := .ref (q0 0)) (C := RX13) (T := TX13) (N := 75) hx hb hG zuX13 hown hK hP 0 rfl rfl 0 (by decide) (hG _ zv1604) (fun _ h9 => h9) rfl dX13_look1_68 ?_
        refine lv_aload_n hx hb dX13_look1_71 rfl (lv_at hl 0 rfl) ?_
        refine va_get (D := (dC, dI)) (ci := 13) (v := .int (u0_ 0)) (C := RX13) (T := TX13) (N := 75) hx hb hG zuX13 hown hK hP 0 rfl rfl 37 (by decide) (hG _ zv1641) (fun _ h9 => h9) rfl dX13_look1_72 ?_
        refine va_bald hx hb hK hP 1 0 rfl rfl (zin_lit ⟨by omega, by omega⟩) dX13_look1_75 ?_
        refine lv_topi (fun z75 e_z75 => ?_)
        have hPc := hP.sub (ws' := []) [] rfl
        have hDc := hD.sub (ws' := []) [] (by decide) rfl
        have hKc := hK.sub (tys' := []) [] rfl
        have hFc := va_free (wc := []) hD hS hA [] rfl
        refine va_calli (va_runS (As := [.int z75]) (rest := []) ⟨hx, hb, hml, hown, hG⟩ (sX13_isToken_0 l dC dI adK adV H.size z75) (va_cwS 1 hG (zgS zv1846 zv1847 zv142 zv1848) rfl rfl rfl (by decide +kernel) ⟨Nat.le_of_ble_eq_true rfl, Nat.le_of_ble_eq_true rfl⟩) ⟨zPc_blind, zPc_pre hPc hKc hDc hE hS hFc hZ⟩ rfl rfl hl.1 rfl (lv_room (Nat.le_of_ble_eq_true rfl)) dX13_look1_76 ⟨Nat.le_of_ble_eq_true rfl, Nat.le_of_ble_eq_true rfl⟩) hS (fun q _ h => hFc q h) hFc (fun r76_ u76_ t H1 locs ht hvm hw hB hz1 hk1 hS => ?_)
        replace hw : (0 ≤ r76_.toInt ∧ r76_.toInt ≤ 1) ∧ (r76_.toInt = 1 → zTok z75.toInt) ∧ (r76_.toInt = 0 → ¬ zTok z75.toInt) := hw
        obtain ⟨b_, hX76_0, hX76_1⟩ := hw
        obtain ⟨w76_, a76_, b76_, hP1, hK1, hD1⟩ := hB
        rw [ht] at hP1
        obtain ⟨hP, hD⟩ := va_join (wr := [(h0, .inr (13, mX13 q0 (upd (upd v0 35 (u0_ 0)) 37 (u0_ 0)))), ((q0 0), zi k1 600 f1)]) (w1 := []) hP hD [] [0, 1] rfl rfl (by decide) (by decide) hk1 hFc hP1 hD1
        have hP : va_P (dC, dI) vwCl [(h0, .inr (13, mX13 q0 (upd (upd v0 35 (u0_ 0)) 37 (u0_ 0)))), ((q0 0), zi k1 600 f1)] H1 := hP.sub [0, 1] rfl
        have hD : va_D A [(h0, .inr (13, mX13 q0 (upd (upd v0 35 (u0_ 0)) 37 (u0_ 0)))), ((q0 0), zi k1 600 f1)] := hD.sub [0, 1] (by decide) rfl
        generalize H1 = H at hP hS ⊢
        clear hz1
        refine lv_if_eq (tgt := 106) hx hb dX13_look1_79 (by decide) (fun c_ => ?_) (fun c_ => ?_)
        · skip
          have b_ := zT_eq rfl zk_0 c_
          refine lv_aload_n hx hb dX13_look1_106 rfl (lv_at hl 0 rfl) ?_
          refine va_get (D := (dC, dI)) (ci := 13) (v := .ref (q0 0)) (C := RX13) (T := TX13) (N := 75) hx hb hG zuX13 hown hK hP 0 rfl rfl 0 (by decide) (hG _ zv1604) (fun _ h9 => h9) rfl dX13_look1_107 ?_
          refine lv_aload_n hx hb dX13_look1_110 rfl (lv_at hl 0 rfl) ?_
          refine va_get (D := (dC, dI)) (ci := 13) (v := .int (u0_ 0)) (C := RX13) (T := TX13) (N := 75) hx hb hG zuX13 hown hK hP 0 rfl rfl 37 (by decide) (hG _ zv1641) (fun _ h9 => h9) rfl dX13_look1_111 ?_
          refine va_bald hx hb hK hP 1 0 rfl rfl (zin_lit ⟨by omega, by omega⟩) dX13_look1_114 ?_
          refine lv_topi (fun z114 e_z114 => ?_)
          refine lv_bipush (v := 46) hx hb dX13_look1_115 (by decide) ?_
          have b_ : -2147483648 ≤ z114.toInt ∧ z114.toInt ≤ 2147483647 := ⟨zlo _, zhi _⟩
          refine lv_icmp_ne (tgt := 153) hx hb dX13_look1_117 (by decide) (fun c_ => ?_) (fun c_ => ?_)
          · skip
            have b_ := zT_ne rfl zk_46 c_
            refine lv_aload_n hx hb dX13_look1_153 rfl (lv_at hl 0 rfl) ?_
            refine lv_iconst (v := 2) hx hb dX13_look1_154 (by decide) ?_
            refine va_put (D := (dC, dI)) (ci := 13) (v := .int 2) (ty := .int) (C := RX13) (T := TX13) (N := 75) hx hb hG zuX13 tyX13 tyX13_ok nmX13 hown hK hP hD hS 0 rfl rfl 36 (by decide) (hG _ zv1640) (fun _ h9 => h9) rfl (by decide +kernel) rfl rfl (Nat.le_of_ble_eq_true rfl) dX13_look1_155 (fun H locs hP hD hS => ?_)
            have hP : va_P (dC, dI) vwCl [(h0, .inr (13, mX13 q0 (upd (upd (upd v0 35 (u0_ 0)) 36 2) 37 (u0_ 0)))), ((q0 0), zi k1 600 f1)] H := hP
            have hD : va_D A [(h0, .inr (13, mX13 q0 (upd (upd (upd v0 35 (u0_ 0)) 36 2) 37 (u0_ 0)))), ((q0 0), zi k1 600 f1)] := hD
            refine lv_aload_n hx hb dX13_look1_158 rfl (lv_at hl 0 rfl) ?_
            refine lv_aload_n hx hb dX13_look1_159 rfl (lv_at hl 0 rfl) ?_
            refine va_get (D := (dC, dI)) (ci := 13) (v := .int (u0_ 0)) (C := RX13) (T := TX13) (N := 75) hx hb hG zuX13 hown hK hP 0 rfl rfl 37 (by decide) (hG _ zv1641) (fun _ h9 => h9) rfl dX13_look1_160 ?_
            refine lv_iconst (v := 1) hx hb dX13_look1_163 (by decide) ?_
            refine lv_iadd hx hb dX13_look1_164 ?_
            refine lv_topi (fun z164 e_z164 => ?_)
            have b_ := zadd rfl zk_1 e_z164 (by omega) (by omega)
            have b_ : 0 ≤ z164.toInt ∧ z164.toInt ≤ 600 := ⟨by omega, by omega⟩
            refine va_put (D := (dC, dI)) (ci := 13) (v := .int z164) (ty := .int) (C := RX13) (T := TX13) (N := 75) hx hb hG zuX13 tyX13 tyX13_ok nmX13 hown hK hP hD hS 0 rfl rfl 35 (by decide) (hG _ zv1639) (fun _ h9 => h9) rfl (by decide +kernel) rfl rfl (Nat.le_of_ble_eq_true rfl) dX13_look1_165 (fun H locs hP hD hS => ?_)
            have hP : va_P (dC, dI) vwCl [(h0, .inr (13, mX13 q0 (upd (upd (upd v0 35 z164) 36 2) 37 (u0_ 0)))), ((q0 0), zi k1 600 f1)] H := hP
            have hD : va_D A [(h0, .inr (13, mX13 q0 (upd (upd (upd v0 35 z164) 36 2) 37 (u0_ 0)))), ((q0 0), zi k1 600 f1)] := hD
            refine W.widen (k := 0) (n := 0) (by decide) (by decide) ?_
            have hpost : (0 ≤ z164.toInt ∧ z164.toInt ≤ 600) ∧ (0 ≤ (2 : Int32).toInt ∧ (2 : Int32).toInt ≤ 3) ∧ (0 ≤ (u0_ 0).toInt ∧ (u0_ 0).toInt ≤ 600) ∧ (z164.toInt ≤ (v0 34).toInt) ∧ ((v0 35).toInt ≤ (u0_ 0).toInt) ∧ ((u0_ 0).toInt ≤ z164.toInt) ∧ ((2 : Int32).toInt ≠ 0 → (u0_ 0).toInt < z164.toInt) ∧ ((2 : Int32).toInt = 0 → (u0_ 0).toInt = (v0 34).toInt) ∧ (zBl f1 (v0 34).toInt (v0 35).toInt (u0_ 0).toInt) ∧ (zMl f1 (v0 34).toInt (u0_ 0).toInt (2 : Int32).toInt z164.toInt) := ⟨⟨by omega, by omega⟩, ⟨by omega, by omega⟩, ⟨by omega, by omega⟩, by omega, by omega, by omega, by omega, by omega, by first | exact ⟨by omega, hI0_2, fun h_ => by omega, by omega⟩ | exact ⟨by omega, hI0_2, fun h_ => by have b9 := hX21_1 (by omega); rw [e_z20] at b9; exact b9, by omega⟩, by first | exact Or.inl ⟨by omega, by first | omega | decide⟩ | exact Or.inr (Or.inl ⟨by omega, by have t_ := hX76_0 (by omega); rw [e_z75] at t_; exact t_, by first | omega | decide, ⟨by omega, hX97_5, hX97_3, by omega⟩⟩) | exact Or.inr (Or.inr (Or.inl ⟨by omega, fun t_ => hX76_1 (by omega) (by rw [e_z75]; exact t_), ⟨zgt e_z114 (by omega) (by omega), by omega, zgu (hX127_1 (by omega)) (by omega) (by omega)⟩, by first | omega | decide, by omega⟩)) | exact Or.inr (Or.inr (Or.inr ⟨by omega, fun t_ => hX76_1 (by omega) (by rw [e_z75]; exact t_), fun d_ => absurd ((zgt e_z114 (by omega) rfl).symm.trans d_.1) (by omega), by first | omega | decide, by omega⟩)) | exact Or.inr (Or.inr (Or.inr ⟨by omega, fun t_ => hX76_1 (by omega) (by rw [e_z75]; exact t_), fun d_ => absurd ((zgu (hX127_1 (by have d1_ := d_.2.1; omega)) (by omega) rfl).symm.trans d_.2.2) (by omega), by first | omega | decide, by omega⟩))⟩
            have hP9 : va_P (dC, dI) vwCl [(h0, .inr (13, mX13 q0 (upd (upd (upd v0 35 z164) 36 2) 37 (u0_ 0)))), ((q0 0), zi k1 600 f1)] H := hP
            have hD9 : va_D A [(h0, .inr (13, mX13 q0 (upd (upd (upd v0 35 z164) 36 2) 37 (u0_ 0)))), ((q0 0), zi k1 600 f1)] := hD
            exact W.vret hx hb hr (fun t ht hW => ⟨⟨(fun i => ([z164, 2, (u0_ 0)] : List (Int32)).getD i 0), rfl, hpost, (fun _ => 0), (fun _ => (fun _ => 0)), (fun _ => (fun _ => 0)), by rw [ht]; exact hP9, va_K.moved hW.alike hK, hD9⟩, hS.F ht⟩) hS.2.2 dX13_look1_168
          · skip
            have b_ := zF_ne rfl zk_46 c_
            refine lv_aload_n hx hb dX13_look1_120 rfl (lv_at hl 0 rfl) ?_
            refine lv_aload_n hx hb dX13_look1_121 rfl (lv_at hl 0 rfl) ?_
            refine va_get (D := (dC, dI)) (ci := 13) (v := .int (u0_ 0)) (C := RX13) (T := TX13) (N := 75) hx hb hG zuX13 hown hK hP 0 rfl rfl 37 (by decide) (hG _ zv1641) (fun _ h9 => h9) rfl dX13_look1_122 ?_
            refine lv_iconst (v := 1) hx hb dX13_look1_125 (by decide) ?_
            refine lv_iadd hx hb dX13_look1_126 ?_
            refine lv_topi (fun z126 e_z126 => ?_)
            have b_ := zadd rfl zk_1 e_z126 (by omega) (by omega)
            have hPc := hP.sub (ws' := [(h0, .inr (13, mX13 q0 (upd (upd v0 35 (u0_ 0)) 37 (u0_ 0)))), ((q0 0), zi k1 600 f1)]) [0, 1] rfl
            have hDc := hD.sub (ws' := [(h0, .inr (13, mX13 q0 (upd (upd v0 35 (u0_ 0)) 37 (u0_ 0)))), ((q0 0), zi k1 600 f1)]) [0, 1] (by decide) rfl
            have hKc := hK.sub (tys' := [(k1, .byte)]) [0] rfl
            have hFc := va_free (wc := [(h0, .inr (13, mX13 q0 (upd (upd v0 35 (u0_ 0)) 37 (u0_ 0)))), ((q0 0), zi k1 600 f1)]) hD hS hA [0, 1] rfl
            refine va_calli (va_runV (As := [.int z126]) (rest := []) ⟨hx, hb, hml, hown, hG⟩ (sX13_byteAt_0 l dC dI adK adV h0 q0 k1 H.size (upd (upd v0 35 (u0_ 0)) 37 (u0_ 0)) f1 z126 (zR_upd (zR_upd hv0 35 (show (0 : Int) ≤ ((u0_ 0) : Int32).toInt from by omega) (show ((u0_ 0) : Int32).toInt ≤ (600 : Int) from by omega)) 37 (show (0 : Int) ≤ ((u0_ 0) : Int32).toInt from by omega) (show ((u0_ 0) : Int32).toInt ≤ (600 : Int) from by omega)) ⟨show (0 : Int) ≤ (z126 : Int32).toInt from by omega, show (z126 : Int32).toInt ≤ (602 : Int) from by omega⟩) (cwV 1 hG (zgV zv2046 zv2048 zv83 zv142 zv2049) rfl rfl rfl (by decide +kernel) ⟨Nat.le_of_ble_eq_true rfl, Nat.le_of_ble_eq_true rfl⟩) ⟨zPc_blind, va_recv hKc hPc (ci := 13) (q0 := 0) rfl rfl, zPc_pre hPc hKc hDc hE hS hFc hZ⟩ rfl rfl hl.1 rfl (lv_room (Nat.le_of_ble_eq_true rfl)) dX13_look1_127 ⟨Nat.le_of_ble_eq_true rfl, Nat.le_of_ble_eq_true rfl⟩) hS (fun q _ h => hFc q h) hFc (fun r127_ u127_ t H1 locs ht hvm hw hB hz1 hk1 hS => ?_)
            replace hw : (r127_.toInt ≠ 0 → z126.toInt < (v0 34).toInt) ∧ (z126.toInt < (v0 34).toInt → r127_.toInt = (f1 ((z126 : Int32)).toNatClampNeg).toInt) ∧ ((v0 34).toInt ≤ z126.toInt → r127_.toInt = 0) := hw
            obtain ⟨hX127_0, hX127_1, hX127_2⟩ := hw
            obtain ⟨w127_, a127_, b127_, hP1, hK1, hD1⟩ := hB
            rw [ht] at hP1
            obtain ⟨hP, hD⟩ := va_join (wr := []) (w1 := [(h0, .inr (13, mX13 q0 (upd (upd v0 35 (u0_ 0)) 37 (u0_ 0)))), ((q0 0), zi k1 600 f1)]) hP hD [0, 1] [] rfl rfl (by decide) (by decide) hk1 hFc hP1 hD1
            have hP : va_P (dC, dI) vwCl [(h0, .inr (13, mX13 q0 (upd (upd v0 35 (u0_ 0)) 37 (u0_ 0)))), ((q0 0), zi k1 600 f1)] H1 := hP.sub [0, 1] rfl
            have hD : va_D A [(h0, .inr (13, mX13 q0 (upd (upd v0 35 (u0_ 0)) 37 (u0_ 0)))), ((q0 0), zi k1 600 f1)] := hD.sub [0, 1] (by decide) rfl
            generalize H1 = H at hP hS ⊢
            clear hz1
            refine lv_bipush (v := 46) hx hb dX13_look1_130 (by decide) ?_
            have b_ : -2147483648 ≤ r127_.toInt ∧ r127_.toInt ≤ 2147483647 := ⟨zlo _, zhi _⟩
            refine lv_icmp_ne (tgt := 153) hx hb dX13_look1_132 (by decide) (fun c_ => ?_) (fun c_ => ?_)
            · skip
              have b_ := zT_ne rfl zk_46 c_
              refine lv_aload_n hx hb dX13_look1_153 rfl (lv_at hl 0 rfl) ?_
              refine lv_iconst (v := 2) hx hb dX13_look1_154 (by decide) ?_
              refine va_put (D := (dC, dI)) (ci := 13) (v := .int 2) (ty := .int) (C := RX13) (T := TX13) (N := 75) hx hb hG zuX13 tyX13 tyX13_ok nmX13 hown hK hP hD hS 0 rfl rfl 36 (by decide) (hG _ zv1640) (fun _ h9 => h9) rfl (by decide +kernel) rfl rfl (Nat.le_of_ble_eq_true rfl) dX13_look1_155 (fun H locs hP hD hS => ?_)
              have hP : va_P (dC, dI) vwCl [(h0, .inr (13, mX13 q0 (upd (upd (upd v0 35 (u0_ 0)) 36 2) 37 (u0_ 0)))), ((q0 0), zi k1 600 f1)] H := hP
              have hD : va_D A [(h0, .inr (13, mX13 q0 (upd (upd (upd v0 35 (u0_ 0)) 36 2) 37 (u0_ 0)))), ((q0 0), zi k1 600 f1)] := hD
              refine lv_aload_n hx hb dX13_look1_158 rfl (lv_at hl 0 rfl) ?_
              refine lv_aload_n hx hb dX13_look1_159 rfl (lv_at hl 0 rfl) ?_
              refine va_get (D := (dC, dI)) (ci := 13) (v := .int (u0_ 0)) (C := RX13) (T := TX13) (N := 75) hx hb hG zuX13 hown hK hP 0 rfl rfl 37 (by decide) (hG _ zv1641) (fun _ h9 => h9) rfl dX13_look1_160 ?_
              refine lv_iconst (v := 1) hx hb dX13_look1_163 (by decide) ?_
              refine lv_iadd hx hb dX13_look1_164 ?_
              refine lv_topi (fun z164 e_z164 => ?_)
              have b_ := zadd rfl zk_1 e_z164 (by omega) (by omega)
              have b_ : 0 ≤ z164.toInt ∧ z164.toInt ≤ 600 := ⟨by omega, by omega⟩
              refine va_put (D := (dC, dI)) (ci := 13) (v := .int z164) (ty := .int) (C := RX13) (T := TX13) (N := 75) hx hb hG zuX13 tyX13 tyX13_ok nmX13 hown hK hP hD hS 0 rfl rfl 35 (by decide) (hG _ zv1639) (fun _ h9 => h9) rfl (by decide +kernel) rfl rfl (Nat.le_of_ble_eq_true rfl) dX13_look1_165 (fun H locs hP hD hS => ?_)
              have hP : va_P (dC, dI) vwCl [(h0, .inr (13, mX13 q0 (upd (upd (upd v0 35 z164) 36 2) 37 (u0_ 0)))), ((q0 0), zi k1 600 f1)] H := hP
              have hD : va_D A [(h0, .inr (13, mX13 q0 (upd (upd (upd v0 35 z164) 36 2) 37 (u0_ 0)))), ((q0 0), zi k1 600 f1)] := hD
              refine W.widen (k := 0) (n := 0) (by decide) (by decide) ?_
              have hpost : (0 ≤ z164.toInt ∧ z164.toInt ≤ 600) ∧ (0 ≤ (2 : Int32).toInt ∧ (2 : Int32).toInt ≤ 3) ∧ (0 ≤ (u0_ 0).toInt ∧ (u0_ 0).toInt ≤ 600) ∧ (z164.toInt ≤ (v0 34).toInt) ∧ ((v0 35).toInt ≤ (u0_ 0).toInt) ∧ ((u0_ 0).toInt ≤ z164.toInt) ∧ ((2 : Int32).toInt ≠ 0 → (u0_ 0).toInt < z164.toInt) ∧ ((2 : Int32).toInt = 0 → (u0_ 0).toInt = (v0 34).toInt) ∧ (zBl f1 (v0 34).toInt (v0 35).toInt (u0_ 0).toInt) ∧ (zMl f1 (v0 34).toInt (u0_ 0).toInt (2 : Int32).toInt z164.toInt) := ⟨⟨by omega, by omega⟩, ⟨by omega, by omega⟩, ⟨by omega, by omega⟩, by omega, by omega, by omega, by omega, by omega, by first | exact ⟨by omega, hI0_2, fun h_ => by omega, by omega⟩ | exact ⟨by omega, hI0_2, fun h_ => by have b9 := hX21_1 (by omega); rw [e_z20] at b9; exact b9, by omega⟩, by first | exact Or.inl ⟨by omega, by first | omega | decide⟩ | exact Or.inr (Or.inl ⟨by omega, by have t_ := hX76_0 (by omega); rw [e_z75] at t_; exact t_, by first | omega | decide, ⟨by omega, hX97_5, hX97_3, by omega⟩⟩) | exact Or.inr (Or.inr (Or.inl ⟨by omega, fun t_ => hX76_1 (by omega) (by rw [e_z75]; exact t_), ⟨zgt e_z114 (by omega) (by omega), by omega, zgu (hX127_1 (by omega)) (by omega) (by omega)⟩, by first | omega | decide, by omega⟩)) | exact Or.inr (Or.inr (Or.inr ⟨by omega, fun t_ => hX76_1 (by omega) (by rw [e_z75]; exact t_), fun d_ => absurd ((zgt e_z114 (by omega) rfl).symm.trans d_.1) (by omega), by first | omega | decide, by omega⟩)) | exact Or.inr (Or.inr (Or.inr ⟨by omega, fun t_ => hX76_1 (by omega) (by rw [e_z75]; exact t_), fun d_ => absurd ((zgu (hX127_1 (by have d1_ := d_.2.1; omega)) (by omega) rfl).symm.trans d_.2.2) (by omega), by first | omega | decide, by omega⟩))⟩
              have hP9 : va_P (dC, dI) vwCl [(h0, .inr (13, mX13 q0 (upd (upd (upd v0 35 z164) 36 2) 37 (u0_ 0)))), ((q0 0), zi k1 600 f1)] H := hP
              have hD9 : va_D A [(h0, .inr (13, mX13 q0 (upd (upd (upd v0 35 z164) 36 2) 37 (u0_ 0)))), ((q0 0), zi k1 600 f1)] := hD
              exact W.vret hx hb hr (fun t ht hW => ⟨⟨(fun i => ([z164, 2, (u0_ 0)] : List (Int32)).getD i 0), rfl, hpost, (fun _ => 0), (fun _ => (fun _ => 0)), (fun _ => (fun _ => 0)), by rw [ht]; exact hP9, va_K.moved hW.alike hK, hD9⟩, hS.F ht⟩) hS.2.2 dX13_look1_168
            · skip
              have b_ := zF_ne rfl zk_46 c_
              refine lv_aload_n hx hb dX13_look1_135 rfl (lv_at hl 0 rfl) ?_
              refine lv_iconst (v := 3) hx hb dX13_look1_136 (by decide) ?_
              refine va_put (D := (dC, dI)) (ci := 13) (v := .int 3) (ty := .int) (C := RX13) (T := TX13) (N := 75) hx hb hG zuX13 tyX13 tyX13_ok nmX13 hown hK hP hD hS 0 rfl rfl 36 (by decide) (hG _ zv1640) (fun _ h9 => h9) rfl (by decide +kernel) rfl rfl (Nat.le_of_ble_eq_true rfl) dX13_look1_137 (fun H locs hP hD hS => ?_)
              have hP : va_P (dC, dI) vwCl [(h0, .inr (13, mX13 q0 (upd (upd (upd v0 35 (u0_ 0)) 36 3) 37 (u0_ 0)))), ((q0 0), zi k1 600 f1)] H := hP
              have hD : va_D A [(h0, .inr (13, mX13 q0 (upd (upd (upd v0 35 (u0_ 0)) 36 3) 37 (u0_ 0)))), ((q0 0), zi k1 600 f1)] := hD
              refine lv_aload_n hx hb dX13_look1_140 rfl (lv_at hl 0 rfl) ?_
              refine lv_aload_n hx hb dX13_look1_141 rfl (lv_at hl 0 rfl) ?_
              refine va_get (D := (dC, dI)) (ci := 13) (v := .int (u0_ 0)) (C := RX13) (T := TX13) (N := 75) hx hb hG zuX13 hown hK hP 0 rfl rfl 37 (by decide) (hG _ zv1641) (fun _ h9 => h9) rfl dX13_look1_142 ?_
              refine lv_iconst (v := 2) hx hb dX13_look1_145 (by decide) ?_
              refine lv_iadd hx hb dX13_look1_146 ?_
              refine lv_topi (fun z146 e_z146 => ?_)
              have b_ := zadd rfl zk_2 e_z146 (by omega) (by omega)
              have b_ : 0 ≤ z146.toInt ∧ z146.toInt ≤ 600 := ⟨by omega, by omega⟩
              refine va_put (D := (dC, dI)) (ci := 13) (v := .int z146) (ty := .int) (C := RX13) (T := TX13) (N := 75) hx hb hG zuX13 tyX13 tyX13_ok nmX13 hown hK hP hD hS 0 rfl rfl 35 (by decide) (hG _ zv1639) (fun _ h9 => h9) rfl (by decide +kernel) rfl rfl (Nat.le_of_ble_eq_true rfl) dX13_look1_147 (fun H locs hP hD hS => ?_)
              have hP : va_P (dC, dI) vwCl [(h0, .inr (13, mX13 q0 (upd (upd (upd v0 35 z146) 36 3) 37 (u0_ 0)))), ((q0 0), zi k1 600 f1)] H := hP
              have hD : va_D A [(h0, .inr (13, mX13 q0 (upd (upd (upd v0 35 z146) 36 3) 37 (u0_ 0)))), ((q0 0), zi k1 600 f1)] := hD
              refine lv_goto (tgt := 168) hx hb dX13_look1_150 (by decide) ?_
              refine W.widen (k := 0) (n := 0) (by decide) (by decide) ?_
              have hpost : (0 ≤ z146.toInt ∧ z146.toInt ≤ 600) ∧ (0 ≤ (3 : Int32).toInt ∧ (3 : Int32).toInt ≤ 3) ∧ (0 ≤ (u0_ 0).toInt ∧ (u0_ 0).toInt ≤ 600) ∧ (z146.toInt ≤ (v0 34).toInt) ∧ ((v0 35).toInt ≤ (u0_ 0).toInt) ∧ ((u0_ 0).toInt ≤ z146.toInt) ∧ ((3 : Int32).toInt ≠ 0 → (u0_ 0).toInt < z146.toInt) ∧ ((3 : Int32).toInt = 0 → (u0_ 0).toInt = (v0 34).toInt) ∧ (zBl f1 (v0 34).toInt (v0 35).toInt (u0_ 0).toInt) ∧ (zMl f1 (v0 34).toInt (u0_ 0).toInt (3 : Int32).toInt z146.toInt) := ⟨⟨by omega, by omega⟩, ⟨by omega, by omega⟩, ⟨by omega, by omega⟩, by omega, by omega, by omega, by omega, by omega, by first | exact ⟨by omega, hI0_2, fun h_ => by omega, by omega⟩ | exact ⟨by omega, hI0_2, fun h_ => by have b9 := hX21_1 (by omega); rw [e_z20] at b9; exact b9, by omega⟩, by first | exact Or.inl ⟨by omega, by first | omega | decide⟩ | exact Or.inr (Or.inl ⟨by omega, by have t_ := hX76_0 (by omega); rw [e_z75] at t_; exact t_, by first | omega | decide, ⟨by omega, hX97_5, hX97_3, by omega⟩⟩) | exact Or.inr (Or.inr (Or.inl ⟨by omega, fun t_ => hX76_1 (by omega) (by rw [e_z75]; exact t_), ⟨zgt e_z114 (by omega) (by omega), by omega, zgu (hX127_1 (by omega)) (by omega) (by omega)⟩, by first | omega | decide, by omega⟩)) | exact Or.inr (Or.inr (Or.inr ⟨by omega, fun t_ => hX76_1 (by omega) (by rw [e_z75]; exact t_), fun d_ => absurd ((zgt e_z114 (by omega) rfl).symm.trans d_.1) (by omega), by first | omega | decide, by omega⟩)) | exact Or.inr (Or.inr (Or.inr ⟨by omega, fun t_ => hX76_1 (by omega) (by rw [e_z75]; exact t_), fun d_ => absurd ((zgu (hX127_1 (by have d1_ := d_.2.1; omega)) (by omega) rfl).symm.trans d_.2.2) (by omega), by first | omega | decide, by omega⟩))⟩
              have hP9 : va_P (dC, dI) vwCl [(h0, .inr (13, mX13 q0 (upd (upd (upd v0 35 z146) 36 3) 37 (u0_ 0)))), ((q0 0), zi k1 600 f1)] H := hP
              have hD9 : va_D A [(h0, .inr (13, mX13 q0 (upd (upd (upd v0 35 z146) 36 3) 37 (u0_ 0)))), ((q0 0), zi k1 600 f1)] := hD
              exact W.vret hx hb hr (fun t ht hW => ⟨⟨(fun i => ([z146, 3, (u0_ 0)] : List (Int32)).getD i 0), rfl, hpost, (fun _ => 0), (fun _ => (fun _ => 0)), (fun _ => (fun _ => 0)), by rw [ht]; exact hP9, va_K.moved hW.alike hK, hD9⟩, hS.F ht⟩) hS.2.2 dX13_look1_168
        · skip
          have b_ := zF_eq rfl zk_0 c_
          refine lv_aload_n hx hb dX13_look1_82 rfl (lv_at hl 0 rfl) ?_
          refine lv_iconst (v := 1) hx hb dX13_look1_83 (by decide) ?_
          refine va_put (D := (dC, dI)) (ci := 13) (v := .int 1) (ty := .int) (C := RX13) (T := TX13) (N := 75) hx hb hG zuX13 tyX13 tyX13_ok nmX13 hown hK hP hD hS 0 rfl rfl 36 (by decide) (hG _ zv1640) (fun _ h9 => h9) rfl (by decide +kernel) rfl rfl (Nat.le_of_ble_eq_true rfl) dX13_look1_84 (fun H locs hP hD hS => ?_)
          have hP : va_P (dC, dI) vwCl [(h0, .inr (13, mX13 q0 (upd (upd (upd v0 35 (u0_ 0)) 36 1) 37 (u0_ 0)))), ((q0 0), zi k1 600 f1)] H := hP
          have hD : va_D A [(h0, .inr (13, mX13 q0 (upd (upd (upd v0 35 (u0_ 0)) 36 1) 37 (u0_ 0)))), ((q0 0), zi k1 600 f1)] := hD
          refine lv_aload_n hx hb dX13_look1_87 rfl (lv_at hl 0 rfl) ?_
          refine lv_aload_n hx hb dX13_look1_88 rfl (lv_at hl 0 rfl) ?_
          refine lv_aload_n hx hb dX13_look1_89 rfl (lv_at hl 0 rfl) ?_
          refine va_get (D := (dC, dI)) (ci := 13) (v := .int (u0_ 0)) (C := RX13) (T := TX13) (N := 75) hx hb hG zuX13 hown hK hP 0 rfl rfl 37 (by decide) (hG _ zv1641) (fun _ h9 => h9) rfl dX13_look1_90 ?_
          refine lv_aload_n hx hb dX13_look1_93 rfl (lv_at hl 0 rfl) ?_
          refine va_get (D := (dC, dI)) (ci := 13) (v := .int (v0 34)) (C := RX13) (T := TX13) (N := 75) hx hb hG zuX13 hown hK hP 0 rfl rfl 34 (by decide) (hG _ zv1638) (fun _ h9 => h9) rfl dX13_look1_94 ?_
          have hPc := hP.sub (ws' := [(h0, .inr (13, mX13 q0 (upd (upd (upd v0 35 (u0_ 0)) 36 1) 37 (u0_ 0)))), ((q0 0), zi k1 600 f1)]) [0, 1] rfl
          have hDc := hD.sub (ws' := [(h0, .inr (13, mX13 q0 (upd (upd (upd v0 35 (u0_ 0)) 36 1) 37 (u0_ 0)))), ((q0 0), zi k1 600 f1)]) [0, 1] (by decide) rfl
          have hKc := hK.sub (tys' := [(k1, .byte)]) [0] rfl
          have hFc := va_free (wc := [(h0, .inr (13, mX13 q0 (upd (upd (upd v0 35 (u0_ 0)) 36 1) 37 (u0_ 0)))), ((q0 0), zi k1 600 f1)]) hD hS hA [0, 1] rfl
          refine va_calli (va_runV (As := [.int (u0_ 0), .int (v0 34)]) (rest := [.ref h0]) ⟨hx, hb, hml, hown, hG⟩ (sX13_runEnd_0 l dC dI adK adV h0 q0 k1 H.size (upd (upd (upd v0 35 (u0_ 0)) 36 1) 37 (u0_ 0)) f1 (u0_ 0) (v0 34) (zR_upd (zR_upd (zR_upd hv0 35 (show (0 : Int) ≤ ((u0_ 0) : Int32).toInt from by omega) (show ((u0_ 0) : Int32).toInt ≤ (600 : Int) from by omega)) 36 (show (0 : Int) ≤ (1 : Int32).toInt from by decide) (show (1 : Int32).toInt ≤ (3 : Int) from by decide)) 37 (show (0 : Int) ≤ ((u0_ 0) : Int32).toInt from by omega) (show ((u0_ 0) : Int32).toInt ≤ (600 : Int) from by omega)) ⟨show (0 : Int) ≤ ((u0_ 0) : Int32).toInt from by omega, show ((u0_ 0) : Int32).toInt ≤ (600 : Int) from by omega⟩ ⟨show (0 : Int) ≤ ((v0 34) : Int32).toInt from by omega, show ((v0 34) : Int32).toInt ≤ (600 : Int) from by omega⟩) (cwV 2 hG (zgV zv1858 zv1860 zv51 zv142 zv1861) rfl rfl rfl (by decide +kernel) ⟨Nat.le_of_ble_eq_true rfl, Nat.le_of_ble_eq_true rfl⟩) ⟨zPc_blind, va_recv hKc hPc (ci := 13) (q0 := 0) rfl rfl, zPc_pre hPc hKc hDc hE hS hFc hZ⟩ rfl rfl hl.1 rfl (lv_room (Nat.le_of_ble_eq_true rfl)) dX13_look1_97 ⟨Nat.le_of_ble_eq_true rfl, Nat.le_of_ble_eq_true rfl⟩) hS (fun q _ h => hFc q h) hFc (fun r97_ u97_ t H1 locs ht hvm hw hB hz1 hk1 hS => ?_)
          replace hw : (0 ≤ r97_.toInt ∧ r97_.toInt ≤ 600) ∧ ((u0_ 0).toInt ≤ r97_.toInt) ∧ (r97_.toInt ≤ (v0 34).toInt ∨ r97_.toInt = (u0_ 0).toInt) ∧ (r97_.toInt ≤ 600) ∧ (r97_.toInt < (v0 34).toInt → ¬ zTok (f1 ((r97_ : Int32)).toNatClampNeg).toInt) ∧ ((u0_ 0).toInt < (v0 34).toInt → zTok (f1 (((u0_ 0) : Int32)).toNatClampNeg).toInt → (u0_ 0).toInt < r97_.toInt) ∧ (zAt f1 (u0_ 0).toInt r97_.toInt) := hw
          obtain ⟨b_, hX97_0, hX97_1, hX97_2, hX97_3, hX97_4, hX97_5⟩ := hw
          obtain ⟨w97_, a97_, b97_, hP1, hK1, hD1⟩ := hB
          rw [ht] at hP1
          obtain ⟨hP, hD⟩ := va_join (wr := []) (w1 := [(h0, .inr (13, mX13 q0 (upd (upd (upd v0 35 (u0_ 0)) 36 1) 37 (u0_ 0)))), ((q0 0), zi k1 600 f1)]) hP hD [0, 1] [] rfl rfl (by decide) (by decide) hk1 hFc hP1 hD1
          have hP : va_P (dC, dI) vwCl [(h0, .inr (13, mX13 q0 (upd (upd (upd v0 35 (u0_ 0)) 36 1) 37 (u0_ 0)))), ((q0 0), zi k1 600 f1)] H1 := hP.sub [0, 1] rfl
          have hD : va_D A [(h0, .inr (13, mX13 q0 (upd (upd (upd v0 35 (u0_ 0)) 36 1) 37 (u0_ 0)))), ((q0 0), zi k1 600 f1)] := hD.sub [0, 1] (by decide) rfl
          generalize H1 = H at hP hS ⊢
          clear hz1
          have b_ := hX97_4 (by omega) (by rw [← e_z75]; exact hX76_0 (by omega))
          refine va_put (D := (dC, dI)) (ci := 13) (v := .int r97_) (ty := .int) (C := RX13) (T := TX13) (N := 75) hx hb hG zuX13 tyX13 tyX13_ok nmX13 hown hK hP hD hS 0 rfl rfl 35 (by decide) (hG _ zv1639) (fun _ h9 => h9) rfl (by decide +kernel) rfl rfl (Nat.le_of_ble_eq_true rfl) dX13_look1_100 (fun H locs hP hD hS => ?_)
          have hP : va_P (dC, dI) vwCl [(h0, .inr (13, mX13 q0 (upd (upd (upd v0 35 r97_) 36 1) 37 (u0_ 0)))), ((q0 0), zi k1 600 f1)] H := hP
          have hD : va_D A [(h0, .inr (13, mX13 q0 (upd (upd (upd v0 35 r97_) 36 1) 37 (u0_ 0)))), ((q0 0), zi k1 600 f1)] := hD
          refine lv_goto (tgt := 168) hx hb dX13_look1_103 (by decide) ?_
          refine W.widen (k := 0) (n := 0) (by decide) (by decide) ?_
          have hpost : (0 ≤ r97_.toInt ∧ r97_.toInt ≤ 600) ∧ (0 ≤ (1 : Int32).toInt ∧ (1 : Int32).toInt ≤ 3) ∧ (0 ≤ (u0_ 0).toInt ∧ (u0_ 0).toInt ≤ 600) ∧ (r97_.toInt ≤ (v0 34).toInt) ∧ ((v0 35).toInt ≤ (u0_ 0).toInt) ∧ ((u0_ 0).toInt ≤ r97_.toInt) ∧ ((1 : Int32).toInt ≠ 0 → (u0_ 0).toInt < r97_.toInt) ∧ ((1 : Int32).toInt = 0 → (u0_ 0).toInt = (v0 34).toInt) ∧ (zBl f1 (v0 34).toInt (v0 35).toInt (u0_ 0).toInt) ∧ (zMl f1 (v0 34).toInt (u0_ 0).toInt (1 : Int32).toInt r97_.toInt) := ⟨⟨by omega, by omega⟩, ⟨by omega, by omega⟩, ⟨by omega, by omega⟩, by omega, by omega, by omega, by omega, by omega, by first | exact ⟨by omega, hI0_2, fun h_ => by omega, by omega⟩ | exact ⟨by omega, hI0_2, fun h_ => by have b9 := hX21_1 (by omega); rw [e_z20] at b9; exact b9, by omega⟩, by first | exact Or.inl ⟨by omega, by first | omega | decide⟩ | exact Or.inr (Or.inl ⟨by omega, by have t_ := hX76_0 (by omega); rw [e_z75] at t_; exact t_, by first | omega | decide, ⟨by omega, hX97_5, hX97_3, by omega⟩⟩) | exact Or.inr (Or.inr (Or.inl ⟨by omega, fun t_ => hX76_1 (by omega) (by rw [e_z75]; exact t_), ⟨zgt e_z114 (by omega) (by omega), by omega, zgu (hX127_1 (by omega)) (by omega) (by omega)⟩, by first | omega | decide, by omega⟩)) | exact Or.inr (Or.inr (Or.inr ⟨by omega, fun t_ => hX76_1 (by omega) (by rw [e_z75]; exact t_), fun d_ => absurd ((zgt e_z114 (by omega) rfl).symm.trans d_.1) (by omega), by first | omega | decide, by omega⟩)) | exact Or.inr (Or.inr (Or.inr ⟨by omega, fun t_ => hX76_1 (by omega) (by rw [e_z75]; exact t_), fun d_ => absurd ((zgu (hX127_1 (by have d1_ := d_.2.1; omega)) (by omega) rfl).symm.trans d_.2.2) (by omega), by first | omega | decide, by omega⟩))⟩
          have hP9 : va_P (dC, dI) vwCl [(h0, .inr (13, mX13 q0 (upd (upd (upd v0 35 r97_) 36 1) 37 (u0_ 0)))), ((q0 0), zi k1 600 f1)] H := hP
          have hD9 : va_D A [(h0, .inr (13, mX13 q0 (upd (upd (upd v0 35 r97_) 36 1) 37 (u0_ 0)))), ((q0 0), zi k1 600 f1)] := hD
          exact W.vret hx hb hr (fun t ht hW => ⟨⟨(fun i => ([r97_, 1, (u0_ 0)] : List (Int32)).getD i 0), rfl, hpost, (fun _ => 0), (fun _ => (fun _ => 0)), (fun _ => (fun _ => 0)), by rw [ht]; exact hP9, va_K.moved hW.alike hK, hD9⟩, hS.F ht⟩) hS.2.2 dX13_look1_168
      · skip
        have b_ := zF_ne rfl rfl c_
        refine lv_aload_n hx hb dX13_look1_59 rfl (lv_at hl 0 rfl) ?_
        refine lv_iconst (v := 0) hx hb dX13_look1_60 (by decide) ?_
        refine va_put (D := (dC, dI)) (ci := 13) (v := .int 0) (ty := .int) (C := RX13) (T := TX13) (N := 75) hx hb hG zuX13 tyX13 tyX13_ok nmX13 hown hK hP hD hS 0 rfl rfl 36 (by decide) (hG _ zv1640) (fun _ h9 => h9) rfl (by decide +kernel) rfl rfl (Nat.le_of_ble_eq_true rfl) dX13_look1_61 (fun H locs hP hD hS => ?_)
        have hP : va_P (dC, dI) vwCl [(h0, .inr (13, mX13 q0 (upd (upd (upd v0 35 (u0_ 0)) 36 0) 37 (u0_ 0)))), ((q0 0), zi k1 600 f1)] H := hP
        have hD : va_D A [(h0, .inr (13, mX13 q0 (upd (upd (upd v0 35 (u0_ 0)) 36 0) 37 (u0_ 0)))), ((q0 0), zi k1 600 f1)] := hD
        refine lv_goto (tgt := 168) hx hb dX13_look1_64 (by decide) ?_
        refine W.widen (k := 0) (n := 0) (by decide) (by decide) ?_
        have hpost : (0 ≤ (u0_ 0).toInt ∧ (u0_ 0).toInt ≤ 600) ∧ (0 ≤ (0 : Int32).toInt ∧ (0 : Int32).toInt ≤ 3) ∧ (0 ≤ (u0_ 0).toInt ∧ (u0_ 0).toInt ≤ 600) ∧ ((u0_ 0).toInt ≤ (v0 34).toInt) ∧ ((v0 35).toInt ≤ (u0_ 0).toInt) ∧ ((u0_ 0).toInt ≤ (u0_ 0).toInt) ∧ ((0 : Int32).toInt ≠ 0 → (u0_ 0).toInt < (u0_ 0).toInt) ∧ ((0 : Int32).toInt = 0 → (u0_ 0).toInt = (v0 34).toInt) ∧ (zBl f1 (v0 34).toInt (v0 35).toInt (u0_ 0).toInt) ∧ (zMl f1 (v0 34).toInt (u0_ 0).toInt (0 : Int32).toInt (u0_ 0).toInt) := ⟨⟨by omega, by omega⟩, ⟨by omega, by omega⟩, ⟨by omega, by omega⟩, by omega, by omega, by omega, by omega, by omega, by first | exact ⟨by omega, hI0_2, fun h_ => by omega, by omega⟩ | exact ⟨by omega, hI0_2, fun h_ => by have b9 := hX21_1 (by omega); rw [e_z20] at b9; exact b9, by omega⟩, by first | exact Or.inl ⟨by omega, by first | omega | decide⟩ | exact Or.inr (Or.inl ⟨by omega, by have t_ := hX76_0 (by omega); rw [e_z75] at t_; exact t_, by first | omega | decide, ⟨by omega, hX97_5, hX97_3, by omega⟩⟩) | exact Or.inr (Or.inr (Or.inl ⟨by omega, fun t_ => hX76_1 (by omega) (by rw [e_z75]; exact t_), ⟨zgt e_z114 (by omega) (by omega), by omega, zgu (hX127_1 (by omega)) (by omega) (by omega)⟩, by first | omega | decide, by omega⟩)) | exact Or.inr (Or.inr (Or.inr ⟨by omega, fun t_ => hX76_1 (by omega) (by rw [e_z75]; exact t_), fun d_ => absurd ((zgt e_z114 (by omega) rfl).symm.trans d_.1) (by omega), by first | omega | decide, by omega⟩)) | exact Or.inr (Or.inr (Or.inr ⟨by omega, fun t_ => hX76_1 (by omega) (by rw [e_z75]; exact t_), fun d_ => absurd ((zgu (hX127_1 (by have d1_ := d_.2.1; omega)) (by omega) rfl).symm.trans d_.2.2) (by omega), by first | omega | decide, by omega⟩))⟩
        have hP9 : va_P (dC, dI) vwCl [(h0, .inr (13, mX13 q0 (upd (upd (upd v0 35 (u0_ 0)) 36 0) 37 (u0_ 0)))), ((q0 0), zi k1 600 f1)] H := hP
        have hD9 : va_D A [(h0, .inr (13, mX13 q0 (upd (upd (upd v0 35 (u0_ 0)) 36 0) 37 (u0_ 0)))), ((q0 0), zi k1 600 f1)] := hD
        exact W.vret hx hb hr (fun t ht hW => ⟨⟨(fun i => ([(u0_ 0), 0, (u0_ 0)] : List (Int32)).getD i 0), rfl, hpost, (fun _ => 0), (fun _ => (fun _ => 0)), (fun _ => (fun _ => 0)), by rw [ht]; exact hP9, va_K.moved hW.alike hK, hD9⟩, hS.F ht⟩) hS.2.2 dX13_look1_168
    · skip
      have b_ := zF_ge rfl rfl c_
      refine lv_aload_n hx hb dX13_look1_11 rfl (lv_at hl 0 rfl) ?_
      refine lv_aload_n hx hb dX13_look1_12 rfl (lv_at hl 0 rfl) ?_
      refine va_get (D := (dC, dI)) (ci := 13) (v := .ref (q0 0)) (C := RX13) (T := TX13) (N := 75) hx hb hG zuX13 hown hK hP 0 rfl rfl 0 (by decide) (hG _ zv1604) (fun _ h9 => h9) rfl dX13_look1_13 ?_
      refine lv_aload_n hx hb dX13_look1_16 rfl (lv_at hl 0 rfl) ?_
      refine va_get (D := (dC, dI)) (ci := 13) (v := .int (u0_ 0)) (C := RX13) (T := TX13) (N := 75) hx hb hG zuX13 hown hK hP 0 rfl rfl 35 (by decide) (hG _ zv1639) (fun _ h9 => h9) rfl dX13_look1_17 ?_
      refine va_bald hx hb hK hP 1 0 rfl rfl (zin_lit ⟨by omega, by omega⟩) dX13_look1_20 ?_
      refine lv_topi (fun z20 e_z20 => ?_)
      have hPc := hP.sub (ws' := []) [] rfl
      have hDc := hD.sub (ws' := []) [] (by decide) rfl
      have hKc := hK.sub (tys' := []) [] rfl
      have hFc := va_free (wc := []) hD hS hA [] rfl
      refine va_calli (va_runV (As := [.int z20]) (rest := []) ⟨hx, hb, hml, hown, hG⟩ (sX13_isBlank_0 l dC dI adK adV h0 H.size z20) (cwV 1 hG (zgV zv2042 zv2044 zv82 zv142 zv2045) rfl rfl rfl (by decide +kernel) ⟨Nat.le_of_ble_eq_true rfl, Nat.le_of_ble_eq_true rfl⟩) ⟨zPc_blind, va_recv hK hP (ci := 13) (q0 := 0) rfl rfl, zPc_pre hPc hKc hDc hE hS hFc hZ⟩ rfl rfl hl.1 rfl (lv_room (Nat.le_of_ble_eq_true rfl)) dX13_look1_21 ⟨Nat.le_of_ble_eq_true rfl, Nat.le_of_ble_eq_true rfl⟩) hS (fun q _ h => hFc q h) hFc (fun r21_ u21_ t H1 locs ht hvm hw hB hz1 hk1 hS => ?_)
      replace hw : (0 ≤ r21_.toInt ∧ r21_.toInt ≤ 1) ∧ (r21_.toInt = 1 → zBk z20.toInt) ∧ (r21_.toInt = 0 → ¬ zBk z20.toInt) := hw
      obtain ⟨b_, hX21_0, hX21_1⟩ := hw
      obtain ⟨w21_, a21_, b21_, hP1, hK1, hD1⟩ := hB
      rw [ht] at hP1
      obtain ⟨hP, hD⟩ := va_join (wr := [(h0, .inr (13, mX13 q0 (upd v0 35 (u0_ 0)))), ((q0 0), zi k1 600 f1)]) (w1 := []) hP hD [] [0, 1] rfl rfl (by decide) (by decide) hk1 hFc hP1 hD1
      have hP : va_P (dC, dI) vwCl [(h0, .inr (13, mX13 q0 (upd v0 35 (u0_ 0)))), ((q0 0), zi k1 600 f1)] H1 := hP.sub [0, 1] rfl
      have hD : va_D A [(h0, .inr (13, mX13 q0 (upd v0 35 (u0_ 0)))), ((q0 0), zi k1 600 f1)] := hD.sub [0, 1] (by decide) rfl
      generalize H1 = H at hP hS ⊢
      clear hz1
      refine lv_if_eq (tgt := 40) hx hb dX13_look1_24 (by decide) (fun c_ => ?_) (fun c_ => ?_)
      · skip
        have b_ := zT_eq rfl zk_0 c_
        refine lv_aload_n hx hb dX13_look1_40 rfl (lv_at hl 0 rfl) ?_
        refine lv_aload_n hx hb dX13_look1_41 rfl (lv_at hl 0 rfl) ?_
        refine va_get (D := (dC, dI)) (ci := 13) (v := .int (u0_ 0)) (C := RX13) (T := TX13) (N := 75) hx hb hG zuX13 hown hK hP 0 rfl rfl 35 (by decide) (hG _ zv1639) (fun _ h9 => h9) rfl dX13_look1_42 ?_
        refine va_put (D := (dC, dI)) (ci := 13) (v := .int (u0_ 0)) (ty := .int) (C := RX13) (T := TX13) (N := 75) hx hb hG zuX13 tyX13 tyX13_ok nmX13 hown hK hP hD hS 0 rfl rfl 37 (by decide) (hG _ zv1641) (fun _ h9 => h9) rfl (by decide +kernel) rfl rfl (Nat.le_of_ble_eq_true rfl) dX13_look1_45 (fun H locs hP hD hS => ?_)
        have hP : va_P (dC, dI) vwCl [(h0, .inr (13, mX13 q0 (upd (upd v0 35 (u0_ 0)) 37 (u0_ 0)))), ((q0 0), zi k1 600 f1)] H := hP
        have hD : va_D A [(h0, .inr (13, mX13 q0 (upd (upd v0 35 (u0_ 0)) 37 (u0_ 0)))), ((q0 0), zi k1 600 f1)] := hD
        refine lv_aload_n hx hb dX13_look1_48 rfl (lv_at hl 0 rfl) ?_
        refine va_get (D := (dC, dI)) (ci := 13) (v := .int (u0_ 0)) (C := RX13) (T := TX13) (N := 75) hx hb hG zuX13 hown hK hP 0 rfl rfl 37 (by decide) (hG _ zv1641) (fun _ h9 => h9) rfl dX13_look1_49 ?_
        refine lv_aload_n hx hb dX13_look1_52 rfl (lv_at hl 0 rfl) ?_
        refine va_get (D := (dC, dI)) (ci := 13) (v := .int (v0 34)) (C := RX13) (T := TX13) (N := 75) hx hb hG zuX13 hown hK hP 0 rfl rfl 34 (by decide) (hG _ zv1638) (fun _ h9 => h9) rfl dX13_look1_53 ?_
        refine lv_icmp_ne (tgt := 67) hx hb dX13_look1_56 (by decide) (fun c_ => ?_) (fun c_ => ?_)
        · skip
          have b_ := zT_ne rfl rfl c_
          refine lv_aload_n hx hb dX13_look1_67 rfl (lv_at hl 0 rfl) ?_
          refine va_get (D := (dC, dI)) (ci := 13) (v := .ref (q0 0)) (C := RX13) (T := TX13) (N := 75) hx hb hG zuX13 hown hK hP 0 rfl rfl 0 (by decide) (hG _ zv1604) (fun _ h9 => h9) rfl dX13_look1_68 ?_
          refine lv_aload_n hx hb dX13_look1_71 rfl (lv_at hl 0 rfl) ?_
          refine va_get (D := (dC, dI)) (ci := 13) (v := .int (u0_ 0)) (C := RX13) (T := TX13) (N := 75) hx hb hG zuX13 hown hK hP 0 rfl rfl 37 (by decide) (hG _ zv1641) (fun _ h9 => h9) rfl dX13_look1_72 ?_
          refine va_bald hx hb hK hP 1 0 rfl rfl (zin_lit ⟨by omega, by omega⟩) dX13_look1_75 ?_
          refine lv_topi (fun z75 e_z75 => ?_)
          have hPc := hP.sub (ws' := []) [] rfl
          have hDc := hD.sub (ws' := []) [] (by decide) rfl
          have hKc := hK.sub (tys' := []) [] rfl
          have hFc := va_free (wc := []) hD hS hA [] rfl
          refine va_calli (va_runS (As := [.int z75]) (rest := []) ⟨hx, hb, hml, hown, hG⟩ (sX13_isToken_0 l dC dI adK adV H.size z75) (va_cwS 1 hG (zgS zv1846 zv1847 zv142 zv1848) rfl rfl rfl (by decide +kernel) ⟨Nat.le_of_ble_eq_true rfl, Nat.le_of_ble_eq_true rfl⟩) ⟨zPc_blind, zPc_pre hPc hKc hDc hE hS hFc hZ⟩ rfl rfl hl.1 rfl (lv_room (Nat.le_of_ble_eq_true rfl)) dX13_look1_76 ⟨Nat.le_of_ble_eq_true rfl, Nat.le_of_ble_eq_true rfl⟩) hS (fun q _ h => hFc q h) hFc (fun r76_ u76_ t H1 locs ht hvm hw hB hz1 hk1 hS => ?_)
          replace hw : (0 ≤ r76_.toInt ∧ r76_.toInt ≤ 1) ∧ (r76_.toInt = 1 → zTok z75.toInt) ∧ (r76_.toInt = 0 → ¬ zTok z75.toInt) := hw
          obtain ⟨b_, hX76_0, hX76_1⟩ := hw
          obtain ⟨w76_, a76_, b76_, hP1, hK1, hD1⟩ := hB
          rw [ht] at hP1
          obtain ⟨hP, hD⟩ := va_join (wr := [(h0, .inr (13, mX13 q0 (upd (upd v0 35 (u0_ 0)) 37 (u0_ 0)))), ((q0 0), zi k1 600 f1)]) (w1 := []) hP hD [] [0, 1] rfl rfl (by decide) (by decide) hk1 hFc hP1 hD1
          have hP : va_P (dC, dI) vwCl [(h0, .inr (13, mX13 q0 (upd (upd v0 35 (u0_ 0)) 37 (u0_ 0)))), ((q0 0), zi k1 600 f1)] H1 := hP.sub [0, 1] rfl
          have hD : va_D A [(h0, .inr (13, mX13 q0 (upd (upd v0 35 (u0_ 0)) 37 (u0_ 0)))), ((q0 0), zi k1 600 f1)] := hD.sub [0, 1] (by decide) rfl
          generalize H1 = H at hP hS ⊢
          clear hz1
          refine lv_if_eq (tgt := 106) hx hb dX13_look1_79 (by decide) (fun c_ => ?_) (fun c_ => ?_)
          · skip
            have b_ := zT_eq rfl zk_0 c_
            refine lv_aload_n hx hb dX13_look1_106 rfl (lv_at hl 0 rfl) ?_
            refine va_get (D := (dC, dI)) (ci := 13) (v := .ref (q0 0)) (C := RX13) (T := TX13) (N := 75) hx hb hG zuX13 hown hK hP 0 rfl rfl 0 (by decide) (hG _ zv1604) (fun _ h9 => h9) rfl dX13_look1_107 ?_
            refine lv_aload_n hx hb dX13_look1_110 rfl (lv_at hl 0 rfl) ?_
            refine va_get (D := (dC, dI)) (ci := 13) (v := .int (u0_ 0)) (C := RX13) (T := TX13) (N := 75) hx hb hG zuX13 hown hK hP 0 rfl rfl 37 (by decide) (hG _ zv1641) (fun _ h9 => h9) rfl dX13_look1_111 ?_
            refine va_bald hx hb hK hP 1 0 rfl rfl (zin_lit ⟨by omega, by omega⟩) dX13_look1_114 ?_
            refine lv_topi (fun z114 e_z114 => ?_)
            refine lv_bipush (v := 46) hx hb dX13_look1_115 (by decide) ?_
            have b_ : -2147483648 ≤ z114.toInt ∧ z114.toInt ≤ 2147483647 := ⟨zlo _, zhi _⟩
            refine lv_icmp_ne (tgt := 153) hx hb dX13_look1_117 (by decide) (fun c_ => ?_) (fun c_ => ?_)
            · skip
              have b_ := zT_ne rfl zk_46 c_
              refine lv_aload_n hx hb dX13_look1_153 rfl (lv_at hl 0 rfl) ?_
              refine lv_iconst (v := 2) hx hb dX13_look1_154 (by decide) ?_
              refine va_put (D := (dC, dI)) (ci := 13) (v := .int 2) (ty := .int) (C := RX13) (T := TX13) (N := 75) hx hb hG zuX13 tyX13 tyX13_ok nmX13 hown hK hP hD hS 0 rfl rfl 36 (by decide) (hG _ zv1640) (fun _ h9 => h9) rfl (by decide +kernel) rfl rfl (Nat.le_of_ble_eq_true rfl) dX13_look1_155 (fun H locs hP hD hS => ?_)
              have hP : va_P (dC, dI) vwCl [(h0, .inr (13, mX13 q0 (upd (upd (upd v0 35 (u0_ 0)) 36 2) 37 (u0_ 0)))), ((q0 0), zi k1 600 f1)] H := hP
              have hD : va_D A [(h0, .inr (13, mX13 q0 (upd (upd (upd v0 35 (u0_ 0)) 36 2) 37 (u0_ 0)))), ((q0 0), zi k1 600 f1)] := hD
              refine lv_aload_n hx hb dX13_look1_158 rfl (lv_at hl 0 rfl) ?_
              refine lv_aload_n hx hb dX13_look1_159 rfl (lv_at hl 0 rfl) ?_
              refine va_get (D := (dC, dI)) (ci := 13) (v := .int (u0_ 0)) (C := RX13) (T := TX13) (N := 75) hx hb hG zuX13 hown hK hP 0 rfl rfl 37 (by decide) (hG _ zv1641) (fun _ h9 => h9) rfl dX13_look1_160 ?_
              refine lv_iconst (v := 1) hx hb dX13_look1_163 (by decide) ?_
              refine lv_iadd hx hb dX13_look1_164 ?_
              refine lv_topi (fun z164 e_z164 => ?_)
              have b_ := zadd rfl zk_1 e_z164 (by omega) (by omega)
              refine va_put (D := (dC, dI)) (ci := 13) (v := .int z164) (ty := .int) (C := RX13) (T := TX13) (N := 75) hx hb hG zuX13 tyX13 tyX13_ok nmX13 hown hK hP hD hS 0 rfl rfl 35 (by decide) (hG _ zv1639) (fun _ h9 => h9) rfl (by decide +kernel) rfl rfl (Nat.le_of_ble_eq_true rfl) dX13_look1_165 (fun H locs hP hD hS => ?_)
              have hP : va_P (dC, dI) vwCl [(h0, .inr (13, mX13 q0 (upd (upd (upd v0 35 z164) 36 2) 37 (u0_ 0)))), ((q0 0), zi k1 600 f1)] H := hP
              have hD : va_D A [(h0, .inr (13, mX13 q0 (upd (upd (upd v0 35 z164) 36 2) 37 (u0_ 0)))), ((q0 0), zi k1 600 f1)] := hD
              refine W.widen (k := 0) (n := 0) (by decide) (by decide) ?_
              have hpost : (0 ≤ z164.toInt ∧ z164.toInt ≤ 600) ∧ (0 ≤ (2 : Int32).toInt ∧ (2 : Int32).toInt ≤ 3) ∧ (0 ≤ (u0_ 0).toInt ∧ (u0_ 0).toInt ≤ 600) ∧ (z164.toInt ≤ (v0 34).toInt) ∧ ((v0 35).toInt ≤ (u0_ 0).toInt) ∧ ((u0_ 0).toInt ≤ z164.toInt) ∧ ((2 : Int32).toInt ≠ 0 → (u0_ 0).toInt < z164.toInt) ∧ ((2 : Int32).toInt = 0 → (u0_ 0).toInt = (v0 34).toInt) ∧ (zBl f1 (v0 34).toInt (v0 35).toInt (u0_ 0).toInt) ∧ (zMl f1 (v0 34).toInt (u0_ 0).toInt (2 : Int32).toInt z164.toInt) := ⟨⟨by omega, by omega⟩, ⟨by omega, by omega⟩, ⟨by omega, by omega⟩, by omega, by omega, by omega, by omega, by omega, by first | exact ⟨by omega, hI0_2, fun h_ => by omega, by omega⟩ | exact ⟨by omega, hI0_2, fun h_ => by have b9 := hX21_1 (by omega); rw [e_z20] at b9; exact b9, by omega⟩, by first | exact Or.inl ⟨by omega, by first | omega | decide⟩ | exact Or.inr (Or.inl ⟨by omega, by have t_ := hX76_0 (by omega); rw [e_z75] at t_; exact t_, by first | omega | decide, ⟨by omega, hX97_5, hX97_3, by omega⟩⟩) | exact Or.inr (Or.inr (Or.inl ⟨by omega, fun t_ => hX76_1 (by omega) (by rw [e_z75]; exact t_), ⟨zgt e_z114 (by omega) (by omega), by omega, zgu (hX127_1 (by omega)) (by omega) (by omega)⟩, by first | omega | decide, by omega⟩)) | exact Or.inr (Or.inr (Or.inr ⟨by omega, fun t_ => hX76_1 (by omega) (by rw [e_z75]; exact t_), fun d_ => absurd ((zgt e_z114 (by omega) rfl).symm.trans d_.1) (by omega), by first | omega | decide, by omega⟩)) | exact Or.inr (Or.inr (Or.inr ⟨by omega, fun t_ => hX76_1 (by omega) (by rw [e_z75]; exact t_), fun d_ => absurd ((zgu (hX127_1 (by have d1_ := d_.2.1; omega)) (by omega) rfl).symm.trans d_.2.2) (by omega), by first | omega | decide, by omega⟩))⟩
              have hP9 : va_P (dC, dI) vwCl [(h0, .inr (13, mX13 q0 (upd (upd (upd v0 35 z164) 36 2) 37 (u0_ 0)))), ((q0 0), zi k1 600 f1)] H := hP
              have hD9 : va_D A [(h0, .inr (13, mX13 q0 (upd (upd (upd v0 35 z164) 36 2) 37 (u0_ 0)))), ((q0 0), zi k1 600 f1)] := hD
              exact W.vret hx hb hr (fun t ht hW => ⟨⟨(fun i => ([z164, 2, (u0_ 0)] : List (Int32)).getD i 0), rfl, hpost, (fun _ => 0), (fun _ => (fun _ => 0)), (fun _ => (fun _ => 0)), by rw [ht]; exact hP9, va_K.moved hW.alike hK, hD9⟩, hS.F ht⟩) hS.2.2 dX13_look1_168
            · skip
              have b_ := zF_ne rfl zk_46 c_
              refine lv_aload_n hx hb dX13_look1_120 rfl (lv_at hl 0 rfl) ?_
              refine lv_aload_n hx hb dX13_look1_121 rfl (lv_at hl 0 rfl) ?_
              refine va_get (D := (dC, dI)) (ci := 13) (v := .int (u0_ 0)) (C := RX13) (T := TX13) (N := 75) hx hb hG zuX13 hown hK hP 0 rfl rfl 37 (by decide) (hG _ zv1641) (fun _ h9 => h9) rfl dX13_look1_122 ?_
              refine lv_iconst (v := 1) hx hb dX13_look1_125 (by decide) ?_
              refine lv_iadd hx hb dX13_look1_126 ?_
              refine lv_topi (fun z126 e_z126 => ?_)
              have b_ := zadd rfl zk_1 e_z126 (by omega) (by omega)
              have hPc := hP.sub (ws' := [(h0, .inr (13, mX13 q0 (upd (upd v0 35 (u0_ 0)) 37 (u0_ 0)))), ((q0 0), zi k1 600 f1)]) [0, 1] rfl
              have hDc := hD.sub (ws' := [(h0, .inr (13, mX13 q0 (upd (upd v0 35 (u0_ 0)) 37 (u0_ 0)))), ((q0 0), zi k1 600 f1)]) [0, 1] (by decide) rfl
              have hKc := hK.sub (tys' := [(k1, .byte)]) [0] rfl
              have hFc := va_free (wc := [(h0, .inr (13, mX13 q0 (upd (upd v0 35 (u0_ 0)) 37 (u0_ 0)))), ((q0 0), zi k1 600 f1)]) hD hS hA [0, 1] rfl
              refine va_calli (va_runV (As := [.int z126]) (rest := []) ⟨hx, hb, hml, hown, hG⟩ (sX13_byteAt_0 l dC dI adK adV h0 q0 k1 H.size (upd (upd v0 35 (u0_ 0)) 37 (u0_ 0)) f1 z126 (zR_upd (zR_upd hv0 35 (show (0 : Int) ≤ ((u0_ 0) : Int32).toInt from by omega) (show ((u0_ 0) : Int32).toInt ≤ (600 : Int) from by omega)) 37 (show (0 : Int) ≤ ((u0_ 0) : Int32).toInt from by omega) (show ((u0_ 0) : Int32).toInt ≤ (600 : Int) from by omega)) ⟨show (0 : Int) ≤ (z126 : Int32).toInt from by omega, show (z126 : Int32).toInt ≤ (602 : Int) from by omega⟩) (cwV 1 hG (zgV zv2046 zv2048 zv83 zv142 zv2049) rfl rfl rfl (by decide +kernel) ⟨Nat.le_of_ble_eq_true rfl, Nat.le_of_ble_eq_true rfl⟩) ⟨zPc_blind, va_recv hKc hPc (ci := 13) (q0 := 0) rfl rfl, zPc_pre hPc hKc hDc hE hS hFc hZ⟩ rfl rfl hl.1 rfl (lv_room (Nat.le_of_ble_eq_true rfl)) dX13_look1_127 ⟨Nat.le_of_ble_eq_true rfl, Nat.le_of_ble_eq_true rfl⟩) hS (fun q _ h => hFc q h) hFc (fun r127_ u127_ t H1 locs ht hvm hw hB hz1 hk1 hS => ?_)
              replace hw : (r127_.toInt ≠ 0 → z126.toInt < (v0 34).toInt) ∧ (z126.toInt < (v0 34).toInt → r127_.toInt = (f1 ((z126 : Int32)).toNatClampNeg).toInt) ∧ ((v0 34).toInt ≤ z126.toInt → r127_.toInt = 0) := hw
              obtain ⟨hX127_0, hX127_1, hX127_2⟩ := hw
              obtain ⟨w127_, a127_, b127_, hP1, hK1, hD1⟩ := hB
              rw [ht] at hP1
              obtain ⟨hP, hD⟩ := va_join (wr := []) (w1 := [(h0, .inr (13, mX13 q0 (upd (upd v0 35 (u0_ 0)) 37 (u0_ 0)))), ((q0 0), zi k1 600 f1)]) hP hD [0, 1] [] rfl rfl (by decide) (by decide) hk1 hFc hP1 hD1
              have hP : va_P (dC, dI) vwCl [(h0, .inr (13, mX13 q0 (upd (upd v0 35 (u0_ 0)) 37 (u0_ 0)))), ((q0 0), zi k1 600 f1)] H1 := hP.sub [0, 1] rfl
              have hD : va_D A [(h0, .inr (13, mX13 q0 (upd (upd v0 35 (u0_ 0)) 37 (u0_ 0)))), ((q0 0), zi k1 600 f1)] := hD.sub [0, 1] (by decide) rfl
              generalize H1 = H at hP hS ⊢
              clear hz1
              refine lv_bipush (v := 46) hx hb dX13_look1_130 (by decide) ?_
              have b_ : -2147483648 ≤ r127_.toInt ∧ r127_.toInt ≤ 2147483647 := ⟨zlo _, zhi _⟩
              refine lv_icmp_ne (tgt := 153) hx hb dX13_look1_132 (by decide) (fun c_ => ?_) (fun c_ => ?_)
              · skip
                have b_ := zT_ne rfl zk_46 c_
                refine lv_aload_n hx hb dX13_look1_153 rfl (lv_at hl 0 rfl) ?_
                refine lv_iconst (v := 2) hx hb dX13_look1_154 (by decide) ?_
                refine va_put (D := (dC, dI)) (ci := 13) (v := .int 2) (ty := .int) (C := RX13) (T := TX13) (N := 75) hx hb hG zuX13 tyX13 tyX13_ok nmX13 hown hK hP hD hS 0 rfl rfl 36 (by decide) (hG _ zv1640) (fun _ h9 => h9) rfl (by decide +kernel) rfl rfl (Nat.le_of_ble_eq_true rfl) dX13_look1_155 (fun H locs hP hD hS => ?_)
                have hP : va_P (dC, dI) vwCl [(h0, .inr (13, mX13 q0 (upd (upd (upd v0 35 (u0_ 0)) 36 2) 37 (u0_ 0)))), ((q0 0), zi k1 600 f1)] H := hP
                have hD : va_D A [(h0, .inr (13, mX13 q0 (upd (upd (upd v0 35 (u0_ 0)) 36 2) 37 (u0_ 0)))), ((q0 0), zi k1 600 f1)] := hD
                refine lv_aload_n hx hb dX13_look1_158 rfl (lv_at hl 0 rfl) ?_
                refine lv_aload_n hx hb dX13_look1_159 rfl (lv_at hl 0 rfl) ?_
                refine va_get (D := (dC, dI)) (ci := 13) (v := .int (u0_ 0)) (C := RX13) (T := TX13) (N := 75) hx hb hG zuX13 hown hK hP 0 rfl rfl 37 (by decide) (hG _ zv1641) (fun _ h9 => h9) rfl dX13_look1_160 ?_
                refine lv_iconst (v := 1) hx hb dX13_look1_163 (by decide) ?_
                refine lv_iadd hx hb dX13_look1_164 ?_
                refine lv_topi (fun z164 e_z164 => ?_)
                have b_ := zadd rfl zk_1 e_z164 (by omega) (by omega)
                refine va_put (D := (dC, dI)) (ci := 13) (v := .int z164) (ty := .int) (C := RX13) (T := TX13) (N := 75) hx hb hG zuX13 tyX13 tyX13_ok nmX13 hown hK hP hD hS 0 rfl rfl 35 (by decide) (hG _ zv1639) (fun _ h9 => h9) rfl (by decide +kernel) rfl rfl (Nat.le_of_ble_eq_true rfl) dX13_look1_165 (fun H locs hP hD hS => ?_)
                have hP : va_P (dC, dI) vwCl [(h0, .inr (13, mX13 q0 (upd (upd (upd v0 35 z164) 36 2) 37 (u0_ 0)))), ((q0 0), zi k1 600 f1)] H := hP
                have hD : va_D A [(h0, .inr (13, mX13 q0 (upd (upd (upd v0 35 z164) 36 2) 37 (u0_ 0)))), ((q0 0), zi k1 600 f1)] := hD
                refine W.widen (k := 0) (n := 0) (by decide) (by decide) ?_
                have hpost : (0 ≤ z164.toInt ∧ z164.toInt ≤ 600) ∧ (0 ≤ (2 : Int32).toInt ∧ (2 : Int32).toInt ≤ 3) ∧ (0 ≤ (u0_ 0).toInt ∧ (u0_ 0).toInt ≤ 600) ∧ (z164.toInt ≤ (v0 34).toInt) ∧ ((v0 35).toInt ≤ (u0_ 0).toInt) ∧ ((u0_ 0).toInt ≤ z164.toInt) ∧ ((2 : Int32).toInt ≠ 0 → (u0_ 0).toInt < z164.toInt) ∧ ((2 : Int32).toInt = 0 → (u0_ 0).toInt = (v0 34).toInt) ∧ (zBl f1 (v0 34).toInt (v0 35).toInt (u0_ 0).toInt) ∧ (zMl f1 (v0 34).toInt (u0_ 0).toInt (2 : Int32).toInt z164.toInt) := ⟨⟨by omega, by omega⟩, ⟨by omega, by omega⟩, ⟨by omega, by omega⟩, by omega, by omega, by omega, by omega, by omega, by first | exact ⟨by omega, hI0_2, fun h_ => by omega, by omega⟩ | exact ⟨by omega, hI0_2, fun h_ => by have b9 := hX21_1 (by omega); rw [e_z20] at b9; exact b9, by omega⟩, by first | exact Or.inl ⟨by omega, by first | omega | decide⟩ | exact Or.inr (Or.inl ⟨by omega, by have t_ := hX76_0 (by omega); rw [e_z75] at t_; exact t_, by first | omega | decide, ⟨by omega, hX97_5, hX97_3, by omega⟩⟩) | exact Or.inr (Or.inr (Or.inl ⟨by omega, fun t_ => hX76_1 (by omega) (by rw [e_z75]; exact t_), ⟨zgt e_z114 (by omega) (by omega), by omega, zgu (hX127_1 (by omega)) (by omega) (by omega)⟩, by first | omega | decide, by omega⟩)) | exact Or.inr (Or.inr (Or.inr ⟨by omega, fun t_ => hX76_1 (by omega) (by rw [e_z75]; exact t_), fun d_ => absurd ((zgt e_z114 (by omega) rfl).symm.trans d_.1) (by omega), by first | omega | decide, by omega⟩)) | exact Or.inr (Or.inr (Or.inr ⟨by omega, fun t_ => hX76_1 (by omega) (by rw [e_z75]; exact t_), fun d_ => absurd ((zgu (hX127_1 (by have d1_ := d_.2.1; omega)) (by omega) rfl).symm.trans d_.2.2) (by omega), by first | omega | decide, by omega⟩))⟩
                have hP9 : va_P (dC, dI) vwCl [(h0, .inr (13, mX13 q0 (upd (upd (upd v0 35 z164) 36 2) 37 (u0_ 0)))), ((q0 0), zi k1 600 f1)] H := hP
                have hD9 : va_D A [(h0, .inr (13, mX13 q0 (upd (upd (upd v0 35 z164) 36 2) 37 (u0_ 0)))), ((q0 0), zi k1 600 f1)] := hD
                exact W.vret hx hb hr (fun t ht hW => ⟨⟨(fun i => ([z164, 2, (u0_ 0)] : List (Int32)).getD i 0), rfl, hpost, (fun _ => 0), (fun _ => (fun _ => 0)), (fun _ => (fun _ => 0)), by rw [ht]; exact hP9, va_K.moved hW.alike hK, hD9⟩, hS.F ht⟩) hS.2.2 dX13_look1_168
              · skip
                have b_ := zF_ne rfl zk_46 c_
                refine lv_aload_n hx hb dX13_look1_135 rfl (lv_at hl 0 rfl) ?_
                refine lv_iconst (v := 3) hx hb dX13_look1_136 (by decide) ?_
                refine va_put (D := (dC, dI)) (ci := 13) (v := .int 3) (ty := .int) (C := RX13) (T := TX13) (N := 75) hx hb hG zuX13 tyX13 tyX13_ok nmX13 hown hK hP hD hS 0 rfl rfl 36 (by decide) (hG _ zv1640) (fun _ h9 => h9) rfl (by decide +kernel) rfl rfl (Nat.le_of_ble_eq_true rfl) dX13_look1_137 (fun H locs hP hD hS => ?_)
                have hP : va_P (dC, dI) vwCl [(h0, .inr (13, mX13 q0 (upd (upd (upd v0 35 (u0_ 0)) 36 3) 37 (u0_ 0)))), ((q0 0), zi k1 600 f1)] H := hP
                have hD : va_D A [(h0, .inr (13, mX13 q0 (upd (upd (upd v0 35 (u0_ 0)) 36 3) 37 (u0_ 0)))), ((q0 0), zi k1 600 f1)] := hD
                refine lv_aload_n hx hb dX13_look1_140 rfl (lv_at hl 0 rfl) ?_
                refine lv_aload_n hx hb dX13_look1_141 rfl (lv_at hl 0 rfl) ?_
                refine va_get (D := (dC, dI)) (ci := 13) (v := .int (u0_ 0)) (C := RX13) (T := TX13) (N := 75) hx hb hG zuX13 hown hK hP 0 rfl rfl 37 (by decide) (hG _ zv1641) (fun _ h9 => h9) rfl dX13_look1_142 ?_
                refine lv_iconst (v := 2) hx hb dX13_look1_145 (by decide) ?_
                refine lv_iadd hx hb dX13_look1_146 ?_
                refine lv_topi (fun z146 e_z146 => ?_)
                have b_ := zadd rfl zk_2 e_z146 (by omega) (by omega)
                have b_ : 0 ≤ z146.toInt ∧ z146.toInt ≤ 600 := ⟨by omega, by omega⟩
                refine va_put (D := (dC, dI)) (ci := 13) (v := .int z146) (ty := .int) (C := RX13) (T := TX13) (N := 75) hx hb hG zuX13 tyX13 tyX13_ok nmX13 hown hK hP hD hS 0 rfl rfl 35 (by decide) (hG _ zv1639) (fun _ h9 => h9) rfl (by decide +kernel) rfl rfl (Nat.le_of_ble_eq_true rfl) dX13_look1_147 (fun H locs hP hD hS => ?_)
                have hP : va_P (dC, dI) vwCl [(h0, .inr (13, mX13 q0 (upd (upd (upd v0 35 z146) 36 3) 37 (u0_ 0)))), ((q0 0), zi k1 600 f1)] H := hP
                have hD : va_D A [(h0, .inr (13, mX13 q0 (upd (upd (upd v0 35 z146) 36 3) 37 (u0_ 0)))), ((q0 0), zi k1 600 f1)] := hD
                refine lv_goto (tgt := 168) hx hb dX13_look1_150 (by decide) ?_
                refine W.widen (k := 0) (n := 0) (by decide) (by decide) ?_
                have hpost : (0 ≤ z146.toInt ∧ z146.toInt ≤ 600) ∧ (0 ≤ (3 : Int32).toInt ∧ (3 : Int32).toInt ≤ 3) ∧ (0 ≤ (u0_ 0).toInt ∧ (u0_ 0).toInt ≤ 600) ∧ (z146.toInt ≤ (v0 34).toInt) ∧ ((v0 35).toInt ≤ (u0_ 0).toInt) ∧ ((u0_ 0).toInt ≤ z146.toInt) ∧ ((3 : Int32).toInt ≠ 0 → (u0_ 0).toInt < z146.toInt) ∧ ((3 : Int32).toInt = 0 → (u0_ 0).toInt = (v0 34).toInt) ∧ (zBl f1 (v0 34).toInt (v0 35).toInt (u0_ 0).toInt) ∧ (zMl f1 (v0 34).toInt (u0_ 0).toInt (3 : Int32).toInt z146.toInt) := ⟨⟨by omega, by omega⟩, ⟨by omega, by omega⟩, ⟨by omega, by omega⟩, by omega, by omega, by omega, by omega, by omega, by first | exact ⟨by omega, hI0_2, fun h_ => by omega, by omega⟩ | exact ⟨by omega, hI0_2, fun h_ => by have b9 := hX21_1 (by omega); rw [e_z20] at b9; exact b9, by omega⟩, by first | exact Or.inl ⟨by omega, by first | omega | decide⟩ | exact Or.inr (Or.inl ⟨by omega, by have t_ := hX76_0 (by omega); rw [e_z75] at t_; exact t_, by first | omega | decide, ⟨by omega, hX97_5, hX97_3, by omega⟩⟩) | exact Or.inr (Or.inr (Or.inl ⟨by omega, fun t_ => hX76_1 (by omega) (by rw [e_z75]; exact t_), ⟨zgt e_z114 (by omega) (by omega), by omega, zgu (hX127_1 (by omega)) (by omega) (by omega)⟩, by first | omega | decide, by omega⟩)) | exact Or.inr (Or.inr (Or.inr ⟨by omega, fun t_ => hX76_1 (by omega) (by rw [e_z75]; exact t_), fun d_ => absurd ((zgt e_z114 (by omega) rfl).symm.trans d_.1) (by omega), by first | omega | decide, by omega⟩)) | exact Or.inr (Or.inr (Or.inr ⟨by omega, fun t_ => hX76_1 (by omega) (by rw [e_z75]; exact t_), fun d_ => absurd ((zgu (hX127_1 (by have d1_ := d_.2.1; omega)) (by omega) rfl).symm.trans d_.2.2) (by omega), by first | omega | decide, by omega⟩))⟩
                have hP9 : va_P (dC, dI) vwCl [(h0, .inr (13, mX13 q0 (upd (upd (upd v0 35 z146) 36 3) 37 (u0_ 0)))), ((q0 0), zi k1 600 f1)] H := hP
                have hD9 : va_D A [(h0, .inr (13, mX13 q0 (upd (upd (upd v0 35 z146) 36 3) 37 (u0_ 0)))), ((q0 0), zi k1 600 f1)] := hD
                exact W.vret hx hb hr (fun t ht hW => ⟨⟨(fun i => ([z146, 3, (u0_ 0)] : List (Int32)).getD i 0), rfl, hpost, (fun _ => 0), (fun _ => (fun _ => 0)), (fun _ => (fun _ => 0)), by rw [ht]; exact hP9, va_K.moved hW.alike hK, hD9⟩, hS.F ht⟩) hS.2.2 dX13_look1_168
          · skip
            have b_ := zF_eq rfl zk_0 c_
            refine lv_aload_n hx hb dX13_look1_82 rfl (lv_at hl 0 rfl) ?_
            refine lv_iconst (v := 1) hx hb dX13_look1_83 (by decide) ?_
            refine va_put (D := (dC, dI)) (ci := 13) (v := .int 1) (ty := .int) (C := RX13) (T := TX13) (N := 75) hx hb hG zuX13 tyX13 tyX13_ok nmX13 hown hK hP hD hS 0 rfl rfl 36 (by decide) (hG _ zv1640) (fun _ h9 => h9) rfl (by decide +kernel) rfl rfl (Nat.le_of_ble_eq_true rfl) dX13_look1_84 (fun H locs hP hD hS => ?_)
            have hP : va_P (dC, dI) vwCl [(h0, .inr (13, mX13 q0 (upd (upd (upd v0 35 (u0_ 0)) 36 1) 37 (u0_ 0)))), ((q0 0), zi k1 600 f1)] H := hP
            have hD : va_D A [(h0, .inr (13, mX13 q0 (upd (upd (upd v0 35 (u0_ 0)) 36 1) 37 (u0_ 0)))), ((q0 0), zi k1 600 f1)] := hD
            refine lv_aload_n hx hb dX13_look1_87 rfl (lv_at hl 0 rfl) ?_
            refine lv_aload_n hx hb dX13_look1_88 rfl (lv_at hl 0 rfl) ?_
            refine lv_aload_n hx hb dX13_look1_89 rfl (lv_at hl 0 rfl) ?_
            refine va_get (D := (dC, dI)) (ci := 13) (v := .int (u0_ 0)) (C := RX13) (T := TX13) (N := 75) hx hb hG zuX13 hown hK hP 0 rfl rfl 37 (by decide) (hG _ zv1641) (fun _ h9 => h9) rfl dX13_look1_90 ?_
            refine lv_aload_n hx hb dX13_look1_93 rfl (lv_at hl 0 rfl) ?_
            refine va_get (D := (dC, dI)) (ci := 13) (v := .int (v0 34)) (C := RX13) (T := TX13) (N := 75) hx hb hG zuX13 hown hK hP 0 rfl rfl 34 (by decide) (hG _ zv1638) (fun _ h9 => h9) rfl dX13_look1_94 ?_
            have hPc := hP.sub (ws' := [(h0, .inr (13, mX13 q0 (upd (upd (upd v0 35 (u0_ 0)) 36 1) 37 (u0_ 0)))), ((q0 0), zi k1 600 f1)]) [0, 1] rfl
            have hDc := hD.sub (ws' := [(h0, .inr (13, mX13 q0 (upd (upd (upd v0 35 (u0_ 0)) 36 1) 37 (u0_ 0)))), ((q0 0), zi k1 600 f1)]) [0, 1] (by decide) rfl
            have hKc := hK.sub (tys' := [(k1, .byte)]) [0] rfl
            have hFc := va_free (wc := [(h0, .inr (13, mX13 q0 (upd (upd (upd v0 35 (u0_ 0)) 36 1) 37 (u0_ 0)))), ((q0 0), zi k1 600 f1)]) hD hS hA [0, 1] rfl
            refine va_calli (va_runV (As := [.int (u0_ 0), .int (v0 34)]) (rest := [.ref h0]) ⟨hx, hb, hml, hown, hG⟩ (sX13_runEnd_0 l dC dI adK adV h0 q0 k1 H.size (upd (upd (upd v0 35 (u0_ 0)) 36 1) 37 (u0_ 0)) f1 (u0_ 0) (v0 34) (zR_upd (zR_upd (zR_upd hv0 35 (show (0 : Int) ≤ ((u0_ 0) : Int32).toInt from by omega) (show ((u0_ 0) : Int32).toInt ≤ (600 : Int) from by omega)) 36 (show (0 : Int) ≤ (1 : Int32).toInt from by decide) (show (1 : Int32).toInt ≤ (3 : Int) from by decide)) 37 (show (0 : Int) ≤ ((u0_ 0) : Int32).toInt from by omega) (show ((u0_ 0) : Int32).toInt ≤ (600 : Int) from by omega)) ⟨show (0 : Int) ≤ ((u0_ 0) : Int32).toInt from by omega, show ((u0_ 0) : Int32).toInt ≤ (600 : Int) from by omega⟩ ⟨show (0 : Int) ≤ ((v0 34) : Int32).toInt from by omega, show ((v0 34) : Int32).toInt ≤ (600 : Int) from by omega⟩) (cwV 2 hG (zgV zv1858 zv1860 zv51 zv142 zv1861) rfl rfl rfl (by decide +kernel) ⟨Nat.le_of_ble_eq_true rfl, Nat.le_of_ble_eq_true rfl⟩) ⟨zPc_blind, va_recv hKc hPc (ci := 13) (q0 := 0) rfl rfl, zPc_pre hPc hKc hDc hE hS hFc hZ⟩ rfl rfl hl.1 rfl (lv_room (Nat.le_of_ble_eq_true rfl)) dX13_look1_97 ⟨Nat.le_of_ble_eq_true rfl, Nat.le_of_ble_eq_true rfl⟩) hS (fun q _ h => hFc q h) hFc (fun r97_ u97_ t H1 locs ht hvm hw hB hz1 hk1 hS => ?_)
            replace hw : (0 ≤ r97_.toInt ∧ r97_.toInt ≤ 600) ∧ ((u0_ 0).toInt ≤ r97_.toInt) ∧ (r97_.toInt ≤ (v0 34).toInt ∨ r97_.toInt = (u0_ 0).toInt) ∧ (r97_.toInt ≤ 600) ∧ (r97_.toInt < (v0 34).toInt → ¬ zTok (f1 ((r97_ : Int32)).toNatClampNeg).toInt) ∧ ((u0_ 0).toInt < (v0 34).toInt → zTok (f1 (((u0_ 0) : Int32)).toNatClampNeg).toInt → (u0_ 0).toInt < r97_.toInt) ∧ (zAt f1 (u0_ 0).toInt r97_.toInt) := hw
            obtain ⟨b_, hX97_0, hX97_1, hX97_2, hX97_3, hX97_4, hX97_5⟩ := hw
            obtain ⟨w97_, a97_, b97_, hP1, hK1, hD1⟩ := hB
            rw [ht] at hP1
            obtain ⟨hP, hD⟩ := va_join (wr := []) (w1 := [(h0, .inr (13, mX13 q0 (upd (upd (upd v0 35 (u0_ 0)) 36 1) 37 (u0_ 0)))), ((q0 0), zi k1 600 f1)]) hP hD [0, 1] [] rfl rfl (by decide) (by decide) hk1 hFc hP1 hD1
            have hP : va_P (dC, dI) vwCl [(h0, .inr (13, mX13 q0 (upd (upd (upd v0 35 (u0_ 0)) 36 1) 37 (u0_ 0)))), ((q0 0), zi k1 600 f1)] H1 := hP.sub [0, 1] rfl
            have hD : va_D A [(h0, .inr (13, mX13 q0 (upd (upd (upd v0 35 (u0_ 0)) 36 1) 37 (u0_ 0)))), ((q0 0), zi k1 600 f1)] := hD.sub [0, 1] (by decide) rfl
            generalize H1 = H at hP hS ⊢
            clear hz1
            have b_ := hX97_4 (by omega) (by rw [← e_z75]; exact hX76_0 (by omega))
            refine va_put (D := (dC, dI)) (ci := 13) (v := .int r97_) (ty := .int) (C := RX13) (T := TX13) (N := 75) hx hb hG zuX13 tyX13 tyX13_ok nmX13 hown hK hP hD hS 0 rfl rfl 35 (by decide) (hG _ zv1639) (fun _ h9 => h9) rfl (by decide +kernel) rfl rfl (Nat.le_of_ble_eq_true rfl) dX13_look1_100 (fun H locs hP hD hS => ?_)
            have hP : va_P (dC, dI) vwCl [(h0, .inr (13, mX13 q0 (upd (upd (upd v0 35 r97_) 36 1) 37 (u0_ 0)))), ((q0 0), zi k1 600 f1)] H := hP
            have hD : va_D A [(h0, .inr (13, mX13 q0 (upd (upd (upd v0 35 r97_) 36 1) 37 (u0_ 0)))), ((q0 0), zi k1 600 f1)] := hD
            refine lv_goto (tgt := 168) hx hb dX13_look1_103 (by decide) ?_
            refine W.widen (k := 0) (n := 0) (by decide) (by decide) ?_
            have hpost : (0 ≤ r97_.toInt ∧ r97_.toInt ≤ 600) ∧ (0 ≤ (1 : Int32).toInt ∧ (1 : Int32).toInt ≤ 3) ∧ (0 ≤ (u0_ 0).toInt ∧ (u0_ 0).toInt ≤ 600) ∧ (r97_.toInt ≤ (v0 34).toInt) ∧ ((v0 35).toInt ≤ (u0_ 0).toInt) ∧ ((u0_ 0).toInt ≤ r97_.toInt) ∧ ((1 : Int32).toInt ≠ 0 → (u0_ 0).toInt < r97_.toInt) ∧ ((1 : Int32).toInt = 0 → (u0_ 0).toInt = (v0 34).toInt) ∧ (zBl f1 (v0 34).toInt (v0 35).toInt (u0_ 0).toInt) ∧ (zMl f1 (v0 34).toInt (u0_ 0).toInt (1 : Int32).toInt r97_.toInt) := ⟨⟨by omega, by omega⟩, ⟨by omega, by omega⟩, ⟨by omega, by omega⟩, by omega, by omega, by omega, by omega, by omega, by first | exact ⟨by omega, hI0_2, fun h_ => by omega, by omega⟩ | exact ⟨by omega, hI0_2, fun h_ => by have b9 := hX21_1 (by omega); rw [e_z20] at b9; exact b9, by omega⟩, by first | exact Or.inl ⟨by omega, by first | omega | decide⟩ | exact Or.inr (Or.inl ⟨by omega, by have t_ := hX76_0 (by omega); rw [e_z75] at t_; exact t_, by first | omega | decide, ⟨by omega, hX97_5, hX97_3, by omega⟩⟩) | exact Or.inr (Or.inr (Or.inl ⟨by omega, fun t_ => hX76_1 (by omega) (by rw [e_z75]; exact t_), ⟨zgt e_z114 (by omega) (by omega), by omega, zgu (hX127_1 (by omega)) (by omega) (by omega)⟩, by first | omega | decide, by omega⟩)) | exact Or.inr (Or.inr (Or.inr ⟨by omega, fun t_ => hX76_1 (by omega) (by rw [e_z75]; exact t_), fun d_ => absurd ((zgt e_z114 (by omega) rfl).symm.trans d_.1) (by omega), by first | omega | decide, by omega⟩)) | exact Or.inr (Or.inr (Or.inr ⟨by omega, fun t_ => hX76_1 (by omega) (by rw [e_z75]; exact t_), fun d_ => absurd ((zgu (hX127_1 (by have d1_ := d_.2.1; omega)) (by omega) rfl).symm.trans d_.2.2) (by omega), by first | omega | decide, by omega⟩))⟩
            have hP9 : va_P (dC, dI) vwCl [(h0, .inr (13, mX13 q0 (upd (upd (upd v0 35 r97_) 36 1) 37 (u0_ 0)))), ((q0 0), zi k1 600 f1)] H := hP
            have hD9 : va_D A [(h0, .inr (13, mX13 q0 (upd (upd (upd v0 35 r97_) 36 1) 37 (u0_ 0)))), ((q0 0), zi k1 600 f1)] := hD
            exact W.vret hx hb hr (fun t ht hW => ⟨⟨(fun i => ([r97_, 1, (u0_ 0)] : List (Int32)).getD i 0), rfl, hpost, (fun _ => 0), (fun _ => (fun _ => 0)), (fun _ => (fun _ => 0)), by rw [ht]; exact hP9, va_K.moved hW.alike hK, hD9⟩, hS.F ht⟩) hS.2.2 dX13_look1_168
        · skip
          have b_ := zF_ne rfl rfl c_
          refine lv_aload_n hx hb dX13_look1_59 rfl (lv_at hl 0 rfl) ?_
          refine lv_iconst (v := 0) hx hb dX13_look1_60 (by decide) ?_
          refine va_put (D := (dC, dI)) (ci := 13) (v := .int 0) (ty := .int) (C := RX13) (T := TX13) (N := 75) hx hb hG zuX13 tyX13 tyX13_ok nmX13 hown hK hP hD hS 0 rfl rfl 36 (by decide) (hG _ zv1640) (fun _ h9 => h9) rfl (by decide +kernel) rfl rfl (Nat.le_of_ble_eq_true rfl) dX13_look1_61 (fun H locs hP hD hS => ?_)
          have hP : va_P (dC, dI) vwCl [(h0, .inr (13, mX13 q0 (upd (upd (upd v0 35 (u0_ 0)) 36 0) 37 (u0_ 0)))), ((q0 0), zi k1 600 f1)] H := hP
          have hD : va_D A [(h0, .inr (13, mX13 q0 (upd (upd (upd v0 35 (u0_ 0)) 36 0) 37 (u0_ 0)))), ((q0 0), zi k1 600 f1)] := hD
          refine lv_goto (tgt := 168) hx hb dX13_look1_64 (by decide) ?_
          refine W.widen (k := 0) (n := 0) (by decide) (by decide) ?_
          have hpost : (0 ≤ (u0_ 0).toInt ∧ (u0_ 0).toInt ≤ 600) ∧ (0 ≤ (0 : Int32).toInt ∧ (0 : Int32).toInt ≤ 3) ∧ (0 ≤ (u0_ 0).toInt ∧ (u0_ 0).toInt ≤ 600) ∧ ((u0_ 0).toInt ≤ (v0 34).toInt) ∧ ((v0 35).toInt ≤ (u0_ 0).toInt) ∧ ((u0_ 0).toInt ≤ (u0_ 0).toInt) ∧ ((0 : Int32).toInt ≠ 0 → (u0_ 0).toInt < (u0_ 0).toInt) ∧ ((0 : Int32).toInt = 0 → (u0_ 0).toInt = (v0 34).toInt) ∧ (zBl f1 (v0 34).toInt (v0 35).toInt (u0_ 0).toInt) ∧ (zMl f1 (v0 34).toInt (u0_ 0).toInt (0 : Int32).toInt (u0_ 0).toInt) := ⟨⟨by omega, by omega⟩, ⟨by omega, by omega⟩, ⟨by omega, by omega⟩, by omega, by omega, by omega, by omega, by omega, by first | exact ⟨by omega, hI0_2, fun h_ => by omega, by omega⟩ | exact ⟨by omega, hI0_2, fun h_ => by have b9 := hX21_1 (by omega); rw [e_z20] at b9; exact b9, by omega⟩, by first | exact Or.inl ⟨by omega, by first | omega | decide⟩ | exact Or.inr (Or.inl ⟨by omega, by have t_ := hX76_0 (by omega); rw [e_z75] at t_; exact t_, by first | omega | decide, ⟨by omega, hX97_5, hX97_3, by omega⟩⟩) | exact Or.inr (Or.inr (Or.inl ⟨by omega, fun t_ => hX76_1 (by omega) (by rw [e_z75]; exact t_), ⟨zgt e_z114 (by omega) (by omega), by omega, zgu (hX127_1 (by omega)) (by omega) (by omega)⟩, by first | omega | decide, by omega⟩)) | exact Or.inr (Or.inr (Or.inr ⟨by omega, fun t_ => hX76_1 (by omega) (by rw [e_z75]; exact t_), fun d_ => absurd ((zgt e_z114 (by omega) rfl).symm.trans d_.1) (by omega), by first | omega | decide, by omega⟩)) | exact Or.inr (Or.inr (Or.inr ⟨by omega, fun t_ => hX76_1 (by omega) (by rw [e_z75]; exact t_), fun d_ => absurd ((zgu (hX127_1 (by have d1_ := d_.2.1; omega)) (by omega) rfl).symm.trans d_.2.2) (by omega), by first | omega | decide, by omega⟩))⟩
          have hP9 : va_P (dC, dI) vwCl [(h0, .inr (13, mX13 q0 (upd (upd (upd v0 35 (u0_ 0)) 36 0) 37 (u0_ 0)))), ((q0 0), zi k1 600 f1)] H := hP
          have hD9 : va_D A [(h0, .inr (13, mX13 q0 (upd (upd (upd v0 35 (u0_ 0)) 36 0) 37 (u0_ 0)))), ((q0 0), zi k1 600 f1)] := hD
          exact W.vret hx hb hr (fun t ht hW => ⟨⟨(fun i => ([(u0_ 0), 0, (u0_ 0)] : List (Int32)).getD i 0), rfl, hpost, (fun _ => 0), (fun _ => (fun _ => 0)), (fun _ => (fun _ => 0)), by rw [ht]; exact hP9, va_K.moved hW.alike hK, hD9⟩, hS.F ht⟩) hS.2.2 dX13_look1_168
      · skip
        have b_ := zF_eq rfl zk_0 c_
        refine lv_aload_n hx hb dX13_look1_27 rfl (lv_at hl 0 rfl) ?_
        refine lv_dup hx hb dX13_look1_28 rfl ?_
        refine va_get (D := (dC, dI)) (ci := 13) (v := .int (u0_ 0)) (C := RX13) (T := TX13) (N := 75) hx hb hG zuX13 hown hK hP 0 rfl rfl 35 (by decide) (hG _ zv1639) (fun _ h9 => h9) rfl dX13_look1_29 ?_
        refine lv_iconst (v := 1) hx hb dX13_look1_32 (by decide) ?_
        refine lv_iadd hx hb dX13_look1_33 ?_
        refine lv_topi (fun z33 e_z33 => ?_)
        have b_ := zadd rfl zk_1 e_z33 (by omega) (by omega)
        refine va_put (D := (dC, dI)) (ci := 13) (v := .int z33) (ty := .int) (C := RX13) (T := TX13) (N := 75) hx hb hG zuX13 tyX13 tyX13_ok nmX13 hown hK hP hD hS 0 rfl rfl 35 (by decide) (hG _ zv1639) (fun _ h9 => h9) rfl (by decide +kernel) rfl rfl (Nat.le_of_ble_eq_true rfl) dX13_look1_34 (fun H locs hP hD hS => ?_)
        have hP : va_P (dC, dI) vwCl [(h0, .inr (13, mX13 q0 (upd v0 35 z33))), ((q0 0), zi k1 600 f1)] H := hP
        have hD : va_D A [(h0, .inr (13, mX13 q0 (upd v0 35 z33))), ((q0 0), zi k1 600 f1)] := hD
        refine lv_goto (tgt := 0) hx hb dX13_look1_37 (by decide) ?_
        have hc : va_P (dC, dI) vwCl [(h0, .inr (13, mX13 q0 (upd v0 35 z33))), ((q0 0), zi k1 600 f1)] H ∧ va_D A [(h0, .inr (13, mX13 q0 (upd v0 35 z33))), ((q0 0), zi k1 600 f1)] ∧ va_S A s.heap H locs ∧ lv_has ls 1 [(0, .ref h0)] ∧ (0 ≤ z33.toInt ∧ z33.toInt ≤ 600) ∧ (z33.toInt ≤ (v0 34).toInt) ∧ ((v0 35).toInt ≤ z33.toInt) ∧ (zBq f1 (v0 35).toInt z33.toInt) := ⟨hP, hD, hS, lv_sub hl [0] rfl, ⟨by omega, by omega⟩, by omega, by omega, by first | exact zBq_0 (by omega) | exact zBq_s (by assumption) e_z20 (hX21_0 (by omega)) (by omega) (by omega)⟩
        exact hJ0 H locs ls (fun i => ([z33] : List (Int32)).getD i 0) (fun _ => 0) (fun _ => (fun _ => 0)) (fun _ => (fun _ => 0)) hc (show (600 - z33.toInt).toNat < (600 - (u0_ 0).toInt).toNat from by omega)
  · skip
    have hc : va_P (dC, dI) vwCl [(h0, .inr (13, mX13 q0 (upd v0 35 (v0 35)))), ((q0 0), zi k1 600 f1)] s.heap ∧ va_D A [(h0, .inr (13, mX13 q0 (upd v0 35 (v0 35)))), ((q0 0), zi k1 600 f1)] ∧ va_S A s.heap s.heap [] ∧ lv_has ls 1 [(0, .ref h0)] ∧ (0 ≤ (v0 35).toInt ∧ (v0 35).toInt ≤ 600) ∧ ((v0 35).toInt ≤ (v0 34).toInt) ∧ ((v0 35).toInt ≤ (v0 35).toInt) ∧ (zBq f1 (v0 35).toInt (v0 35).toInt) := ⟨hP, hD, hS, lv_sub hl [0] rfl, ⟨by omega, by omega⟩, by omega, by omega, by first | exact zBq_0 (by omega) | exact zBq_s (by assumption) e_z20 (hX21_0 (by omega)) (by omega) (by omega)⟩
    exact hJ0 s.heap [] ls (fun i => ([(v0 35)] : List (Int32)).getD i 0) (fun _ => 0) (fun _ => (fun _ => 0)) (fun _ => (fun _ => 0)) hc
